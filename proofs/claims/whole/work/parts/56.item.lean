/-! calls of an item -/
theorem rngs10 {a : Int32} (h : 0 ≤ a ∧ a ≤ 10) : a = 0 ∨ a = 1 ∨ a = 2 ∨ a = 3 ∨ a = 4 ∨ a = 5 ∨ a = 6 ∨ a = 7 ∨ a = 8 ∨ a = 9 ∨ a = 10 := by
  obtain ⟨k, hk, rfl⟩ := rngN (n := 10) (by omega) h
  have : k = 0 ∨ k = 1 ∨ k = 2 ∨ k = 3 ∨ k = 4 ∨ k = 5 ∨ k = 6 ∨ k = 7 ∨ k = 8 ∨ k = 9 ∨ k = 10 := by omega
  rcases this with rfl | rfl | rfl | rfl | rfl | rfl | rfl | rfl | rfl | rfl | rfl
  · exact Or.inl rfl
  · exact Or.inr (Or.inl rfl)
  · exact Or.inr (Or.inr (Or.inl rfl))
  · exact Or.inr (Or.inr (Or.inr (Or.inl rfl)))
  · exact Or.inr (Or.inr (Or.inr (Or.inr (Or.inl rfl))))
  · exact Or.inr (Or.inr (Or.inr (Or.inr (Or.inr (Or.inl rfl)))))
  · exact Or.inr (Or.inr (Or.inr (Or.inr (Or.inr (Or.inr (Or.inl rfl))))))
  · exact Or.inr (Or.inr (Or.inr (Or.inr (Or.inr (Or.inr (Or.inr (Or.inl rfl)))))))
  · exact Or.inr (Or.inr (Or.inr (Or.inr (Or.inr (Or.inr (Or.inr (Or.inr (Or.inl rfl))))))))
  · exact Or.inr (Or.inr (Or.inr (Or.inr (Or.inr (Or.inr (Or.inr (Or.inr (Or.inr (Or.inl rfl)))))))))
  · exact Or.inr (Or.inr (Or.inr (Or.inr (Or.inr (Or.inr (Or.inr (Or.inr (Or.inr (Or.inr (rfl))))))))))
/-- calls of an item's number -/
def fIt (s : zS) (i : Int32) (ok : Prop) (F : zP → Nat → Int32 → zS → Prop) (x : Int32) (s' : zS) : Prop := pif (¬ i < 0 ∧ ok) (match s.2.2.2.2.2.1 with
  | none => x = -2 ∧ s' = s
  | some p => pif (inZ p.1.length i) (∃ k, k < p.1.length ∧ i = nI k ∧ F p k x s') (x = -4 ∧ s' = s)) (x = -1 ∧ s' = s)
theorem fIt_yes {p : zP} {k : Nat} {F : zP → Nat → Int32 → zS → Prop} {x : Int32} {s s' : zS} (hk : k < p.1.length) (h10 : p.1.length ≤ 10) : pif (inZ p.1.length (nI k)) (∃ j, j < p.1.length ∧ nI k = nI j ∧ F p j x s') (x = -4 ∧ s' = s) ↔ F p k x s' := by
  rw [pif_pos ⟨k, hk, rfl⟩]
  constructor
  · rintro ⟨j, hj, e, h⟩
    rw [(nI_eq (by omega) (by omega)).mp e]; exact h
  · exact fun h => ⟨k, hk, rfl, h⟩
theorem ig_mem {l : List zI} {i : Nat} (h : i < l.length) : ig l i ∈ l := by
  unfold ig
  rw [List.getD_eq_getElem?_getD, List.getElem?_eq_getElem h]
  exact List.getElem_mem h
theorem m_wrong_lo {d : Nat} {i b : Int32} {I : Nat → Nat → Int32} {J : Nat → Nat → Int64} {P : Nat → Nat} (hi : i < 0) : gTM d 231 [.ref 171, .int i, .int b] (gST I J P) (fun r u => u = gST I J P ∧ r = some (.int (-1))) := by
  refine gT_n 2 ?_
  refine px_lt (X := i) (Y := (0)) (rfl) (rfl) (fun κ1 => ?_) (fun κ1 => ?_)
  · refine gT_n 3 ?_
    exact ⟨rfl, rfl⟩
  · exact absurd hi κ1
theorem m_wrong_0 {d : Nat} {i : Int32} {I : Nat → Nat → Int32} {J : Nat → Nat → Int64} {P : Nat → Nat} : gTM d 231 [.ref 171, .int i, .int 0] (gST I J P) (fun r u => u = gST I J P ∧ r = some (.int (-1))) := by
  refine gT_n 2 ?_
  refine px_lt (X := i) (Y := (0)) (rfl) (rfl) (fun κ1 => ?_) (fun κ1 => ?_)
  · refine gT_n 3 ?_
    exact ⟨rfl, rfl⟩
  · refine gT_n 2 ?_
    refine ⟨fun c => absurd (by decide) c, fun _ => ?_⟩
    refine gT_n 3 ?_
    exact ⟨rfl, rfl⟩
theorem o_item_c {d : Nat} {s : zS} {I : Nat → Nat → Int32} {J : Nat → Nat → Int64} {P : Nat → Nat} {i w : Int32} (hO : sOK s) (hC : RC s I J P) (hM : RM s I J) : gTM (d + 14) 131 [.ref 0, .int i, .int w] (gST I J P) (pC s (fIt s i (0 ≤ w ∧ w ≤ 10) (fun p k x s' => x = idF (ig p.1 k) w.toNatClampNeg ∧ s' = s))) := by
  obtain ⟨tp, fn, t, W, nm, pr, ch, i0, i1⟩ := s
  have hO0 := hO
  have hC0 := hC
  have hM0 := hM
  obtain ⟨oTp, oT, oW, oN, oP, oI0, oI1⟩ := hO
  obtain ⟨kTp, kF, kT, kW, kN, kP, kC, kI0, kI1, kB, kPP⟩ := hC
  obtain ⟨jTp, jF, jT, jSp, jW, jN, jP, jC, jI0, jI1, jB, jL⟩ := hM
  dsimp only at oTp oT oW oN oP oI0 oI1 kTp kF kT kW kN kP kC kI0 kI1 jTp jF jT jSp jW jN jP jC jI0 jI1
  try dsimp only
  by_cases hh : ¬ i < 0 ∧ (0 ≤ w ∧ w ≤ 10)
  · cases pr with
    | none =>
      refine gT_n 2 ?_
      refine px_lt (X := i) (Y := (0)) (rfl) (rfl) (fun κ1 => ?_) (fun κ1 => ?_)
      · refine gT_n 2 ?_
        exact absurd κ1 hh.1
      · refine gT_n 2 ?_
        refine px_lt (X := w) (Y := (0)) (rfl) (rfl) (fun κ2 => ?_) (fun κ2 => ?_)
        · refine gT_n 2 ?_
          exact absurd κ2 (Int32.not_lt.mpr hh.2.1)
        · refine gT_n 3 ?_
          refine px_le (X := w) (Y := (10)) (rfl) (rfl) (fun κ3 => ?_) (fun κ3 => ?_)
          · refine gT_n 4 ?_
            refine ⟨rfl, rfl, rfl, ?_⟩
            refine gT_n 3 ?_
            refine ⟨rfl, fun c => absurd c (kpT (p := fun z : Int32 => ¬ (¬ z = 0)) (show _ = (0 : Int32) from kP.1) (by decide)), fun _ => ?_⟩
            refine gT_n 2 ?_
            show gT _ 131 24 _ _ _ _ _
            refine gT_n 3 ?_
            refine ⟨fun c => absurd c (by decide), fun _ => ?_⟩
            refine gT_n 3 ?_
            exact ⟨_, _, I, J, P, rfl, rfl, ⟨(pif_pos hh).mpr ⟨rfl, rfl⟩, hO0⟩, hC0, hM0⟩
          · refine gT_n 2 ?_
            exact absurd hh.2.2 κ3
    | some p =>
      obtain ⟨h10, hoI, -⟩ := oP p rfl
      by_cases hj : inZ p.1.length i
      · obtain ⟨k, hk, rfl⟩ := hj
        obtain ⟨jj, -, -, hb, hI⟩ := cP_at (kP.2 p rfl) kPP hk h10
        have hq := hoI _ (ig_mem hk)
        rcases rngs10 hh.2 with rfl | rfl | rfl | rfl | rfl | rfl | rfl | rfl | rfl | rfl | rfl
        · refine gT_n 2 ?_
          refine ⟨fun c => absurd c (nI_pos (by omega)), fun _ => ?_⟩
          refine gT_n 2 ?_
          refine ⟨fun c => absurd c (by decide), fun _ => ?_⟩
          refine gT_n 3 ?_
          refine ⟨fun _ => ?_, fun c => absurd (by decide) c⟩
          refine gT_n 4 ?_
          refine ⟨rfl, rfl, rfl, ?_⟩
          refine gT_n 3 ?_
          refine ⟨rfl, fun _ => ?_, fun c => absurd c (kpT (p := fun z : Int32 => ¬ z = 0) (show _ = (1 : Int32) from kP.1) (by decide))⟩
          refine gT_n 2 ?_
          refine ⟨fun c => absurd c (nI_pos (by omega)), fun _ => ?_⟩
          refine gT_n 4 ?_
          refine ⟨rfl, pk_le p.1.length k (fun κ1 => ?_) (fun κ1 => ?_) ((kP.2 p rfl).1) (rfl) (by omega) (by omega)⟩
          · refine gT_n 2 ?_
            show gT _ 131 24 _ _ _ _ _
            refine gT_n 3 ?_
            refine ⟨fun c => absurd c (by decide), fun _ => ?_⟩
            refine gT_n 3 ?_
            exact absurd hk (by omega)
          · refine gT_n 3 ?_
            show gT _ 131 24 _ _ _ _ _
            refine gT_n 3 ?_
            refine ⟨fun _ => ?_, fun c => absurd (by decide) c⟩
            refine gT_n 5 ?_
            refine ⟨rfl, rfl, rfl, (pk_in k 10 (by omega) (rfl)), ?_⟩
            refine gT_top (aa_ref (b := P k) (rfl) (by omega) rfl) ?_
            refine gT_n 2 ?_
            refine ⟨hb.ob, rfl, gTM.use (c_detail0 hb hI hq) (Nat.le_refl _) (fun r u hq => ?_)⟩
            obtain ⟨rfl, rfl⟩ := hq  -- X1_detail[Rb, K0]
            refine gT_n 1 ?_
            exact ⟨_, _, I, J, P, rfl, rfl, ⟨(pif_pos hh).mpr ((pif_pos ⟨k, hk, rfl⟩).mpr ⟨k, hk, rfl, rfl, rfl⟩), hO0⟩, hC0, hM0⟩
        · refine gT_n 2 ?_
          refine ⟨fun c => absurd c (nI_pos (by omega)), fun _ => ?_⟩
          refine gT_n 2 ?_
          refine ⟨fun c => absurd c (by decide), fun _ => ?_⟩
          refine gT_n 3 ?_
          refine ⟨fun _ => ?_, fun c => absurd (by decide) c⟩
          refine gT_n 4 ?_
          refine ⟨rfl, rfl, rfl, ?_⟩
          refine gT_n 3 ?_
          refine ⟨rfl, fun _ => ?_, fun c => absurd c (kpT (p := fun z : Int32 => ¬ z = 0) (show _ = (1 : Int32) from kP.1) (by decide))⟩
          refine gT_n 2 ?_
          refine ⟨fun c => absurd c (nI_pos (by omega)), fun _ => ?_⟩
          refine gT_n 4 ?_
          refine ⟨rfl, pk_le p.1.length k (fun κ1 => ?_) (fun κ1 => ?_) ((kP.2 p rfl).1) (rfl) (by omega) (by omega)⟩
          · refine gT_n 2 ?_
            show gT _ 131 24 _ _ _ _ _
            refine gT_n 3 ?_
            refine ⟨fun c => absurd c (by decide), fun _ => ?_⟩
            refine gT_n 3 ?_
            exact absurd hk (by omega)
          · refine gT_n 3 ?_
            show gT _ 131 24 _ _ _ _ _
            refine gT_n 3 ?_
            refine ⟨fun _ => ?_, fun c => absurd (by decide) c⟩
            refine gT_n 5 ?_
            refine ⟨rfl, rfl, rfl, (pk_in k 10 (by omega) (rfl)), ?_⟩
            refine gT_top (aa_ref (b := P k) (rfl) (by omega) rfl) ?_
            refine gT_n 2 ?_
            refine ⟨hb.ob, rfl, gTM.use (c_detail1 hb hI hq) (Nat.le_refl _) (fun r u hq => ?_)⟩
            obtain ⟨rfl, rfl⟩ := hq  -- X1_detail[Rb, K1]
            refine gT_n 1 ?_
            exact ⟨_, _, I, J, P, rfl, rfl, ⟨(pif_pos hh).mpr ((pif_pos ⟨k, hk, rfl⟩).mpr ⟨k, hk, rfl, rfl, rfl⟩), hO0⟩, hC0, hM0⟩
        · refine gT_n 2 ?_
          refine ⟨fun c => absurd c (nI_pos (by omega)), fun _ => ?_⟩
          refine gT_n 2 ?_
          refine ⟨fun c => absurd c (by decide), fun _ => ?_⟩
          refine gT_n 3 ?_
          refine ⟨fun _ => ?_, fun c => absurd (by decide) c⟩
          refine gT_n 4 ?_
          refine ⟨rfl, rfl, rfl, ?_⟩
          refine gT_n 3 ?_
          refine ⟨rfl, fun _ => ?_, fun c => absurd c (kpT (p := fun z : Int32 => ¬ z = 0) (show _ = (1 : Int32) from kP.1) (by decide))⟩
          refine gT_n 2 ?_
          refine ⟨fun c => absurd c (nI_pos (by omega)), fun _ => ?_⟩
          refine gT_n 4 ?_
          refine ⟨rfl, pk_le p.1.length k (fun κ1 => ?_) (fun κ1 => ?_) ((kP.2 p rfl).1) (rfl) (by omega) (by omega)⟩
          · refine gT_n 2 ?_
            show gT _ 131 24 _ _ _ _ _
            refine gT_n 3 ?_
            refine ⟨fun c => absurd c (by decide), fun _ => ?_⟩
            refine gT_n 3 ?_
            exact absurd hk (by omega)
          · refine gT_n 3 ?_
            show gT _ 131 24 _ _ _ _ _
            refine gT_n 3 ?_
            refine ⟨fun _ => ?_, fun c => absurd (by decide) c⟩
            refine gT_n 5 ?_
            refine ⟨rfl, rfl, rfl, (pk_in k 10 (by omega) (rfl)), ?_⟩
            refine gT_top (aa_ref (b := P k) (rfl) (by omega) rfl) ?_
            refine gT_n 2 ?_
            refine ⟨hb.ob, rfl, gTM.use (c_detail2 hb hI hq) (Nat.le_refl _) (fun r u hq => ?_)⟩
            obtain ⟨rfl, rfl⟩ := hq  -- X1_detail[Rb, K2]
            refine gT_n 1 ?_
            exact ⟨_, _, I, J, P, rfl, rfl, ⟨(pif_pos hh).mpr ((pif_pos ⟨k, hk, rfl⟩).mpr ⟨k, hk, rfl, rfl, rfl⟩), hO0⟩, hC0, hM0⟩
        · refine gT_n 2 ?_
          refine ⟨fun c => absurd c (nI_pos (by omega)), fun _ => ?_⟩
          refine gT_n 2 ?_
          refine ⟨fun c => absurd c (by decide), fun _ => ?_⟩
          refine gT_n 3 ?_
          refine ⟨fun _ => ?_, fun c => absurd (by decide) c⟩
          refine gT_n 4 ?_
          refine ⟨rfl, rfl, rfl, ?_⟩
          refine gT_n 3 ?_
          refine ⟨rfl, fun _ => ?_, fun c => absurd c (kpT (p := fun z : Int32 => ¬ z = 0) (show _ = (1 : Int32) from kP.1) (by decide))⟩
          refine gT_n 2 ?_
          refine ⟨fun c => absurd c (nI_pos (by omega)), fun _ => ?_⟩
          refine gT_n 4 ?_
          refine ⟨rfl, pk_le p.1.length k (fun κ1 => ?_) (fun κ1 => ?_) ((kP.2 p rfl).1) (rfl) (by omega) (by omega)⟩
          · refine gT_n 2 ?_
            show gT _ 131 24 _ _ _ _ _
            refine gT_n 3 ?_
            refine ⟨fun c => absurd c (by decide), fun _ => ?_⟩
            refine gT_n 3 ?_
            exact absurd hk (by omega)
          · refine gT_n 3 ?_
            show gT _ 131 24 _ _ _ _ _
            refine gT_n 3 ?_
            refine ⟨fun _ => ?_, fun c => absurd (by decide) c⟩
            refine gT_n 5 ?_
            refine ⟨rfl, rfl, rfl, (pk_in k 10 (by omega) (rfl)), ?_⟩
            refine gT_top (aa_ref (b := P k) (rfl) (by omega) rfl) ?_
            refine gT_n 2 ?_
            refine ⟨hb.ob, rfl, gTM.use (c_detail3 hb hI hq) (Nat.le_refl _) (fun r u hq => ?_)⟩
            obtain ⟨rfl, rfl⟩ := hq  -- X1_detail[Rb, K3]
            refine gT_n 1 ?_
            exact ⟨_, _, I, J, P, rfl, rfl, ⟨(pif_pos hh).mpr ((pif_pos ⟨k, hk, rfl⟩).mpr ⟨k, hk, rfl, rfl, rfl⟩), hO0⟩, hC0, hM0⟩
        · refine gT_n 2 ?_
          refine ⟨fun c => absurd c (nI_pos (by omega)), fun _ => ?_⟩
          refine gT_n 2 ?_
          refine ⟨fun c => absurd c (by decide), fun _ => ?_⟩
          refine gT_n 3 ?_
          refine ⟨fun _ => ?_, fun c => absurd (by decide) c⟩
          refine gT_n 4 ?_
          refine ⟨rfl, rfl, rfl, ?_⟩
          refine gT_n 3 ?_
          refine ⟨rfl, fun _ => ?_, fun c => absurd c (kpT (p := fun z : Int32 => ¬ z = 0) (show _ = (1 : Int32) from kP.1) (by decide))⟩
          refine gT_n 2 ?_
          refine ⟨fun c => absurd c (nI_pos (by omega)), fun _ => ?_⟩
          refine gT_n 4 ?_
          refine ⟨rfl, pk_le p.1.length k (fun κ1 => ?_) (fun κ1 => ?_) ((kP.2 p rfl).1) (rfl) (by omega) (by omega)⟩
          · refine gT_n 2 ?_
            show gT _ 131 24 _ _ _ _ _
            refine gT_n 3 ?_
            refine ⟨fun c => absurd c (by decide), fun _ => ?_⟩
            refine gT_n 3 ?_
            exact absurd hk (by omega)
          · refine gT_n 3 ?_
            show gT _ 131 24 _ _ _ _ _
            refine gT_n 3 ?_
            refine ⟨fun _ => ?_, fun c => absurd (by decide) c⟩
            refine gT_n 5 ?_
            refine ⟨rfl, rfl, rfl, (pk_in k 10 (by omega) (rfl)), ?_⟩
            refine gT_top (aa_ref (b := P k) (rfl) (by omega) rfl) ?_
            refine gT_n 2 ?_
            refine ⟨hb.ob, rfl, gTM.use (c_detail4 hb hI hq) (Nat.le_refl _) (fun r u hq => ?_)⟩
            obtain ⟨rfl, rfl⟩ := hq  -- X1_detail[Rb, K4]
            refine gT_n 1 ?_
            exact ⟨_, _, I, J, P, rfl, rfl, ⟨(pif_pos hh).mpr ((pif_pos ⟨k, hk, rfl⟩).mpr ⟨k, hk, rfl, rfl, rfl⟩), hO0⟩, hC0, hM0⟩
        · refine gT_n 2 ?_
          refine ⟨fun c => absurd c (nI_pos (by omega)), fun _ => ?_⟩
          refine gT_n 2 ?_
          refine ⟨fun c => absurd c (by decide), fun _ => ?_⟩
          refine gT_n 3 ?_
          refine ⟨fun _ => ?_, fun c => absurd (by decide) c⟩
          refine gT_n 4 ?_
          refine ⟨rfl, rfl, rfl, ?_⟩
          refine gT_n 3 ?_
          refine ⟨rfl, fun _ => ?_, fun c => absurd c (kpT (p := fun z : Int32 => ¬ z = 0) (show _ = (1 : Int32) from kP.1) (by decide))⟩
          refine gT_n 2 ?_
          refine ⟨fun c => absurd c (nI_pos (by omega)), fun _ => ?_⟩
          refine gT_n 4 ?_
          refine ⟨rfl, pk_le p.1.length k (fun κ1 => ?_) (fun κ1 => ?_) ((kP.2 p rfl).1) (rfl) (by omega) (by omega)⟩
          · refine gT_n 2 ?_
            show gT _ 131 24 _ _ _ _ _
            refine gT_n 3 ?_
            refine ⟨fun c => absurd c (by decide), fun _ => ?_⟩
            refine gT_n 3 ?_
            exact absurd hk (by omega)
          · refine gT_n 3 ?_
            show gT _ 131 24 _ _ _ _ _
            refine gT_n 3 ?_
            refine ⟨fun _ => ?_, fun c => absurd (by decide) c⟩
            refine gT_n 5 ?_
            refine ⟨rfl, rfl, rfl, (pk_in k 10 (by omega) (rfl)), ?_⟩
            refine gT_top (aa_ref (b := P k) (rfl) (by omega) rfl) ?_
            refine gT_n 2 ?_
            refine ⟨hb.ob, rfl, gTM.use (c_detail5 hb hI hq) (Nat.le_refl _) (fun r u hq => ?_)⟩
            obtain ⟨rfl, rfl⟩ := hq  -- X1_detail[Rb, K5]
            refine gT_n 1 ?_
            exact ⟨_, _, I, J, P, rfl, rfl, ⟨(pif_pos hh).mpr ((pif_pos ⟨k, hk, rfl⟩).mpr ⟨k, hk, rfl, rfl, rfl⟩), hO0⟩, hC0, hM0⟩
        · refine gT_n 2 ?_
          refine ⟨fun c => absurd c (nI_pos (by omega)), fun _ => ?_⟩
          refine gT_n 2 ?_
          refine ⟨fun c => absurd c (by decide), fun _ => ?_⟩
          refine gT_n 3 ?_
          refine ⟨fun _ => ?_, fun c => absurd (by decide) c⟩
          refine gT_n 4 ?_
          refine ⟨rfl, rfl, rfl, ?_⟩
          refine gT_n 3 ?_
          refine ⟨rfl, fun _ => ?_, fun c => absurd c (kpT (p := fun z : Int32 => ¬ z = 0) (show _ = (1 : Int32) from kP.1) (by decide))⟩
          refine gT_n 2 ?_
          refine ⟨fun c => absurd c (nI_pos (by omega)), fun _ => ?_⟩
          refine gT_n 4 ?_
          refine ⟨rfl, pk_le p.1.length k (fun κ1 => ?_) (fun κ1 => ?_) ((kP.2 p rfl).1) (rfl) (by omega) (by omega)⟩
          · refine gT_n 2 ?_
            show gT _ 131 24 _ _ _ _ _
            refine gT_n 3 ?_
            refine ⟨fun c => absurd c (by decide), fun _ => ?_⟩
            refine gT_n 3 ?_
            exact absurd hk (by omega)
          · refine gT_n 3 ?_
            show gT _ 131 24 _ _ _ _ _
            refine gT_n 3 ?_
            refine ⟨fun _ => ?_, fun c => absurd (by decide) c⟩
            refine gT_n 5 ?_
            refine ⟨rfl, rfl, rfl, (pk_in k 10 (by omega) (rfl)), ?_⟩
            refine gT_top (aa_ref (b := P k) (rfl) (by omega) rfl) ?_
            refine gT_n 2 ?_
            refine ⟨hb.ob, rfl, gTM.use (c_detail6 hb hI hq) (Nat.le_refl _) (fun r u hq => ?_)⟩
            obtain ⟨rfl, rfl⟩ := hq  -- X1_detail[Rb, K6]
            refine gT_n 1 ?_
            exact ⟨_, _, I, J, P, rfl, rfl, ⟨(pif_pos hh).mpr ((pif_pos ⟨k, hk, rfl⟩).mpr ⟨k, hk, rfl, rfl, rfl⟩), hO0⟩, hC0, hM0⟩
        · refine gT_n 2 ?_
          refine ⟨fun c => absurd c (nI_pos (by omega)), fun _ => ?_⟩
          refine gT_n 2 ?_
          refine ⟨fun c => absurd c (by decide), fun _ => ?_⟩
          refine gT_n 3 ?_
          refine ⟨fun _ => ?_, fun c => absurd (by decide) c⟩
          refine gT_n 4 ?_
          refine ⟨rfl, rfl, rfl, ?_⟩
          refine gT_n 3 ?_
          refine ⟨rfl, fun _ => ?_, fun c => absurd c (kpT (p := fun z : Int32 => ¬ z = 0) (show _ = (1 : Int32) from kP.1) (by decide))⟩
          refine gT_n 2 ?_
          refine ⟨fun c => absurd c (nI_pos (by omega)), fun _ => ?_⟩
          refine gT_n 4 ?_
          refine ⟨rfl, pk_le p.1.length k (fun κ1 => ?_) (fun κ1 => ?_) ((kP.2 p rfl).1) (rfl) (by omega) (by omega)⟩
          · refine gT_n 2 ?_
            show gT _ 131 24 _ _ _ _ _
            refine gT_n 3 ?_
            refine ⟨fun c => absurd c (by decide), fun _ => ?_⟩
            refine gT_n 3 ?_
            exact absurd hk (by omega)
          · refine gT_n 3 ?_
            show gT _ 131 24 _ _ _ _ _
            refine gT_n 3 ?_
            refine ⟨fun _ => ?_, fun c => absurd (by decide) c⟩
            refine gT_n 5 ?_
            refine ⟨rfl, rfl, rfl, (pk_in k 10 (by omega) (rfl)), ?_⟩
            refine gT_top (aa_ref (b := P k) (rfl) (by omega) rfl) ?_
            refine gT_n 2 ?_
            refine ⟨hb.ob, rfl, gTM.use (c_detail7 hb hI hq) (Nat.le_refl _) (fun r u hq => ?_)⟩
            obtain ⟨rfl, rfl⟩ := hq  -- X1_detail[Rb, K7]
            refine gT_n 1 ?_
            exact ⟨_, _, I, J, P, rfl, rfl, ⟨(pif_pos hh).mpr ((pif_pos ⟨k, hk, rfl⟩).mpr ⟨k, hk, rfl, rfl, rfl⟩), hO0⟩, hC0, hM0⟩
        · refine gT_n 2 ?_
          refine ⟨fun c => absurd c (nI_pos (by omega)), fun _ => ?_⟩
          refine gT_n 2 ?_
          refine ⟨fun c => absurd c (by decide), fun _ => ?_⟩
          refine gT_n 3 ?_
          refine ⟨fun _ => ?_, fun c => absurd (by decide) c⟩
          refine gT_n 4 ?_
          refine ⟨rfl, rfl, rfl, ?_⟩
          refine gT_n 3 ?_
          refine ⟨rfl, fun _ => ?_, fun c => absurd c (kpT (p := fun z : Int32 => ¬ z = 0) (show _ = (1 : Int32) from kP.1) (by decide))⟩
          refine gT_n 2 ?_
          refine ⟨fun c => absurd c (nI_pos (by omega)), fun _ => ?_⟩
          refine gT_n 4 ?_
          refine ⟨rfl, pk_le p.1.length k (fun κ1 => ?_) (fun κ1 => ?_) ((kP.2 p rfl).1) (rfl) (by omega) (by omega)⟩
          · refine gT_n 2 ?_
            show gT _ 131 24 _ _ _ _ _
            refine gT_n 3 ?_
            refine ⟨fun c => absurd c (by decide), fun _ => ?_⟩
            refine gT_n 3 ?_
            exact absurd hk (by omega)
          · refine gT_n 3 ?_
            show gT _ 131 24 _ _ _ _ _
            refine gT_n 3 ?_
            refine ⟨fun _ => ?_, fun c => absurd (by decide) c⟩
            refine gT_n 5 ?_
            refine ⟨rfl, rfl, rfl, (pk_in k 10 (by omega) (rfl)), ?_⟩
            refine gT_top (aa_ref (b := P k) (rfl) (by omega) rfl) ?_
            refine gT_n 2 ?_
            refine ⟨hb.ob, rfl, gTM.use (c_detail8 hb hI hq) (Nat.le_refl _) (fun r u hq => ?_)⟩
            obtain ⟨rfl, rfl⟩ := hq  -- X1_detail[Rb, K8]
            refine gT_n 1 ?_
            exact ⟨_, _, I, J, P, rfl, rfl, ⟨(pif_pos hh).mpr ((pif_pos ⟨k, hk, rfl⟩).mpr ⟨k, hk, rfl, rfl, rfl⟩), hO0⟩, hC0, hM0⟩
        · refine gT_n 2 ?_
          refine ⟨fun c => absurd c (nI_pos (by omega)), fun _ => ?_⟩
          refine gT_n 2 ?_
          refine ⟨fun c => absurd c (by decide), fun _ => ?_⟩
          refine gT_n 3 ?_
          refine ⟨fun _ => ?_, fun c => absurd (by decide) c⟩
          refine gT_n 4 ?_
          refine ⟨rfl, rfl, rfl, ?_⟩
          refine gT_n 3 ?_
          refine ⟨rfl, fun _ => ?_, fun c => absurd c (kpT (p := fun z : Int32 => ¬ z = 0) (show _ = (1 : Int32) from kP.1) (by decide))⟩
          refine gT_n 2 ?_
          refine ⟨fun c => absurd c (nI_pos (by omega)), fun _ => ?_⟩
          refine gT_n 4 ?_
          refine ⟨rfl, pk_le p.1.length k (fun κ1 => ?_) (fun κ1 => ?_) ((kP.2 p rfl).1) (rfl) (by omega) (by omega)⟩
          · refine gT_n 2 ?_
            show gT _ 131 24 _ _ _ _ _
            refine gT_n 3 ?_
            refine ⟨fun c => absurd c (by decide), fun _ => ?_⟩
            refine gT_n 3 ?_
            exact absurd hk (by omega)
          · refine gT_n 3 ?_
            show gT _ 131 24 _ _ _ _ _
            refine gT_n 3 ?_
            refine ⟨fun _ => ?_, fun c => absurd (by decide) c⟩
            refine gT_n 5 ?_
            refine ⟨rfl, rfl, rfl, (pk_in k 10 (by omega) (rfl)), ?_⟩
            refine gT_top (aa_ref (b := P k) (rfl) (by omega) rfl) ?_
            refine gT_n 2 ?_
            refine ⟨hb.ob, rfl, gTM.use (c_detail9 hb hI hq) (Nat.le_refl _) (fun r u hq => ?_)⟩
            obtain ⟨rfl, rfl⟩ := hq  -- X1_detail[Rb, K9]
            refine gT_n 1 ?_
            exact ⟨_, _, I, J, P, rfl, rfl, ⟨(pif_pos hh).mpr ((pif_pos ⟨k, hk, rfl⟩).mpr ⟨k, hk, rfl, rfl, rfl⟩), hO0⟩, hC0, hM0⟩
        · refine gT_n 2 ?_
          refine ⟨fun c => absurd c (nI_pos (by omega)), fun _ => ?_⟩
          refine gT_n 2 ?_
          refine ⟨fun c => absurd c (by decide), fun _ => ?_⟩
          refine gT_n 3 ?_
          refine ⟨fun _ => ?_, fun c => absurd (by decide) c⟩
          refine gT_n 4 ?_
          refine ⟨rfl, rfl, rfl, ?_⟩
          refine gT_n 3 ?_
          refine ⟨rfl, fun _ => ?_, fun c => absurd c (kpT (p := fun z : Int32 => ¬ z = 0) (show _ = (1 : Int32) from kP.1) (by decide))⟩
          refine gT_n 2 ?_
          refine ⟨fun c => absurd c (nI_pos (by omega)), fun _ => ?_⟩
          refine gT_n 4 ?_
          refine ⟨rfl, pk_le p.1.length k (fun κ1 => ?_) (fun κ1 => ?_) ((kP.2 p rfl).1) (rfl) (by omega) (by omega)⟩
          · refine gT_n 2 ?_
            show gT _ 131 24 _ _ _ _ _
            refine gT_n 3 ?_
            refine ⟨fun c => absurd c (by decide), fun _ => ?_⟩
            refine gT_n 3 ?_
            exact absurd hk (by omega)
          · refine gT_n 3 ?_
            show gT _ 131 24 _ _ _ _ _
            refine gT_n 3 ?_
            refine ⟨fun _ => ?_, fun c => absurd (by decide) c⟩
            refine gT_n 5 ?_
            refine ⟨rfl, rfl, rfl, (pk_in k 10 (by omega) (rfl)), ?_⟩
            refine gT_top (aa_ref (b := P k) (rfl) (by omega) rfl) ?_
            refine gT_n 2 ?_
            refine ⟨hb.ob, rfl, gTM.use (c_detail10 hb hI hq) (Nat.le_refl _) (fun r u hq => ?_)⟩
            obtain ⟨rfl, rfl⟩ := hq  -- X1_detail[Rb, K10]
            refine gT_n 1 ?_
            exact ⟨_, _, I, J, P, rfl, rfl, ⟨(pif_pos hh).mpr ((pif_pos ⟨k, hk, rfl⟩).mpr ⟨k, hk, rfl, rfl, rfl⟩), hO0⟩, hC0, hM0⟩
      · refine gT_n 2 ?_
        refine px_lt (X := i) (Y := (0)) (rfl) (rfl) (fun κ1 => ?_) (fun κ1 => ?_)
        · refine gT_n 2 ?_
          exact absurd κ1 hh.1
        · refine gT_n 2 ?_
          refine px_lt (X := w) (Y := (0)) (rfl) (rfl) (fun κ2 => ?_) (fun κ2 => ?_)
          · refine gT_n 2 ?_
            exact absurd κ2 (Int32.not_lt.mpr hh.2.1)
          · refine gT_n 3 ?_
            refine px_le (X := w) (Y := (10)) (rfl) (rfl) (fun κ3 => ?_) (fun κ3 => ?_)
            · refine gT_n 4 ?_
              refine ⟨rfl, rfl, rfl, ?_⟩
              refine gT_n 3 ?_
              refine ⟨rfl, fun _ => ?_, fun c => absurd c (kpT (p := fun z : Int32 => ¬ z = 0) (show _ = (1 : Int32) from kP.1) (by decide))⟩
              refine gT_n 2 ?_
              refine px_lt (X := i) (Y := (0)) (rfl) (rfl) (fun c => by first | exact absurd κ1 c | exact absurd c κ1 | (exfalso; omega)) (fun _ => ?_)
              refine gT_n 4 ?_
              refine ⟨rfl, px_ge (X := i) (Y := nI p.1.length) (rfl) ((kP.2 p rfl).1) (fun κ4 => ?_) (fun κ4 => ?_)⟩
              · refine gT_n 2 ?_
                show gT _ 131 24 _ _ _ _ _
                refine gT_n 3 ?_
                refine ⟨fun c => absurd c (by decide), fun _ => ?_⟩
                refine gT_n 3 ?_
                exact ⟨_, _, I, J, P, rfl, rfl, ⟨(pif_pos hh).mpr ((pif_neg hj).mpr ⟨rfl, rfl⟩), hO0⟩, hC0, hM0⟩
              · refine gT_n 3 ?_
                show gT _ 131 24 _ _ _ _ _
                refine gT_n 3 ?_
                refine ⟨fun _ => ?_, fun c => absurd (by decide) c⟩
                exact absurd (inZ_of (by omega) hh.1 (by first | exact κ4 | exact Int32.not_le.mpr κ4)) hj
            · refine gT_n 2 ?_
              exact absurd hh.2.2 κ3
  · refine gT_n 2 ?_
    refine px_lt (X := i) (Y := (0)) (rfl) (rfl) (fun κ1 => ?_) (fun κ1 => ?_)
    · refine gT_n 2 ?_
      exact ⟨_, _, I, J, P, rfl, rfl, ⟨(pif_neg hh).mpr ⟨rfl, rfl⟩, hO0⟩, hC0, hM0⟩
    · refine gT_n 2 ?_
      refine px_lt (X := w) (Y := (0)) (rfl) (rfl) (fun κ2 => ?_) (fun κ2 => ?_)
      · refine gT_n 2 ?_
        exact ⟨_, _, I, J, P, rfl, rfl, ⟨(pif_neg hh).mpr ⟨rfl, rfl⟩, hO0⟩, hC0, hM0⟩
      · refine gT_n 3 ?_
        refine px_le (X := w) (Y := (10)) (rfl) (rfl) (fun κ3 => ?_) (fun κ3 => ?_)
        · exact absurd ⟨κ1, Int32.not_lt.mp κ2, κ3⟩ hh
        · refine gT_n 2 ?_
          exact ⟨_, _, I, J, P, rfl, rfl, ⟨(pif_neg hh).mpr ⟨rfl, rfl⟩, hO0⟩, hC0, hM0⟩
theorem o_item_m {d : Nat} {s s' : zS} {x : Int32} {I : Nat → Nat → Int32} {J : Nat → Nat → Int64} {P : Nat → Nat} {i w : Int32} (hO : sOK s) (hS : (fIt s i (0 ≤ w ∧ w ≤ 10) (fun p k x s' => x = idF (ig p.1 k) w.toNatClampNeg ∧ s' = s)) x s') (hC : RC s' I J P) (hM : RM s I J) : gTM (d + 14) 232 [.ref 171, .int i, .int w] (gST I J P) (pM x s') := by
  obtain ⟨tp, fn, t, W, nm, pr, ch, i0, i1⟩ := s
  have hO0 := hO
  have hM0 := hM
  obtain ⟨oTp, oT, oW, oN, oP, oI0, oI1⟩ := hO
  obtain ⟨jTp, jF, jT, jSp, jW, jN, jP, jC, jI0, jI1, jB, jL⟩ := hM
  dsimp only at oTp oT oW oN oP oI0 oI1 jTp jF jT jSp jW jN jP jC jI0 jI1
  try dsimp only at hS
  by_cases hh : ¬ i < 0 ∧ (0 ≤ w ∧ w ≤ 10)
  · replace hS := (pif_pos hh).mp hS
    cases pr with
    | none =>
      obtain ⟨rfl, rfl⟩ := hS
      refine gT_n 7 ?_
      refine ⟨rfl, gTM.use (m_in1 (x := 0) (z := 10) rfl rfl hh.2) (Nat.le_refl _) (fun r u hq => ?_)⟩
      obtain ⟨rfl, rfl⟩ := hq  -- X12_in[L(w).toInt64, lN 0, lN 10]
      refine gT_n 1 ?_
      refine ⟨rfl, rfl, ?_⟩
      refine gT_n 2 ?_
      refine px_lt (X := i) (Y := (0)) (rfl) (rfl) (fun κ1 => ?_) (fun κ1 => ?_)
      · refine gT_n 3 ?_
        show gT _ 232 14 _ _ _ _ _
        refine gT_n 3 ?_
        refine ⟨fun c => absurd c (by decide), fun _ => ?_⟩
        refine gT_n 2 ?_
        exact absurd κ1 hh.1
      · refine gT_n 2 ?_
        refine ⟨fun _ => ?_, fun c => absurd c (by decide)⟩
        refine gT_n 3 ?_
        refine ⟨rfl, fun c => absurd c (kpT (p := fun z : Int32 => ¬ (¬ z = 0)) (show _ = (0 : Int32) from jP.1) (by decide)), fun _ => ?_⟩
        refine gT_n 3 ?_
        show gT _ 232 14 _ _ _ _ _
        refine gT_n 3 ?_
        refine ⟨fun c => absurd c (by decide), fun _ => ?_⟩
        refine gT_n 2 ?_
        exact ⟨I, J, P, rfl, rfl, hC, hM0⟩
    | some p =>
      obtain ⟨h10, hoI, -⟩ := oP p rfl
      by_cases hj : inZ p.1.length i
      · have hT := (pif_pos hj).mp hS
        clear hS
        obtain ⟨k, hk, rfl, hS, rfl⟩ := hT
        have hI := (jP.2 p rfl).2.2.2.2 k hk
        have hq := hoI _ (ig_mem hk)
        rcases rngs10 hh.2 with rfl | rfl | rfl | rfl | rfl | rfl | rfl | rfl | rfl | rfl | rfl
        · refine gT_n 7 ?_
          refine ⟨rfl, gTM.use (m_in1 (x := 0) (z := 10) rfl rfl (by decide)) (Nat.le_refl _) (fun r u hq => ?_)⟩
          obtain ⟨rfl, rfl⟩ := hq  -- X12_in[i2l(K0), lN 0, lN 10]
          refine gT_n 1 ?_
          refine ⟨rfl, rfl, ?_⟩
          refine gT_n 2 ?_
          refine ⟨fun c => absurd c (nI_pos (by omega)), fun _ => ?_⟩
          refine gT_n 2 ?_
          refine ⟨fun _ => ?_, fun c => absurd c (by decide)⟩
          refine gT_n 3 ?_
          refine ⟨rfl, fun _ => ?_, fun c => absurd c (kpT (p := fun z : Int32 => ¬ z = 0) (show _ = (1 : Int32) from jP.1) (by decide))⟩
          refine gT_n 4 ?_
          refine ⟨rfl, pk_lt k p.1.length (fun κ1 => ?_) (fun κ1 => ?_) (rfl) ((jP.2 p rfl).1) (by omega) (by omega)⟩
          · refine gT_n 2 ?_
            show gT _ 232 14 _ _ _ _ _
            refine gT_n 3 ?_
            refine ⟨fun _ => ?_, fun c => absurd (by decide) c⟩
            refine gT_n 2 ?_
            refine ⟨fun _ => ?_, fun c => absurd rfl c⟩
            refine gT_n 5 ?_
            refine ⟨rfl, rfl, (pk_in k 10 (by omega) (rfl)), ?_⟩
            exact ⟨I, J, P, rfl, ri (Eq.trans ((rdI (rfl) (by omega) hI.1.1)) hS.symm), hC, hM0⟩
          · refine gT_n 3 ?_
            show gT _ 232 14 _ _ _ _ _
            refine gT_n 3 ?_
            refine ⟨fun c => absurd c (by decide), fun _ => ?_⟩
            refine gT_n 2 ?_
            exact absurd hk (by omega)
        · refine gT_n 7 ?_
          refine ⟨rfl, gTM.use (m_in1 (x := 0) (z := 10) rfl rfl (by decide)) (Nat.le_refl _) (fun r u hq => ?_)⟩
          obtain ⟨rfl, rfl⟩ := hq  -- X12_in[i2l(K1), lN 0, lN 10]
          refine gT_n 1 ?_
          refine ⟨rfl, rfl, ?_⟩
          refine gT_n 2 ?_
          refine ⟨fun c => absurd c (nI_pos (by omega)), fun _ => ?_⟩
          refine gT_n 2 ?_
          refine ⟨fun _ => ?_, fun c => absurd c (by decide)⟩
          refine gT_n 3 ?_
          refine ⟨rfl, fun _ => ?_, fun c => absurd c (kpT (p := fun z : Int32 => ¬ z = 0) (show _ = (1 : Int32) from jP.1) (by decide))⟩
          refine gT_n 4 ?_
          refine ⟨rfl, pk_lt k p.1.length (fun κ1 => ?_) (fun κ1 => ?_) (rfl) ((jP.2 p rfl).1) (by omega) (by omega)⟩
          · refine gT_n 2 ?_
            show gT _ 232 14 _ _ _ _ _
            refine gT_n 3 ?_
            refine ⟨fun _ => ?_, fun c => absurd (by decide) c⟩
            refine gT_n 2 ?_
            refine ⟨fun c => absurd c (by decide), fun _ => ⟨fun _ => ?_, fun c => absurd rfl c⟩⟩
            refine gT_n 5 ?_
            refine ⟨rfl, rfl, (pk_in k 10 (by omega) (rfl)), ?_⟩
            exact ⟨I, J, P, rfl, ri (Eq.trans ((rdI (rfl) (by omega) hI.1.2.1)) hS.symm), hC, hM0⟩
          · refine gT_n 3 ?_
            show gT _ 232 14 _ _ _ _ _
            refine gT_n 3 ?_
            refine ⟨fun c => absurd c (by decide), fun _ => ?_⟩
            refine gT_n 2 ?_
            exact absurd hk (by omega)
        · refine gT_n 7 ?_
          refine ⟨rfl, gTM.use (m_in1 (x := 0) (z := 10) rfl rfl (by decide)) (Nat.le_refl _) (fun r u hq => ?_)⟩
          obtain ⟨rfl, rfl⟩ := hq  -- X12_in[i2l(K2), lN 0, lN 10]
          refine gT_n 1 ?_
          refine ⟨rfl, rfl, ?_⟩
          refine gT_n 2 ?_
          refine ⟨fun c => absurd c (nI_pos (by omega)), fun _ => ?_⟩
          refine gT_n 2 ?_
          refine ⟨fun _ => ?_, fun c => absurd c (by decide)⟩
          refine gT_n 3 ?_
          refine ⟨rfl, fun _ => ?_, fun c => absurd c (kpT (p := fun z : Int32 => ¬ z = 0) (show _ = (1 : Int32) from jP.1) (by decide))⟩
          refine gT_n 4 ?_
          refine ⟨rfl, pk_lt k p.1.length (fun κ1 => ?_) (fun κ1 => ?_) (rfl) ((jP.2 p rfl).1) (by omega) (by omega)⟩
          · refine gT_n 2 ?_
            show gT _ 232 14 _ _ _ _ _
            refine gT_n 3 ?_
            refine ⟨fun _ => ?_, fun c => absurd (by decide) c⟩
            refine gT_n 2 ?_
            refine ⟨fun c => absurd c (by decide), fun _ => ⟨fun c => absurd c (by decide), fun _ => ⟨fun _ => ?_, fun c => absurd rfl c⟩⟩⟩
            refine gT_n 5 ?_
            refine ⟨rfl, rfl, (pk_in k 10 (by omega) (rfl)), rfl, gTM.useA (n_labelsOf (n := ((ig p.1 k).2.2.1))) (Nat.le_refl _) (aL ((rdJ (rfl) (by omega) hI.2.1.1)) (rfl)) (fun r u hq => ?_)⟩
            obtain ⟨rfl, rfl⟩ := hq  -- X12_labelsOf[lN ((ig p.1 k).2.2.1)]
            refine gT_n 1 ?_
            exact ⟨I, J, P, rfl, ri (Eq.trans (rfl) hS.symm), hC, hM0⟩
          · refine gT_n 3 ?_
            show gT _ 232 14 _ _ _ _ _
            refine gT_n 3 ?_
            refine ⟨fun c => absurd c (by decide), fun _ => ?_⟩
            refine gT_n 2 ?_
            exact absurd hk (by omega)
        · refine gT_n 7 ?_
          refine ⟨rfl, gTM.use (m_in1 (x := 0) (z := 10) rfl rfl (by decide)) (Nat.le_refl _) (fun r u hq => ?_)⟩
          obtain ⟨rfl, rfl⟩ := hq  -- X12_in[i2l(K3), lN 0, lN 10]
          refine gT_n 1 ?_
          refine ⟨rfl, rfl, ?_⟩
          refine gT_n 2 ?_
          refine ⟨fun c => absurd c (nI_pos (by omega)), fun _ => ?_⟩
          refine gT_n 2 ?_
          refine ⟨fun _ => ?_, fun c => absurd c (by decide)⟩
          refine gT_n 3 ?_
          refine ⟨rfl, fun _ => ?_, fun c => absurd c (kpT (p := fun z : Int32 => ¬ z = 0) (show _ = (1 : Int32) from jP.1) (by decide))⟩
          refine gT_n 4 ?_
          refine ⟨rfl, pk_lt k p.1.length (fun κ1 => ?_) (fun κ1 => ?_) (rfl) ((jP.2 p rfl).1) (by omega) (by omega)⟩
          · refine gT_n 2 ?_
            show gT _ 232 14 _ _ _ _ _
            refine gT_n 3 ?_
            refine ⟨fun _ => ?_, fun c => absurd (by decide) c⟩
            refine gT_n 2 ?_
            refine ⟨fun c => absurd c (by decide), fun _ => ⟨fun c => absurd c (by decide), fun _ => ⟨fun c => absurd c (by decide), fun _ => ⟨fun _ => ?_, fun c => absurd rfl c⟩⟩⟩⟩
            refine gT_n 6 ?_
            refine ⟨rfl, rfl, (pk_in k 10 (by omega) (rfl)), px_ne (X := (ig p.1 k).1) (Y := (3)) ((rdI (rfl) (by omega) hI.1.1)) (rfl) (fun κ2 => ?_) (fun κ2 => ?_)⟩
            · refine gT_n 2 ?_
              exact ⟨I, J, P, rfl, ri (Eq.trans (Eq.symm (if_neg κ2)) hS.symm), hC, hM0⟩
            · refine gT_n 5 ?_
              refine ⟨rfl, rfl, (pk_in k 10 (by omega) (rfl)), rfl, gTM.useA (n_labelsOf (n := ((ig p.1 k).2.2.2.1))) (Nat.le_refl _) (aL ((rdJ (rfl) (by omega) hI.2.1.2)) (rfl)) (fun r u hq => ?_)⟩
              obtain ⟨rfl, rfl⟩ := hq  -- X12_labelsOf[lN ((ig p.1 k).2.2.2.1)]
              refine gT_n 2 ?_
              exact ⟨I, J, P, rfl, ri (Eq.trans (Eq.symm (if_pos κ2)) hS.symm), hC, hM0⟩
          · refine gT_n 3 ?_
            show gT _ 232 14 _ _ _ _ _
            refine gT_n 3 ?_
            refine ⟨fun c => absurd c (by decide), fun _ => ?_⟩
            refine gT_n 2 ?_
            exact absurd hk (by omega)
        · refine gT_n 7 ?_
          refine ⟨rfl, gTM.use (m_in1 (x := 0) (z := 10) rfl rfl (by decide)) (Nat.le_refl _) (fun r u hq => ?_)⟩
          obtain ⟨rfl, rfl⟩ := hq  -- X12_in[i2l(K4), lN 0, lN 10]
          refine gT_n 1 ?_
          refine ⟨rfl, rfl, ?_⟩
          refine gT_n 2 ?_
          refine ⟨fun c => absurd c (nI_pos (by omega)), fun _ => ?_⟩
          refine gT_n 2 ?_
          refine ⟨fun _ => ?_, fun c => absurd c (by decide)⟩
          refine gT_n 3 ?_
          refine ⟨rfl, fun _ => ?_, fun c => absurd c (kpT (p := fun z : Int32 => ¬ z = 0) (show _ = (1 : Int32) from jP.1) (by decide))⟩
          refine gT_n 4 ?_
          refine ⟨rfl, pk_lt k p.1.length (fun κ1 => ?_) (fun κ1 => ?_) (rfl) ((jP.2 p rfl).1) (by omega) (by omega)⟩
          · refine gT_n 2 ?_
            show gT _ 232 14 _ _ _ _ _
            refine gT_n 3 ?_
            refine ⟨fun _ => ?_, fun c => absurd (by decide) c⟩
            refine gT_n 2 ?_
            refine ⟨fun c => absurd c (by decide), fun _ => ⟨fun c => absurd c (by decide), fun _ => ⟨fun c => absurd c (by decide), fun _ => ⟨fun c => absurd c (by decide), fun _ => ⟨fun _ => ?_, fun c => absurd rfl c⟩⟩⟩⟩⟩
            refine gT_n 5 ?_
            refine ⟨rfl, rfl, (pk_in k 10 (by omega) (rfl)), ?_⟩
            exact ⟨I, J, P, rfl, ri (Eq.trans ((rdI (rfl) (by omega) hI.1.2.2.1)) hS.symm), hC, hM0⟩
          · refine gT_n 3 ?_
            show gT _ 232 14 _ _ _ _ _
            refine gT_n 3 ?_
            refine ⟨fun c => absurd c (by decide), fun _ => ?_⟩
            refine gT_n 2 ?_
            exact absurd hk (by omega)
        · refine gT_n 7 ?_
          refine ⟨rfl, gTM.use (m_in1 (x := 0) (z := 10) rfl rfl (by decide)) (Nat.le_refl _) (fun r u hq => ?_)⟩
          obtain ⟨rfl, rfl⟩ := hq  -- X12_in[i2l(K5), lN 0, lN 10]
          refine gT_n 1 ?_
          refine ⟨rfl, rfl, ?_⟩
          refine gT_n 2 ?_
          refine ⟨fun c => absurd c (nI_pos (by omega)), fun _ => ?_⟩
          refine gT_n 2 ?_
          refine ⟨fun _ => ?_, fun c => absurd c (by decide)⟩
          refine gT_n 3 ?_
          refine ⟨rfl, fun _ => ?_, fun c => absurd c (kpT (p := fun z : Int32 => ¬ z = 0) (show _ = (1 : Int32) from jP.1) (by decide))⟩
          refine gT_n 4 ?_
          refine ⟨rfl, pk_lt k p.1.length (fun κ1 => ?_) (fun κ1 => ?_) (rfl) ((jP.2 p rfl).1) (by omega) (by omega)⟩
          · refine gT_n 2 ?_
            show gT _ 232 14 _ _ _ _ _
            refine gT_n 3 ?_
            refine ⟨fun _ => ?_, fun c => absurd (by decide) c⟩
            refine gT_n 2 ?_
            refine ⟨fun c => absurd c (by decide), fun _ => ⟨fun c => absurd c (by decide), fun _ => ⟨fun c => absurd c (by decide), fun _ => ⟨fun c => absurd c (by decide), fun _ => ⟨fun c => absurd c (by decide), fun _ => ⟨fun _ => ?_, fun c => absurd rfl c⟩⟩⟩⟩⟩⟩
            refine gT_n 11 ?_
            refine ⟨rfl, rfl, (pk_in (((3 * k) + 5) - 5) 30 (by omega) (pk_subE (n := ((3 * k) + 5)) (k := 5) (pk_addE (n := (3 * k)) (k := 5) (pk_mulE (n := 3) (k := k) (rfl) (rfl)) (rfl)) (rfl) (by omega))), ?_⟩
            exact ⟨I, J, P, rfl, ri (Eq.trans ((rdI (Eq.trans (pk_subE (n := ((3 * k) + 5)) (k := 5) (pk_addE (n := (3 * k)) (k := 5) (pk_mulE (n := 3) (k := k) (rfl) (rfl)) (rfl)) (rfl) (by omega)) (congrArg nI (show (((3 * k) + 5) - 5) = 3 * k + 0 by omega))) (by omega) hI.2.2.1)) hS.symm), hC, hM0⟩
          · refine gT_n 3 ?_
            show gT _ 232 14 _ _ _ _ _
            refine gT_n 3 ?_
            refine ⟨fun c => absurd c (by decide), fun _ => ?_⟩
            refine gT_n 2 ?_
            exact absurd hk (by omega)
        · refine gT_n 7 ?_
          refine ⟨rfl, gTM.use (m_in1 (x := 0) (z := 10) rfl rfl (by decide)) (Nat.le_refl _) (fun r u hq => ?_)⟩
          obtain ⟨rfl, rfl⟩ := hq  -- X12_in[i2l(K6), lN 0, lN 10]
          refine gT_n 1 ?_
          refine ⟨rfl, rfl, ?_⟩
          refine gT_n 2 ?_
          refine ⟨fun c => absurd c (nI_pos (by omega)), fun _ => ?_⟩
          refine gT_n 2 ?_
          refine ⟨fun _ => ?_, fun c => absurd c (by decide)⟩
          refine gT_n 3 ?_
          refine ⟨rfl, fun _ => ?_, fun c => absurd c (kpT (p := fun z : Int32 => ¬ z = 0) (show _ = (1 : Int32) from jP.1) (by decide))⟩
          refine gT_n 4 ?_
          refine ⟨rfl, pk_lt k p.1.length (fun κ1 => ?_) (fun κ1 => ?_) (rfl) ((jP.2 p rfl).1) (by omega) (by omega)⟩
          · refine gT_n 2 ?_
            show gT _ 232 14 _ _ _ _ _
            refine gT_n 3 ?_
            refine ⟨fun _ => ?_, fun c => absurd (by decide) c⟩
            refine gT_n 2 ?_
            refine ⟨fun c => absurd c (by decide), fun _ => ⟨fun c => absurd c (by decide), fun _ => ⟨fun c => absurd c (by decide), fun _ => ⟨fun c => absurd c (by decide), fun _ => ⟨fun c => absurd c (by decide), fun _ => ⟨fun c => absurd c (by decide), fun _ => ⟨fun _ => ?_, fun c => absurd rfl c⟩⟩⟩⟩⟩⟩⟩
            refine gT_n 11 ?_
            refine ⟨rfl, rfl, (pk_in (((3 * k) + 6) - 5) 30 (by omega) (pk_subE (n := ((3 * k) + 6)) (k := 5) (pk_addE (n := (3 * k)) (k := 6) (pk_mulE (n := 3) (k := k) (rfl) (rfl)) (rfl)) (rfl) (by omega))), ?_⟩
            exact ⟨I, J, P, rfl, ri (Eq.trans ((rdI (Eq.trans (pk_subE (n := ((3 * k) + 6)) (k := 5) (pk_addE (n := (3 * k)) (k := 6) (pk_mulE (n := 3) (k := k) (rfl) (rfl)) (rfl)) (rfl) (by omega)) (congrArg nI (show (((3 * k) + 6) - 5) = 3 * k + 1 by omega))) (by omega) hI.2.2.2.1)) hS.symm), hC, hM0⟩
          · refine gT_n 3 ?_
            show gT _ 232 14 _ _ _ _ _
            refine gT_n 3 ?_
            refine ⟨fun c => absurd c (by decide), fun _ => ?_⟩
            refine gT_n 2 ?_
            exact absurd hk (by omega)
        · refine gT_n 7 ?_
          refine ⟨rfl, gTM.use (m_in1 (x := 0) (z := 10) rfl rfl (by decide)) (Nat.le_refl _) (fun r u hq => ?_)⟩
          obtain ⟨rfl, rfl⟩ := hq  -- X12_in[i2l(K7), lN 0, lN 10]
          refine gT_n 1 ?_
          refine ⟨rfl, rfl, ?_⟩
          refine gT_n 2 ?_
          refine ⟨fun c => absurd c (nI_pos (by omega)), fun _ => ?_⟩
          refine gT_n 2 ?_
          refine ⟨fun _ => ?_, fun c => absurd c (by decide)⟩
          refine gT_n 3 ?_
          refine ⟨rfl, fun _ => ?_, fun c => absurd c (kpT (p := fun z : Int32 => ¬ z = 0) (show _ = (1 : Int32) from jP.1) (by decide))⟩
          refine gT_n 4 ?_
          refine ⟨rfl, pk_lt k p.1.length (fun κ1 => ?_) (fun κ1 => ?_) (rfl) ((jP.2 p rfl).1) (by omega) (by omega)⟩
          · refine gT_n 2 ?_
            show gT _ 232 14 _ _ _ _ _
            refine gT_n 3 ?_
            refine ⟨fun _ => ?_, fun c => absurd (by decide) c⟩
            refine gT_n 2 ?_
            refine ⟨fun c => absurd c (by decide), fun _ => ⟨fun c => absurd c (by decide), fun _ => ⟨fun c => absurd c (by decide), fun _ => ⟨fun c => absurd c (by decide), fun _ => ⟨fun c => absurd c (by decide), fun _ => ⟨fun c => absurd c (by decide), fun _ => ⟨fun c => absurd c (by decide), fun _ => ⟨fun _ => ?_, fun c => absurd rfl c⟩⟩⟩⟩⟩⟩⟩⟩
            refine gT_n 11 ?_
            refine ⟨rfl, rfl, (pk_in (((3 * k) + 7) - 5) 30 (by omega) (pk_subE (n := ((3 * k) + 7)) (k := 5) (pk_addE (n := (3 * k)) (k := 7) (pk_mulE (n := 3) (k := k) (rfl) (rfl)) (rfl)) (rfl) (by omega))), ?_⟩
            exact ⟨I, J, P, rfl, ri (Eq.trans ((rdI (Eq.trans (pk_subE (n := ((3 * k) + 7)) (k := 5) (pk_addE (n := (3 * k)) (k := 7) (pk_mulE (n := 3) (k := k) (rfl) (rfl)) (rfl)) (rfl) (by omega)) (congrArg nI (show (((3 * k) + 7) - 5) = 3 * k + 2 by omega))) (by omega) hI.2.2.2.2)) hS.symm), hC, hM0⟩
          · refine gT_n 3 ?_
            show gT _ 232 14 _ _ _ _ _
            refine gT_n 3 ?_
            refine ⟨fun c => absurd c (by decide), fun _ => ?_⟩
            refine gT_n 2 ?_
            exact absurd hk (by omega)
        · refine gT_n 7 ?_
          refine ⟨rfl, gTM.use (m_in1 (x := 0) (z := 10) rfl rfl (by decide)) (Nat.le_refl _) (fun r u hq => ?_)⟩
          obtain ⟨rfl, rfl⟩ := hq  -- X12_in[i2l(K8), lN 0, lN 10]
          refine gT_n 1 ?_
          refine ⟨rfl, rfl, ?_⟩
          refine gT_n 2 ?_
          refine ⟨fun c => absurd c (nI_pos (by omega)), fun _ => ?_⟩
          refine gT_n 2 ?_
          refine ⟨fun _ => ?_, fun c => absurd c (by decide)⟩
          refine gT_n 3 ?_
          refine ⟨rfl, fun _ => ?_, fun c => absurd c (kpT (p := fun z : Int32 => ¬ z = 0) (show _ = (1 : Int32) from jP.1) (by decide))⟩
          refine gT_n 4 ?_
          refine ⟨rfl, pk_lt k p.1.length (fun κ1 => ?_) (fun κ1 => ?_) (rfl) ((jP.2 p rfl).1) (by omega) (by omega)⟩
          · refine gT_n 2 ?_
            show gT _ 232 14 _ _ _ _ _
            refine gT_n 3 ?_
            refine ⟨fun _ => ?_, fun c => absurd (by decide) c⟩
            refine gT_n 2 ?_
            refine ⟨fun c => absurd c (by decide), fun _ => ⟨fun c => absurd c (by decide), fun _ => ⟨fun c => absurd c (by decide), fun _ => ⟨fun c => absurd c (by decide), fun _ => ⟨fun c => absurd c (by decide), fun _ => ⟨fun c => absurd c (by decide), fun _ => ⟨fun c => absurd c (by decide), fun _ => ⟨fun c => absurd c (by decide), fun _ => ⟨fun _ => ?_, fun c => absurd rfl c⟩⟩⟩⟩⟩⟩⟩⟩⟩
            refine gT_n 5 ?_
            refine ⟨rfl, rfl, (pk_in k 10 (by omega) (rfl)), ?_⟩
            exact ⟨I, J, P, rfl, ri (Eq.trans ((rdI (rfl) (by omega) hI.1.2.2.2.1)) hS.symm), hC, hM0⟩
          · refine gT_n 3 ?_
            show gT _ 232 14 _ _ _ _ _
            refine gT_n 3 ?_
            refine ⟨fun c => absurd c (by decide), fun _ => ?_⟩
            refine gT_n 2 ?_
            exact absurd hk (by omega)
        · refine gT_n 7 ?_
          refine ⟨rfl, gTM.use (m_in1 (x := 0) (z := 10) rfl rfl (by decide)) (Nat.le_refl _) (fun r u hq => ?_)⟩
          obtain ⟨rfl, rfl⟩ := hq  -- X12_in[i2l(K9), lN 0, lN 10]
          refine gT_n 1 ?_
          refine ⟨rfl, rfl, ?_⟩
          refine gT_n 2 ?_
          refine ⟨fun c => absurd c (nI_pos (by omega)), fun _ => ?_⟩
          refine gT_n 2 ?_
          refine ⟨fun _ => ?_, fun c => absurd c (by decide)⟩
          refine gT_n 3 ?_
          refine ⟨rfl, fun _ => ?_, fun c => absurd c (kpT (p := fun z : Int32 => ¬ z = 0) (show _ = (1 : Int32) from jP.1) (by decide))⟩
          refine gT_n 4 ?_
          refine ⟨rfl, pk_lt k p.1.length (fun κ1 => ?_) (fun κ1 => ?_) (rfl) ((jP.2 p rfl).1) (by omega) (by omega)⟩
          · refine gT_n 2 ?_
            show gT _ 232 14 _ _ _ _ _
            refine gT_n 3 ?_
            refine ⟨fun _ => ?_, fun c => absurd (by decide) c⟩
            refine gT_n 2 ?_
            refine ⟨fun c => absurd c (by decide), fun _ => ⟨fun c => absurd c (by decide), fun _ => ⟨fun c => absurd c (by decide), fun _ => ⟨fun c => absurd c (by decide), fun _ => ⟨fun c => absurd c (by decide), fun _ => ⟨fun c => absurd c (by decide), fun _ => ⟨fun c => absurd c (by decide), fun _ => ⟨fun c => absurd c (by decide), fun _ => ⟨fun c => absurd c (by decide), fun _ => ⟨fun _ => ?_, fun c => absurd rfl c⟩⟩⟩⟩⟩⟩⟩⟩⟩⟩
            refine gT_n 5 ?_
            refine ⟨rfl, rfl, (pk_in k 10 (by omega) (rfl)), ?_⟩
            exact ⟨I, J, P, rfl, ri (Eq.trans ((rdI (rfl) (by omega) hI.1.2.2.2.2)) hS.symm), hC, hM0⟩
          · refine gT_n 3 ?_
            show gT _ 232 14 _ _ _ _ _
            refine gT_n 3 ?_
            refine ⟨fun c => absurd c (by decide), fun _ => ?_⟩
            refine gT_n 2 ?_
            exact absurd hk (by omega)
        · refine gT_n 7 ?_
          refine ⟨rfl, gTM.use (m_in1 (x := 0) (z := 10) rfl rfl (by decide)) (Nat.le_refl _) (fun r u hq => ?_)⟩
          obtain ⟨rfl, rfl⟩ := hq  -- X12_in[i2l(K10), lN 0, lN 10]
          refine gT_n 1 ?_
          refine ⟨rfl, rfl, ?_⟩
          refine gT_n 2 ?_
          refine ⟨fun c => absurd c (nI_pos (by omega)), fun _ => ?_⟩
          refine gT_n 2 ?_
          refine ⟨fun _ => ?_, fun c => absurd c (by decide)⟩
          refine gT_n 3 ?_
          refine ⟨rfl, fun _ => ?_, fun c => absurd c (kpT (p := fun z : Int32 => ¬ z = 0) (show _ = (1 : Int32) from jP.1) (by decide))⟩
          refine gT_n 4 ?_
          refine ⟨rfl, pk_lt k p.1.length (fun κ1 => ?_) (fun κ1 => ?_) (rfl) ((jP.2 p rfl).1) (by omega) (by omega)⟩
          · refine gT_n 2 ?_
            show gT _ 232 14 _ _ _ _ _
            refine gT_n 3 ?_
            refine ⟨fun _ => ?_, fun c => absurd (by decide) c⟩
            refine gT_n 2 ?_
            refine ⟨fun c => absurd c (by decide), fun _ => ⟨fun c => absurd c (by decide), fun _ => ⟨fun c => absurd c (by decide), fun _ => ⟨fun c => absurd c (by decide), fun _ => ⟨fun c => absurd c (by decide), fun _ => ⟨fun c => absurd c (by decide), fun _ => ⟨fun c => absurd c (by decide), fun _ => ⟨fun c => absurd c (by decide), fun _ => ⟨fun c => absurd c (by decide), fun _ => ⟨fun c => absurd c (by decide), fun _ => ⟨fun _ => ?_, fun c => absurd rfl c⟩⟩⟩⟩⟩⟩⟩⟩⟩⟩⟩
            refine gT_n 3 ?_
            refine ⟨rfl, rfl, gTM.use (m_content (by omega) hI hq) (Nat.le_refl _) (fun r u hq => ?_)⟩
            obtain ⟨rfl, rfl⟩ := hq  -- X12_contentOf[R171, nI k]
            refine gT_n 1 ?_
            exact ⟨I, J, P, rfl, ri (Eq.trans (rfl) hS.symm), hC, hM0⟩
          · refine gT_n 3 ?_
            show gT _ 232 14 _ _ _ _ _
            refine gT_n 3 ?_
            refine ⟨fun c => absurd c (by decide), fun _ => ?_⟩
            refine gT_n 2 ?_
            exact absurd hk (by omega)
      · obtain ⟨rfl, rfl⟩ := (pif_neg hj).mp hS
        refine gT_n 7 ?_
        refine ⟨rfl, gTM.use (m_in1 (x := 0) (z := 10) rfl rfl hh.2) (Nat.le_refl _) (fun r u hq => ?_)⟩
        obtain ⟨rfl, rfl⟩ := hq  -- X12_in[L(w).toInt64, lN 0, lN 10]
        refine gT_n 1 ?_
        refine ⟨rfl, rfl, ?_⟩
        refine gT_n 2 ?_
        refine px_lt (X := i) (Y := (0)) (rfl) (rfl) (fun κ1 => ?_) (fun κ1 => ?_)
        · refine gT_n 3 ?_
          show gT _ 232 14 _ _ _ _ _
          refine gT_n 3 ?_
          refine ⟨fun c => absurd c (by decide), fun _ => ?_⟩
          refine gT_n 2 ?_
          exact absurd κ1 hh.1
        · refine gT_n 2 ?_
          refine ⟨fun _ => ?_, fun c => absurd c (by decide)⟩
          refine gT_n 3 ?_
          refine ⟨rfl, fun _ => ?_, fun c => absurd c (kpT (p := fun z : Int32 => ¬ z = 0) (show _ = (1 : Int32) from jP.1) (by decide))⟩
          refine gT_n 4 ?_
          refine ⟨rfl, px_lt (X := i) (Y := nI p.1.length) (rfl) ((jP.2 p rfl).1) (fun κ2 => ?_) (fun κ2 => ?_)⟩
          · refine gT_n 2 ?_
            show gT _ 232 14 _ _ _ _ _
            refine gT_n 3 ?_
            refine ⟨fun _ => ?_, fun c => absurd (by decide) c⟩
            exact absurd (inZ_of (by omega) hh.1 (by first | exact κ2 | exact Int32.not_le.mpr κ2)) hj
          · refine gT_n 3 ?_
            show gT _ 232 14 _ _ _ _ _
            refine gT_n 3 ?_
            refine ⟨fun c => absurd c (by decide), fun _ => ?_⟩
            refine gT_n 2 ?_
            exact ⟨I, J, P, rfl, rfl, hC, hM0⟩
  · obtain ⟨rfl, rfl⟩ := (pif_neg hh).mp hS
    by_cases hw : 0 ≤ w ∧ w ≤ 10
    · have hi : i < 0 := Int32.not_le.mp (fun q => hh ⟨Int32.not_lt.mpr q, hw⟩)
      refine gT_n 7 ?_
      refine ⟨rfl, gTM.use (m_in1 (x := 0) (z := 10) rfl rfl hw) (Nat.le_refl _) (fun r u hq => ?_)⟩
      obtain ⟨rfl, rfl⟩ := hq  -- X12_in[L(w).toInt64, lN 0, lN 10]
      refine gT_n 1 ?_
      refine ⟨rfl, rfl, gTM.use (m_wrong_lo hi) (Nat.le_refl _) (fun r u hq => ?_)⟩
      obtain ⟨rfl, rfl⟩ := hq  -- X12_wrong[R171, i, K1]
      refine gT_n 3 ?_
      refine ⟨fun c => absurd c (by decide), fun _ => ?_⟩
      refine gT_n 2 ?_
      exact ⟨I, J, P, rfl, rfl, hC, hM0⟩
    · refine gT_n 7 ?_
      refine ⟨rfl, gTM.use (m_in0 (x := 0) (z := 10) rfl rfl hw) (Nat.le_refl _) (fun r u hq => ?_)⟩
      obtain ⟨rfl, rfl⟩ := hq  -- X12_in[L(w).toInt64, lN 0, lN 10]
      refine gT_n 1 ?_
      refine ⟨rfl, rfl, gTM.use (m_wrong_0) (Nat.le_refl _) (fun r u hq => ?_)⟩
      obtain ⟨rfl, rfl⟩ := hq  -- X12_wrong[R171, i, K0]
      refine gT_n 3 ?_
      refine ⟨fun c => absurd c (by decide), fun _ => ?_⟩
      refine gT_n 2 ?_
      exact ⟨I, J, P, rfl, rfl, hC, hM0⟩
