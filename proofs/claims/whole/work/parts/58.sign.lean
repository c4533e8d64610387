/-! sign, rename -/
def qMk (q : zI) (x : Int32) : zI := (q.1, q.2.1, q.2.2.1, q.2.2.2.1, q.2.2.2.2.1, q.2.2.2.2.2.1, q.2.2.2.2.2.2.1, x)
theorem gupI_rr {V : Nat → Nat → Int32} {b f : Nat} {x : Int32} : gupI V b f x b f = x := by
  rw [gupI_b]; exact if_pos rfl
def qOw (q : zI) (n : Nat) : zI := (q.1, q.2.1, n, q.2.2.2)
def qNx (q : zI) (n : Nat) : zI := (q.1, q.2.1, q.2.2.1, n, q.2.2.2.2)
theorem o_sign_c {d : Nat} {s : zS} {I : Nat → Nat → Int32} {J : Nat → Nat → Int64} {P : Nat → Nat} {i : Int32} (hO : sOK s) (hC : RC s I J P) (hM : RM s I J) : gTM (d + 14) 136 [.ref 0, .int i] (gST I J P) (pC s (fIt s i True (fun p k x s' => x = imrk (ig p.1 k) (ig p.1 k).2.2.2.2.2.2.1 ∧ s' = setI s p k (qMk (ig p.1 k) x)))) := by
  obtain ⟨tp, fn, t, W, nm, pr, ch, i0, i1⟩ := s
  have hO0 := hO
  have hC0 := hC
  have hM0 := hM
  obtain ⟨oTp, oT, oW, oN, oP, oI0, oI1⟩ := hO
  obtain ⟨kTp, kF, kT, kW, kN, kP, kC, kI0, kI1, kB, kPP⟩ := hC
  obtain ⟨jTp, jF, jT, jSp, jW, jN, jP, jC, jI0, jI1, jB, jL⟩ := hM
  dsimp only at oTp oT oW oN oP oI0 oI1 kTp kF kT kW kN kP kC kI0 kI1 jTp jF jT jSp jW jN jP jC jI0 jI1
  try dsimp only
  by_cases hh : ¬ i < 0 ∧ True
  · cases pr with
    | none =>
      refine gT_n 2 ?_
      refine px_ge (X := i) (Y := (0)) (rfl) (rfl) (fun κ1 => ?_) (fun κ1 => ?_)
      · refine gT_n 4 ?_
        refine ⟨rfl, rfl, rfl, ?_⟩
        refine gT_n 3 ?_
        refine ⟨rfl, fun c => absurd c (kpT (p := fun z : Int32 => ¬ (¬ z = 0)) (show _ = (0 : Int32) from kP.1) (by decide)), fun _ => ?_⟩
        refine gT_n 2 ?_
        show gT _ 136 14 _ _ _ _ _
        refine gT_n 3 ?_
        refine ⟨fun c => absurd c (by decide), fun _ => ?_⟩
        refine gT_n 2 ?_
        exact ⟨_, _, I, J, P, rfl, rfl, ⟨(pif_pos hh).mpr ⟨rfl, rfl⟩, hO0⟩, hC0, hM0⟩
      · refine gT_n 2 ?_
        exact absurd (Int32.not_le.mp κ1) hh.1
    | some p =>
      obtain ⟨h10, hoI, -⟩ := oP p rfl
      by_cases hj : inZ p.1.length i
      · obtain ⟨k, hk, rfl⟩ := hj
        obtain ⟨jj, hjj, eP, hb, hI⟩ := cP_at (kP.2 p rfl) kPP hk h10
        have hbb : 147 ≤ P k ∧ P k ≤ 166 := by omega
        have hbb1 : 147 ≤ P k + 1 ∧ P k + 1 ≤ 166 := by omega
        have hI2 : cI (iMI I I (P k)) (iMI I I (P k + 1)) (iMJ J J (P k)) (ig p.1 k) := by rw [iM_self, iJ_self]; exact hI
        have hq := hoI _ (ig_mem hk)
        have key : gTM (d + 14) 136 [.ref 0, .int (nI k)] (gST (iMI I I) (iMJ J J) P) (pC (tp, fn, t, W, nm, some p, ch, i0, i1) (fIt (tp, fn, t, W, nm, some p, ch, i0, i1) (nI k) True (fun p k x s' => x = imrk (ig p.1 k) (ig p.1 k).2.2.2.2.2.2.1 ∧ s' = setI (tp, fn, t, W, nm, some p, ch, i0, i1) p k (qMk (ig p.1 k) x)))) := by
          refine gT_n 2 ?_
          refine ⟨fun _ => ?_, fun c => absurd (nI_pos' (by omega)) c⟩
          refine gT_n 4 ?_
          refine ⟨rfl, rfl, rfl, ?_⟩
          refine gT_n 3 ?_
          refine ⟨rfl, fun _ => ?_, fun c => absurd c (kpT (p := fun z : Int32 => ¬ z = 0) (show _ = (1 : Int32) from kP.1) (by decide))⟩
          refine gT_n 2 ?_
          refine ⟨fun c => absurd c (nI_pos (by omega)), fun _ => ?_⟩
          refine gT_n 4 ?_
          refine ⟨rfl, pk_le p.1.length k (fun κ1 => ?_) (fun κ1 => ?_) ((kP.2 p rfl).1) (rfl) (by omega) (by omega)⟩
          · refine gT_n 2 ?_
            show gT _ 136 14 _ _ _ _ _
            refine gT_n 3 ?_
            refine ⟨fun c => absurd c (by decide), fun _ => ?_⟩
            refine gT_n 2 ?_
            exact absurd hk (by omega)
          · refine gT_n 3 ?_
            show gT _ 136 14 _ _ _ _ _
            refine gT_n 3 ?_
            refine ⟨fun _ => ?_, fun c => absurd (by decide) c⟩
            refine gT_n 5 ?_
            refine ⟨rfl, rfl, rfl, (pk_in k 10 (by omega) (rfl)), ?_⟩
            refine gT_top (aa_ref (b := P k) (rfl) (by omega) rfl) ?_
            refine gT_n 1 ?_
            refine ⟨hb.ob, rfl, ?_⟩
            refine gT_n 3 ?_
            refine ⟨hb.ob, rfl, gTM.use (c_rightMark hb hI2 hq) (Nat.le_refl _) (fun r u hq => ?_)⟩
            obtain ⟨rfl, rfl⟩ := hq  -- X1_rightMark[Rb]
            refine gT_n 1 ?_
            refine ⟨hb.ob, ?_⟩
            refine gT_iP hbb (X := (imrk (ig p.1 k) (ig p.1 k).2.2.2.2.2.2.1)) (rfl) ?_
            refine gT_n 1 ?_
            refine ⟨rfl, ?_⟩
            show gT _ 136 33 _ _ _ _ _
            refine gT_n 5 ?_
            refine ⟨rfl, rfl, rfl, (pk_in k 10 (by omega) (rfl)), ?_⟩
            refine gT_top (aa_ref (b := P k) (rfl) (by omega) rfl) ?_
            refine gT_n 2 ?_
            refine ⟨hb.ob, ?_⟩
            exact ⟨_, setI (tp, fn, t, W, nm, some p, ch, i0, i1) p k (qMk (ig p.1 k) (imrk (ig p.1 k) (ig p.1 k).2.2.2.2.2.2.1)), _, _, P, rfl, ri ((Eq.trans (iM_r hbb) gupI_rr)), ⟨(pif_pos ⟨nI_pos (by omega), trivial⟩).mpr ((pif_pos ⟨k, hk, rfl⟩).mpr ⟨k, hk, rfl, rfl, rfl⟩), setI_ok hO0 rfl hq⟩, RC_item hO0 hC0 rfl hk (fun a h1 _ => gupI_n h1) (fun _ _ => rfl) (by rw [gupI_b, gupI_n (by omega)]; exact ⟨⟨hI.1.1, hI.1.2.1, hI.1.2.2.1, hI.1.2.2.2.1, rfl⟩, hI.2⟩), RM_item hM0⟩
        rw [iM_self, iJ_self] at key
        exact key
      · refine gT_n 2 ?_
        refine px_ge (X := i) (Y := (0)) (rfl) (rfl) (fun κ1 => ?_) (fun κ1 => ?_)
        · refine gT_n 4 ?_
          refine ⟨rfl, rfl, rfl, ?_⟩
          refine gT_n 3 ?_
          refine ⟨rfl, fun _ => ?_, fun c => absurd c (kpT (p := fun z : Int32 => ¬ z = 0) (show _ = (1 : Int32) from kP.1) (by decide))⟩
          refine gT_n 2 ?_
          refine px_lt (X := i) (Y := (0)) (rfl) (rfl) (fun κ2 => ?_) (fun κ2 => ?_)
          · refine gT_n 2 ?_
            show gT _ 136 14 _ _ _ _ _
            refine gT_n 3 ?_
            refine ⟨fun c => absurd c (by decide), fun _ => ?_⟩
            refine gT_n 2 ?_
            exact ⟨_, _, I, J, P, rfl, rfl, ⟨(pif_pos hh).mpr ((pif_neg hj).mpr ⟨rfl, rfl⟩), hO0⟩, hC0, hM0⟩
          · refine gT_n 4 ?_
            refine ⟨rfl, px_ge (X := i) (Y := nI p.1.length) (rfl) ((kP.2 p rfl).1) (fun κ3 => ?_) (fun κ3 => ?_)⟩
            · refine gT_n 2 ?_
              show gT _ 136 14 _ _ _ _ _
              refine gT_n 3 ?_
              refine ⟨fun c => absurd c (by decide), fun _ => ?_⟩
              refine gT_n 2 ?_
              exact ⟨_, _, I, J, P, rfl, rfl, ⟨(pif_pos hh).mpr ((pif_neg hj).mpr ⟨rfl, rfl⟩), hO0⟩, hC0, hM0⟩
            · refine gT_n 3 ?_
              show gT _ 136 14 _ _ _ _ _
              refine gT_n 3 ?_
              refine ⟨fun _ => ?_, fun c => absurd (by decide) c⟩
              exact absurd (inZ_of (by omega) hh.1 (by first | exact κ3 | exact Int32.not_le.mpr κ3)) hj
        · refine gT_n 2 ?_
          exact absurd (Int32.not_le.mp κ1) hh.1
  · refine gT_n 2 ?_
    refine px_ge (X := i) (Y := (0)) (rfl) (rfl) (fun κ1 => ?_) (fun κ1 => ?_)
    · exact absurd ⟨Int32.not_lt.mpr κ1, trivial⟩ hh
    · refine gT_n 2 ?_
      exact ⟨_, _, I, J, P, rfl, rfl, ⟨(pif_neg hh).mpr ⟨rfl, rfl⟩, hO0⟩, hC0, hM0⟩
theorem o_sign_m {d : Nat} {s s' : zS} {x : Int32} {I : Nat → Nat → Int32} {J : Nat → Nat → Int64} {P : Nat → Nat} {i : Int32} (hO : sOK s) (hS : (fIt s i True (fun p k x s' => x = imrk (ig p.1 k) (ig p.1 k).2.2.2.2.2.2.1 ∧ s' = setI s p k (qMk (ig p.1 k) x))) x s') (hC : RC s' I J P) (hM : RM s I J) : gTM (d + 14) 239 [.ref 171, .int i] (gST I J P) (pM x s') := by
  obtain ⟨tp, fn, t, W, nm, pr, ch, i0, i1⟩ := s
  have hO0 := hO
  have hM0 := hM
  obtain ⟨oTp, oT, oW, oN, oP, oI0, oI1⟩ := hO
  obtain ⟨jTp, jF, jT, jSp, jW, jN, jP, jC, jI0, jI1, jB, jL⟩ := hM
  dsimp only at oTp oT oW oN oP oI0 oI1 jTp jF jT jSp jW jN jP jC jI0 jI1
  try dsimp only at hS
  by_cases hh : ¬ i < 0 ∧ True
  · replace hS := (pif_pos hh).mp hS
    cases pr with
    | none =>
      obtain ⟨rfl, rfl⟩ := hS
      refine gT_n 4 ?_
      refine ⟨rfl, rfl, ?_⟩
      refine gT_n 2 ?_
      refine px_lt (X := i) (Y := (0)) (rfl) (rfl) (fun κ1 => ?_) (fun κ1 => ?_)
      · refine gT_n 3 ?_
        show gT _ 239 6 _ _ _ _ _
        refine gT_n 3 ?_
        refine ⟨fun c => absurd c (by decide), fun _ => ?_⟩
        refine gT_n 2 ?_
        exact absurd κ1 hh.1
      · refine gT_n 2 ?_
        refine ⟨fun _ => ?_, fun c => absurd c (by decide)⟩
        refine gT_n 3 ?_
        refine ⟨rfl, fun c => absurd c (kpT (p := fun z : Int32 => ¬ (¬ z = 0)) (show _ = (0 : Int32) from jP.1) (by decide)), fun _ => ?_⟩
        refine gT_n 3 ?_
        show gT _ 239 6 _ _ _ _ _
        refine gT_n 3 ?_
        refine ⟨fun c => absurd c (by decide), fun _ => ?_⟩
        refine gT_n 2 ?_
        exact ⟨I, J, P, rfl, rfl, hC, hM0⟩
    | some p =>
      obtain ⟨h10, hoI, -⟩ := oP p rfl
      by_cases hj : inZ p.1.length i
      · have hT := (pif_pos hj).mp hS
        clear hS
        obtain ⟨k, hk, rfl, hS⟩ := hT
        try dsimp only at hS
        have hI := (jP.2 p rfl).2.2.2.2 k hk
        have hq := hoI _ (ig_mem hk)
        refine gT_n 4 ?_
        refine ⟨rfl, rfl, ?_⟩
        refine gT_n 2 ?_
        refine ⟨fun c => absurd c (nI_pos (by omega)), fun _ => ?_⟩
        refine gT_n 2 ?_
        refine ⟨fun _ => ?_, fun c => absurd c (by decide)⟩
        refine gT_n 3 ?_
        refine ⟨rfl, fun _ => ?_, fun c => absurd c (kpT (p := fun z : Int32 => ¬ z = 0) (show _ = (1 : Int32) from jP.1) (by decide))⟩
        refine gT_n 4 ?_
        refine ⟨rfl, pk_lt k p.1.length (fun κ1 => ?_) (fun κ1 => ?_) (rfl) ((jP.2 p rfl).1) (by omega) (by omega)⟩
        · refine gT_n 2 ?_
          show gT _ 239 6 _ _ _ _ _
          refine gT_n 3 ?_
          refine ⟨fun _ => ?_, fun c => absurd (by decide) c⟩
          refine gT_n 10 ?_
          refine ⟨rfl, rfl, rfl, (pk_in k 10 (by omega) (rfl)), rfl, rfl, gTM.useA (m_markBy (by omega) hI hq) (Nat.le_refl _) (aR (aI (rfl) (aI ((rdI (rfl) (by omega) hI.1.2.2.2.1)) (rfl)))) (fun r u hq => ?_)⟩
          obtain ⟨rfl, rfl⟩ := hq  -- X12_markBy[R171, nI k, (ig p.1 k).2.2.2.2.2.2.1]
          refine gT_n 1 ?_
          refine ⟨rfl, (pk_in k 10 (by omega) (rfl)), ?_⟩
          refine gT_iv (n := k) (X := (imrk (ig p.1 k) (ig p.1 k).2.2.2.2.2.2.1)) (rfl) (by omega) (rfl) ?_
          refine gT_n 5 ?_
          refine ⟨rfl, rfl, (pk_in k 10 (by omega) (rfl)), ?_⟩
          obtain ⟨rfl, rfl⟩ := hS
          exact ⟨_, J, P, rfl, ri (rdI rfl (by omega) upd_at), hC, ⟨jTp, jF, jT, jSp, jW, jN, ⟨jP.1, fun r hr => by
            cases hr
            exact mP_set (jP.2 p rfl) hk ⟨⟨hI.1.1, hI.1.2.1, hI.1.2.2.1, hI.1.2.2.2.1, upd_at⟩, hI.2⟩ (fun j hj r h => ⟨⟨h.1.1, h.1.2.1, h.1.2.2.1, h.1.2.2.2.1, (if_neg hj).trans h.1.2.2.2.2⟩, h.2⟩)⟩, jC, jI0, jI1, jB, jL⟩⟩
        · refine gT_n 3 ?_
          show gT _ 239 6 _ _ _ _ _
          refine gT_n 3 ?_
          refine ⟨fun c => absurd c (by decide), fun _ => ?_⟩
          refine gT_n 2 ?_
          exact absurd hk (by omega)
      · obtain ⟨rfl, rfl⟩ := (pif_neg hj).mp hS
        refine gT_n 4 ?_
        refine ⟨rfl, rfl, ?_⟩
        refine gT_n 2 ?_
        refine px_lt (X := i) (Y := (0)) (rfl) (rfl) (fun κ1 => ?_) (fun κ1 => ?_)
        · refine gT_n 3 ?_
          show gT _ 239 6 _ _ _ _ _
          refine gT_n 3 ?_
          refine ⟨fun c => absurd c (by decide), fun _ => ?_⟩
          refine gT_n 2 ?_
          exact absurd κ1 hh.1
        · refine gT_n 2 ?_
          refine ⟨fun _ => ?_, fun c => absurd c (by decide)⟩
          refine gT_n 3 ?_
          refine ⟨rfl, fun _ => ?_, fun c => absurd c (kpT (p := fun z : Int32 => ¬ z = 0) (show _ = (1 : Int32) from jP.1) (by decide))⟩
          refine gT_n 4 ?_
          refine ⟨rfl, px_lt (X := i) (Y := nI p.1.length) (rfl) ((jP.2 p rfl).1) (fun κ2 => ?_) (fun κ2 => ?_)⟩
          · refine gT_n 2 ?_
            show gT _ 239 6 _ _ _ _ _
            refine gT_n 3 ?_
            refine ⟨fun _ => ?_, fun c => absurd (by decide) c⟩
            exact absurd (inZ_of (by omega) hh.1 (by first | exact κ2 | exact Int32.not_le.mpr κ2)) hj
          · refine gT_n 3 ?_
            show gT _ 239 6 _ _ _ _ _
            refine gT_n 3 ?_
            refine ⟨fun c => absurd c (by decide), fun _ => ?_⟩
            refine gT_n 2 ?_
            exact ⟨I, J, P, rfl, rfl, hC, hM0⟩
  · obtain ⟨rfl, rfl⟩ := (pif_neg hh).mp hS
    have hi : i < 0 := Int32.not_le.mp (fun q => hh ⟨Int32.not_lt.mpr q, trivial⟩)
    refine gT_n 4 ?_
    refine ⟨rfl, rfl, gTM.use (m_wrong_lo hi) (Nat.le_refl _) (fun r u hq => ?_)⟩
    obtain ⟨rfl, rfl⟩ := hq  -- X12_wrong[R171, i, K1]
    refine gT_n 3 ?_
    refine ⟨fun c => absurd c (by decide), fun _ => ?_⟩
    refine gT_n 2 ?_
    exact ⟨I, J, P, rfl, rfl, hC, hM0⟩
theorem rngs1 {a : Int32} (h : 0 ≤ a ∧ a ≤ 1) : a = 0 ∨ a = 1 := by
  obtain ⟨k, hk, rfl⟩ := rngN (n := 1) (by omega) h
  have : k = 0 ∨ k = 1 := by omega
  rcases this with rfl | rfl
  · exact Or.inl rfl
  · exact Or.inr (rfl)
theorem n01 : ¬ (1 : Int32) = 0 := by decide
theorem updL_at {F : Nat → Int64} {z : Nat} {n : Int64} : vp_updL F z n z = n := if_pos rfl
theorem o_rename_c {d : Nat} {s : zS} {I : Nat → Nat → Int32} {J : Nat → Nat → Int64} {P : Nat → Nat} {i w : Int32} (hO : sOK s) (hC : RC s I J P) (hM : RM s I J) : gTM (d + 14) 135 [.ref 0, .int i, .int w] (gST I J P) (pC s (fIt s i (0 ≤ w ∧ w ≤ 1) (fun p k x s' => pif (w = 0) (x = nI (cnt (ig p.1 k).2.2.1) ∧ s' = setI s p k (qOw (ig p.1 k) s.2.2.2.2.1)) (pif ((ig p.1 k).1 = 3) (x = nI (cnt (ig p.1 k).2.2.2.1) ∧ s' = setI s p k (qNx (ig p.1 k) s.2.2.2.2.1)) (x = -4 ∧ s' = s))))) := by
  obtain ⟨tp, fn, t, W, nm, pr, ch, i0, i1⟩ := s
  have hO0 := hO
  have hC0 := hC
  have hM0 := hM
  obtain ⟨oTp, oT, oW, oN, oP, oI0, oI1⟩ := hO
  obtain ⟨kTp, kF, kT, kW, kN, kP, kC, kI0, kI1, kB, kPP⟩ := hC
  obtain ⟨jTp, jF, jT, jSp, jW, jN, jP, jC, jI0, jI1, jB, jL⟩ := hM
  dsimp only at oTp oT oW oN oP oI0 oI1 kTp kF kT kW kN kP kC kI0 kI1 jTp jF jT jSp jW jN jP jC jI0 jI1
  try dsimp only
  by_cases hh : ¬ i < 0 ∧ (0 ≤ w ∧ w ≤ 1)
  · cases pr with
    | none =>
      refine gT_n 2 ?_
      refine px_lt (X := i) (Y := (0)) (rfl) (rfl) (fun κ1 => ?_) (fun κ1 => ?_)
      · refine gT_n 2 ?_
        exact absurd κ1 hh.1
      · refine gT_n 2 ?_
        refine px_lt (X := w) (Y := (0)) (rfl) (rfl) (fun κ2 => ?_) (fun κ2 => ?_)
        · refine gT_n 2 ?_
          exact absurd κ2 (Int32.not_lt.mpr hh.2.1)
        · refine gT_n 3 ?_
          refine px_le (X := w) (Y := (1)) (rfl) (rfl) (fun κ3 => ?_) (fun κ3 => ?_)
          · refine gT_n 4 ?_
            refine ⟨rfl, rfl, rfl, ?_⟩
            refine gT_n 3 ?_
            refine ⟨rfl, fun c => absurd c (kpT (p := fun z : Int32 => ¬ (¬ z = 0)) (show _ = (0 : Int32) from kP.1) (by decide)), fun _ => ?_⟩
            refine gT_n 2 ?_
            show gT _ 135 23 _ _ _ _ _
            refine gT_n 3 ?_
            refine ⟨fun c => absurd c (by decide), fun _ => ?_⟩
            refine gT_n 2 ?_
            exact ⟨_, _, I, J, P, rfl, rfl, ⟨(pif_pos hh).mpr ⟨rfl, rfl⟩, hO0⟩, hC0, hM0⟩
          · refine gT_n 2 ?_
            exact absurd hh.2.2 κ3
    | some p =>
      obtain ⟨h10, hoI, -⟩ := oP p rfl
      by_cases hj : inZ p.1.length i
      · obtain ⟨k, hk, rfl⟩ := hj
        obtain ⟨jj, hjj, eP, hb, hI⟩ := cP_at (kP.2 p rfl) kPP hk h10
        have hbb : 147 ≤ P k ∧ P k ≤ 166 := by omega
        have hbb1 : 147 ≤ P k + 1 ∧ P k + 1 ≤ 166 := by omega
        have hI2 : cI (iMI I I (P k)) (iMI I I (P k + 1)) (iMJ J J (P k)) (ig p.1 k) := by rw [iM_self, iJ_self]; exact hI
        have hq := hoI _ (ig_mem hk)
        rcases rngs1 hh.2 with rfl | rfl
        · have key : gTM (d + 14) 135 [.ref 0, .int (nI k), .int 0] (gST (iMI I I) (iMJ J J) P) (pC (tp, fn, t, W, nm, some p, ch, i0, i1) (fIt (tp, fn, t, W, nm, some p, ch, i0, i1) (nI k) (0 ≤ (0 : Int32) ∧ (0 : Int32) ≤ 1) (fun p k x s' => pif ((0 : Int32) = 0) (x = nI (cnt (ig p.1 k).2.2.1) ∧ s' = setI (tp, fn, t, W, nm, some p, ch, i0, i1) p k (qOw (ig p.1 k) nm)) (pif ((ig p.1 k).1 = 3) (x = nI (cnt (ig p.1 k).2.2.2.1) ∧ s' = setI (tp, fn, t, W, nm, some p, ch, i0, i1) p k (qNx (ig p.1 k) nm)) (x = -4 ∧ s' = (tp, fn, t, W, nm, some p, ch, i0, i1)))))) := by
            refine gT_n 2 ?_
            refine ⟨fun c => absurd c (nI_pos (by omega)), fun _ => ?_⟩
            refine gT_n 2 ?_
            refine ⟨fun c => absurd c (by decide), fun _ => ?_⟩
            refine gT_n 3 ?_
            refine ⟨fun _ => ?_, fun c => absurd (by decide) c⟩
            refine gT_n 4 ?_
            refine ⟨rfl, rfl, rfl, ?_⟩
            refine gT_n 3 ?_
            refine ⟨rfl, fun _ => ?_, fun c => absurd c (kpT (p := fun z : Int32 => ¬ z = 0) (show _ = (1 : Int32) from kP.1) (by decide))⟩
            refine gT_n 2 ?_
            refine ⟨fun c => absurd c (nI_pos (by omega)), fun _ => ?_⟩
            refine gT_n 4 ?_
            refine ⟨rfl, pk_le p.1.length k (fun κ1 => ?_) (fun κ1 => ?_) ((kP.2 p rfl).1) (rfl) (by omega) (by omega)⟩
            · refine gT_n 2 ?_
              show gT _ 135 23 _ _ _ _ _
              refine gT_n 3 ?_
              refine ⟨fun c => absurd c (by decide), fun _ => ?_⟩
              refine gT_n 2 ?_
              exact absurd hk (by omega)
            · refine gT_n 3 ?_
              show gT _ 135 23 _ _ _ _ _
              refine gT_n 3 ?_
              refine ⟨fun _ => ?_, fun c => absurd (by decide) c⟩
              refine gT_n 5 ?_
              refine ⟨rfl, rfl, rfl, (pk_in k 10 (by omega) (rfl)), ?_⟩
              refine gT_top (aa_ref (b := P k) (rfl) (by omega) rfl) ?_
              refine gT_n 4 ?_
              refine ⟨fun _ => ?_, fun c => absurd c (by decide)⟩
              refine gT_n 2 ?_
              refine ⟨fun c => absurd (by decide) c, fun _ => ?_⟩
              refine gT_n 4 ?_
              refine ⟨hb.ob, ?_⟩
              refine gT_k (L := [(5, .long (lN ((ig p.1 k).2.2.1))), (4, .ref (P k)), (3, .int 0), (0, .ref 0), (1, .int (nI k)), (2, .int 0)]) ?_ ⟨(viL ((Eq.trans (iJ_r hbb) (hI.2.1.1)))), rfl, rfl, rfl, rfl, rfl, trivial⟩ rfl
              refine gT_n 2 ?_
              refine ⟨fun c => absurd (by decide) c, fun _ => ?_⟩
              refine gT_n 4 ?_
              refine ⟨rfl, hb.ob, ?_⟩
              refine gT_iPJ hbb (X := (lN nm)) (kN) ?_
              refine gT_n 3 ?_
              refine ⟨rfl, gTM.use (c_count (hq.2.1.lt)) (Nat.le_refl _) (fun r u hq => ?_)⟩
              obtain ⟨rfl, rfl⟩ := hq  -- X3_count[lN ((ig p.1 k).2.2.1)]
              refine gT_n 1 ?_
              exact ⟨_, setI (tp, fn, t, W, nm, some p, ch, i0, i1) p k (qOw (ig p.1 k) nm), _, _, P, rfl, rfl, ⟨(pif_pos ⟨nI_pos (by omega), by decide⟩).mpr ((pif_pos ⟨k, hk, rfl⟩).mpr ⟨k, hk, rfl, (pif_pos rfl).mpr ⟨rfl, rfl⟩⟩), setI_ok hO0 rfl ⟨hq.1, oN, hq.2.2⟩⟩, RC_item hO0 hC0 rfl hk (fun _ _ _ => rfl) (fun a h1 => gupL_n h1) (by rw [gupL_b]; exact ⟨hI.1, ⟨rfl, hI.2.1.2⟩, hI.2.2⟩), RM_item hM0⟩
          rw [iM_self, iJ_self] at key
          exact key
        · have key : gTM (d + 14) 135 [.ref 0, .int (nI k), .int 1] (gST (iMI I I) (iMJ J J) P) (pC (tp, fn, t, W, nm, some p, ch, i0, i1) (fIt (tp, fn, t, W, nm, some p, ch, i0, i1) (nI k) (0 ≤ (1 : Int32) ∧ (1 : Int32) ≤ 1) (fun p k x s' => pif ((1 : Int32) = 0) (x = nI (cnt (ig p.1 k).2.2.1) ∧ s' = setI (tp, fn, t, W, nm, some p, ch, i0, i1) p k (qOw (ig p.1 k) nm)) (pif ((ig p.1 k).1 = 3) (x = nI (cnt (ig p.1 k).2.2.2.1) ∧ s' = setI (tp, fn, t, W, nm, some p, ch, i0, i1) p k (qNx (ig p.1 k) nm)) (x = -4 ∧ s' = (tp, fn, t, W, nm, some p, ch, i0, i1)))))) := by
            refine gT_n 2 ?_
            refine ⟨fun c => absurd c (nI_pos (by omega)), fun _ => ?_⟩
            refine gT_n 2 ?_
            refine ⟨fun c => absurd c (by decide), fun _ => ?_⟩
            refine gT_n 3 ?_
            refine ⟨fun _ => ?_, fun c => absurd (by decide) c⟩
            refine gT_n 4 ?_
            refine ⟨rfl, rfl, rfl, ?_⟩
            refine gT_n 3 ?_
            refine ⟨rfl, fun _ => ?_, fun c => absurd c (kpT (p := fun z : Int32 => ¬ z = 0) (show _ = (1 : Int32) from kP.1) (by decide))⟩
            refine gT_n 2 ?_
            refine ⟨fun c => absurd c (nI_pos (by omega)), fun _ => ?_⟩
            refine gT_n 4 ?_
            refine ⟨rfl, pk_le p.1.length k (fun κ1 => ?_) (fun κ1 => ?_) ((kP.2 p rfl).1) (rfl) (by omega) (by omega)⟩
            · refine gT_n 2 ?_
              show gT _ 135 23 _ _ _ _ _
              refine gT_n 3 ?_
              refine ⟨fun c => absurd c (by decide), fun _ => ?_⟩
              refine gT_n 2 ?_
              exact absurd hk (by omega)
            · refine gT_n 3 ?_
              show gT _ 135 23 _ _ _ _ _
              refine gT_n 3 ?_
              refine ⟨fun _ => ?_, fun c => absurd (by decide) c⟩
              refine gT_n 5 ?_
              refine ⟨rfl, rfl, rfl, (pk_in k 10 (by omega) (rfl)), ?_⟩
              refine gT_top (aa_ref (b := P k) (rfl) (by omega) rfl) ?_
              refine gT_n 4 ?_
              refine ⟨fun c => absurd (by decide) c, fun _ => ?_⟩
              refine gT_n 4 ?_
              refine ⟨hb.ob, px_eq (X := (ig p.1 k).1) (Y := (3)) ((Eq.trans (iM_r hbb) (hI.1.1))) (rfl) (fun κ2 => ?_) (fun κ2 => ?_)⟩
              · refine gT_n 2 ?_
                refine ⟨fun _ => ?_, fun c => absurd c (by decide)⟩
                refine gT_n 3 ?_
                refine ⟨hb.ob, ?_⟩
                refine gT_k (L := [(5, .long (lN ((ig p.1 k).2.2.2.1))), (4, .ref (P k)), (3, .int 0), (0, .ref 0), (1, .int (nI k)), (2, .int 1)]) ?_ ⟨(viL ((Eq.trans (iJ_r hbb) (hI.2.1.2)))), rfl, rfl, rfl, rfl, rfl, trivial⟩ rfl
                refine gT_n 2 ?_
                refine ⟨fun _ => ?_, fun c => absurd c (by decide)⟩
                refine gT_n 4 ?_
                refine ⟨rfl, hb.ob, ?_⟩
                refine gT_iPJ hbb (X := (lN nm)) (kN) ?_
                refine gT_n 2 ?_
                refine ⟨rfl, gTM.use (c_count (hq.2.2.1.lt)) (Nat.le_refl _) (fun r u hq => ?_)⟩
                obtain ⟨rfl, rfl⟩ := hq  -- X3_count[lN ((ig p.1 k).2.2.2.1)]
                refine gT_n 1 ?_
                exact ⟨_, setI (tp, fn, t, W, nm, some p, ch, i0, i1) p k (qNx (ig p.1 k) nm), _, _, P, rfl, rfl, ⟨(pif_pos ⟨nI_pos (by omega), by decide⟩).mpr ((pif_pos ⟨k, hk, rfl⟩).mpr ⟨k, hk, rfl, (pif_neg n01).mpr ((pif_pos κ2).mpr ⟨rfl, rfl⟩)⟩), setI_ok hO0 rfl ⟨hq.1, hq.2.1, oN, hq.2.2.2⟩⟩, RC_item hO0 hC0 rfl hk (fun _ _ _ => rfl) (fun a h1 => gupL_n h1) (by rw [gupL_b]; exact ⟨hI.1, ⟨hI.2.1.1, rfl⟩, hI.2.2⟩), RM_item hM0⟩
              · refine gT_n 2 ?_
                exact ⟨_, _, iMI I I, iMJ J J, P, rfl, rfl, ⟨(pif_pos ⟨nI_pos (by omega), by decide⟩).mpr ((pif_pos ⟨k, hk, rfl⟩).mpr ⟨k, hk, rfl, (pif_neg n01).mpr ((pif_neg κ2).mpr ⟨rfl, rfl⟩)⟩), hO0⟩, (by rw [iM_self, iJ_self]; exact hC0), (by rw [iM_self, iJ_self]; exact hM0)⟩
          rw [iM_self, iJ_self] at key
          exact key
      · refine gT_n 2 ?_
        refine px_lt (X := i) (Y := (0)) (rfl) (rfl) (fun κ1 => ?_) (fun κ1 => ?_)
        · refine gT_n 2 ?_
          exact absurd κ1 hh.1
        · refine gT_n 2 ?_
          refine px_lt (X := w) (Y := (0)) (rfl) (rfl) (fun κ2 => ?_) (fun κ2 => ?_)
          · refine gT_n 2 ?_
            exact absurd κ2 (Int32.not_lt.mpr hh.2.1)
          · refine gT_n 3 ?_
            refine px_le (X := w) (Y := (1)) (rfl) (rfl) (fun κ3 => ?_) (fun κ3 => ?_)
            · refine gT_n 4 ?_
              refine ⟨rfl, rfl, rfl, ?_⟩
              refine gT_n 3 ?_
              refine ⟨rfl, fun _ => ?_, fun c => absurd c (kpT (p := fun z : Int32 => ¬ z = 0) (show _ = (1 : Int32) from kP.1) (by decide))⟩
              refine gT_n 2 ?_
              refine px_lt (X := i) (Y := (0)) (rfl) (rfl) (fun c => by first | exact absurd κ1 c | exact absurd c κ1 | (exfalso; omega)) (fun _ => ?_)
              refine gT_n 4 ?_
              refine ⟨rfl, px_ge (X := i) (Y := nI p.1.length) (rfl) ((kP.2 p rfl).1) (fun κ4 => ?_) (fun κ4 => ?_)⟩
              · refine gT_n 2 ?_
                show gT _ 135 23 _ _ _ _ _
                refine gT_n 3 ?_
                refine ⟨fun c => absurd c (by decide), fun _ => ?_⟩
                refine gT_n 2 ?_
                exact ⟨_, _, I, J, P, rfl, rfl, ⟨(pif_pos hh).mpr ((pif_neg hj).mpr ⟨rfl, rfl⟩), hO0⟩, hC0, hM0⟩
              · refine gT_n 3 ?_
                show gT _ 135 23 _ _ _ _ _
                refine gT_n 3 ?_
                refine ⟨fun _ => ?_, fun c => absurd (by decide) c⟩
                exact absurd (inZ_of (by omega) hh.1 (by first | exact κ4 | exact Int32.not_le.mpr κ4)) hj
            · refine gT_n 2 ?_
              exact absurd hh.2.2 κ3
  · refine gT_n 2 ?_
    refine px_lt (X := i) (Y := (0)) (rfl) (rfl) (fun κ1 => ?_) (fun κ1 => ?_)
    · refine gT_n 2 ?_
      exact ⟨_, _, I, J, P, rfl, rfl, ⟨(pif_neg hh).mpr ⟨rfl, rfl⟩, hO0⟩, hC0, hM0⟩
    · refine gT_n 2 ?_
      refine px_lt (X := w) (Y := (0)) (rfl) (rfl) (fun κ2 => ?_) (fun κ2 => ?_)
      · refine gT_n 2 ?_
        exact ⟨_, _, I, J, P, rfl, rfl, ⟨(pif_neg hh).mpr ⟨rfl, rfl⟩, hO0⟩, hC0, hM0⟩
      · refine gT_n 3 ?_
        refine px_le (X := w) (Y := (1)) (rfl) (rfl) (fun κ3 => ?_) (fun κ3 => ?_)
        · exact absurd ⟨κ1, Int32.not_lt.mp κ2, κ3⟩ hh
        · refine gT_n 2 ?_
          exact ⟨_, _, I, J, P, rfl, rfl, ⟨(pif_neg hh).mpr ⟨rfl, rfl⟩, hO0⟩, hC0, hM0⟩
theorem o_rename_m {d : Nat} {s s' : zS} {x : Int32} {I : Nat → Nat → Int32} {J : Nat → Nat → Int64} {P : Nat → Nat} {i w : Int32} (hO : sOK s) (hS : (fIt s i (0 ≤ w ∧ w ≤ 1) (fun p k x s' => pif (w = 0) (x = nI (cnt (ig p.1 k).2.2.1) ∧ s' = setI s p k (qOw (ig p.1 k) s.2.2.2.2.1)) (pif ((ig p.1 k).1 = 3) (x = nI (cnt (ig p.1 k).2.2.2.1) ∧ s' = setI s p k (qNx (ig p.1 k) s.2.2.2.2.1)) (x = -4 ∧ s' = s)))) x s') (hC : RC s' I J P) (hM : RM s I J) : gTM (d + 14) 238 [.ref 171, .int i, .int w] (gST I J P) (pM x s') := by
  obtain ⟨tp, fn, t, W, nm, pr, ch, i0, i1⟩ := s
  have hO0 := hO
  have hM0 := hM
  obtain ⟨oTp, oT, oW, oN, oP, oI0, oI1⟩ := hO
  obtain ⟨jTp, jF, jT, jSp, jW, jN, jP, jC, jI0, jI1, jB, jL⟩ := hM
  dsimp only at oTp oT oW oN oP oI0 oI1 jTp jF jT jSp jW jN jP jC jI0 jI1
  try dsimp only at hS
  by_cases hh : ¬ i < 0 ∧ (0 ≤ w ∧ w ≤ 1)
  · replace hS := (pif_pos hh).mp hS
    cases pr with
    | none =>
      obtain ⟨rfl, rfl⟩ := hS
      refine gT_n 7 ?_
      refine ⟨rfl, gTM.use (m_in1 (x := 0) (z := 1) rfl rfl hh.2) (Nat.le_refl _) (fun r u hq => ?_)⟩
      obtain ⟨rfl, rfl⟩ := hq  -- X12_in[L(w).toInt64, lN 0, lN 1]
      refine gT_n 1 ?_
      refine ⟨rfl, rfl, ?_⟩
      refine gT_n 2 ?_
      refine px_lt (X := i) (Y := (0)) (rfl) (rfl) (fun κ1 => ?_) (fun κ1 => ?_)
      · refine gT_n 3 ?_
        show gT _ 238 12 _ _ _ _ _
        refine gT_n 3 ?_
        refine ⟨fun c => absurd c (by decide), fun _ => ?_⟩
        refine gT_n 2 ?_
        exact absurd κ1 hh.1
      · refine gT_n 2 ?_
        refine ⟨fun _ => ?_, fun c => absurd c (by decide)⟩
        refine gT_n 3 ?_
        refine ⟨rfl, fun c => absurd c (kpT (p := fun z : Int32 => ¬ (¬ z = 0)) (show _ = (0 : Int32) from jP.1) (by decide)), fun _ => ?_⟩
        refine gT_n 3 ?_
        show gT _ 238 12 _ _ _ _ _
        refine gT_n 3 ?_
        refine ⟨fun c => absurd c (by decide), fun _ => ?_⟩
        refine gT_n 2 ?_
        exact ⟨I, J, P, rfl, rfl, hC, hM0⟩
    | some p =>
      obtain ⟨h10, hoI, -⟩ := oP p rfl
      by_cases hj : inZ p.1.length i
      · have hT := (pif_pos hj).mp hS
        clear hS
        obtain ⟨k, hk, rfl, hS⟩ := hT
        try dsimp only at hS
        have hI := (jP.2 p rfl).2.2.2.2 k hk
        have hq := hoI _ (ig_mem hk)
        rcases rngs1 hh.2 with rfl | rfl
        · refine gT_n 7 ?_
          refine ⟨rfl, gTM.use (m_in1 (x := 0) (z := 1) rfl rfl (by decide)) (Nat.le_refl _) (fun r u hq => ?_)⟩
          obtain ⟨rfl, rfl⟩ := hq  -- X12_in[i2l(K0), lN 0, lN 1]
          refine gT_n 1 ?_
          refine ⟨rfl, rfl, ?_⟩
          refine gT_n 2 ?_
          refine ⟨fun c => absurd c (nI_pos (by omega)), fun _ => ?_⟩
          refine gT_n 2 ?_
          refine ⟨fun _ => ?_, fun c => absurd c (by decide)⟩
          refine gT_n 3 ?_
          refine ⟨rfl, fun _ => ?_, fun c => absurd c (kpT (p := fun z : Int32 => ¬ z = 0) (show _ = (1 : Int32) from jP.1) (by decide))⟩
          refine gT_n 4 ?_
          refine ⟨rfl, pk_lt k p.1.length (fun κ1 => ?_) (fun κ1 => ?_) (rfl) ((jP.2 p rfl).1) (by omega) (by omega)⟩
          · refine gT_n 2 ?_
            show gT _ 238 12 _ _ _ _ _
            refine gT_n 3 ?_
            refine ⟨fun _ => ?_, fun c => absurd (by decide) c⟩
            refine gT_n 3 ?_
            refine ⟨fun _ => ?_, fun c => absurd c (by decide)⟩
            refine gT_n 2 ?_
            refine ⟨fun c => absurd (by decide) c, fun _ => ?_⟩
            refine gT_n 6 ?_
            refine ⟨rfl, rfl, (pk_in k 10 (by omega) (rfl)), rfl, gTM.useA (n_labelsOf (n := ((ig p.1 k).2.2.1))) (Nat.le_refl _) (aL ((rdJ (rfl) (by omega) hI.2.1.1)) (rfl)) (fun r u hq => ?_)⟩
            obtain ⟨rfl, rfl⟩ := hq  -- X12_labelsOf[lN ((ig p.1 k).2.2.1)]
            refine gT_n 3 ?_
            refine ⟨fun c => absurd (by decide) c, fun _ => ?_⟩
            refine gT_n 6 ?_
            refine ⟨rfl, rfl, rfl, (pk_in k 10 (by omega) (rfl)), ?_⟩
            refine gT_ivL (n := k) (X := (lN (mo nm))) (rfl) (by omega) (jN) ?_
            refine gT_n 3 ?_
            obtain ⟨rfl, rfl⟩ := (pif_pos rfl).mp hS
            exact ⟨I, _, P, rfl, rfl, hC, ⟨jTp, jF, jT, jSp, jW, jN, ⟨jP.1, fun r hr => by
              cases hr
              exact mP_set (jP.2 p rfl) hk ⟨hI.1, ⟨updL_at, hI.2.1.2⟩, hI.2.2⟩ (fun j hj r h => ⟨h.1, ⟨(if_neg hj).trans h.2.1.1, h.2.1.2⟩, h.2.2⟩)⟩, jC, jI0, jI1, jB, jL⟩⟩
          · refine gT_n 3 ?_
            show gT _ 238 12 _ _ _ _ _
            refine gT_n 3 ?_
            refine ⟨fun c => absurd c (by decide), fun _ => ?_⟩
            refine gT_n 2 ?_
            exact absurd hk (by omega)
        · refine gT_n 7 ?_
          refine ⟨rfl, gTM.use (m_in1 (x := 0) (z := 1) rfl rfl (by decide)) (Nat.le_refl _) (fun r u hq => ?_)⟩
          obtain ⟨rfl, rfl⟩ := hq  -- X12_in[i2l(K1), lN 0, lN 1]
          refine gT_n 1 ?_
          refine ⟨rfl, rfl, ?_⟩
          refine gT_n 2 ?_
          refine ⟨fun c => absurd c (nI_pos (by omega)), fun _ => ?_⟩
          refine gT_n 2 ?_
          refine ⟨fun _ => ?_, fun c => absurd c (by decide)⟩
          refine gT_n 3 ?_
          refine ⟨rfl, fun _ => ?_, fun c => absurd c (kpT (p := fun z : Int32 => ¬ z = 0) (show _ = (1 : Int32) from jP.1) (by decide))⟩
          refine gT_n 4 ?_
          refine ⟨rfl, pk_lt k p.1.length (fun κ1 => ?_) (fun κ1 => ?_) (rfl) ((jP.2 p rfl).1) (by omega) (by omega)⟩
          · refine gT_n 2 ?_
            show gT _ 238 12 _ _ _ _ _
            refine gT_n 3 ?_
            refine ⟨fun _ => ?_, fun c => absurd (by decide) c⟩
            refine gT_n 3 ?_
            refine ⟨fun c => absurd (by decide) c, fun _ => ?_⟩
            refine gT_n 6 ?_
            refine ⟨rfl, rfl, (pk_in k 10 (by omega) (rfl)), px_eq (X := (ig p.1 k).1) (Y := (3)) ((rdI (rfl) (by omega) hI.1.1)) (rfl) (fun κ2 => ?_) (fun κ2 => ?_)⟩
            · refine gT_n 2 ?_
              refine ⟨fun _ => ?_, fun c => absurd c (by decide)⟩
              refine gT_n 5 ?_
              refine ⟨rfl, rfl, (pk_in k 10 (by omega) (rfl)), rfl, gTM.useA (n_labelsOf (n := ((ig p.1 k).2.2.2.1))) (Nat.le_refl _) (aL ((rdJ (rfl) (by omega) hI.2.1.2)) (rfl)) (fun r u hq => ?_)⟩
              obtain ⟨rfl, rfl⟩ := hq  -- X12_labelsOf[lN ((ig p.1 k).2.2.2.1)]
              refine gT_n 3 ?_
              refine ⟨fun _ => ?_, fun c => absurd c (by decide)⟩
              refine gT_n 6 ?_
              refine ⟨rfl, rfl, rfl, (pk_in k 10 (by omega) (rfl)), ?_⟩
              refine gT_ivL (n := k) (X := (lN (mo nm))) (rfl) (by omega) (jN) ?_
              refine gT_n 2 ?_
              obtain ⟨rfl, rfl⟩ := (pif_pos κ2).mp ((pif_neg n01).mp hS)
              exact ⟨I, _, P, rfl, rfl, hC, ⟨jTp, jF, jT, jSp, jW, jN, ⟨jP.1, fun r hr => by
                cases hr
                exact mP_set (jP.2 p rfl) hk ⟨hI.1, ⟨hI.2.1.1, updL_at⟩, hI.2.2⟩ (fun j hj r h => ⟨h.1, ⟨h.2.1.1, (if_neg hj).trans h.2.1.2⟩, h.2.2⟩)⟩, jC, jI0, jI1, jB, jL⟩⟩
            · refine gT_n 2 ?_
              obtain ⟨rfl, rfl⟩ := (pif_neg κ2).mp ((pif_neg n01).mp hS)
              exact ⟨I, J, P, rfl, rfl, hC, hM0⟩
          · refine gT_n 3 ?_
            show gT _ 238 12 _ _ _ _ _
            refine gT_n 3 ?_
            refine ⟨fun c => absurd c (by decide), fun _ => ?_⟩
            refine gT_n 2 ?_
            exact absurd hk (by omega)
      · obtain ⟨rfl, rfl⟩ := (pif_neg hj).mp hS
        refine gT_n 7 ?_
        refine ⟨rfl, gTM.use (m_in1 (x := 0) (z := 1) rfl rfl hh.2) (Nat.le_refl _) (fun r u hq => ?_)⟩
        obtain ⟨rfl, rfl⟩ := hq  -- X12_in[L(w).toInt64, lN 0, lN 1]
        refine gT_n 1 ?_
        refine ⟨rfl, rfl, ?_⟩
        refine gT_n 2 ?_
        refine px_lt (X := i) (Y := (0)) (rfl) (rfl) (fun κ1 => ?_) (fun κ1 => ?_)
        · refine gT_n 3 ?_
          show gT _ 238 12 _ _ _ _ _
          refine gT_n 3 ?_
          refine ⟨fun c => absurd c (by decide), fun _ => ?_⟩
          refine gT_n 2 ?_
          exact absurd κ1 hh.1
        · refine gT_n 2 ?_
          refine ⟨fun _ => ?_, fun c => absurd c (by decide)⟩
          refine gT_n 3 ?_
          refine ⟨rfl, fun _ => ?_, fun c => absurd c (kpT (p := fun z : Int32 => ¬ z = 0) (show _ = (1 : Int32) from jP.1) (by decide))⟩
          refine gT_n 4 ?_
          refine ⟨rfl, px_lt (X := i) (Y := nI p.1.length) (rfl) ((jP.2 p rfl).1) (fun κ2 => ?_) (fun κ2 => ?_)⟩
          · refine gT_n 2 ?_
            show gT _ 238 12 _ _ _ _ _
            refine gT_n 3 ?_
            refine ⟨fun _ => ?_, fun c => absurd (by decide) c⟩
            exact absurd (inZ_of (by omega) hh.1 (by first | exact κ2 | exact Int32.not_le.mpr κ2)) hj
          · refine gT_n 3 ?_
            show gT _ 238 12 _ _ _ _ _
            refine gT_n 3 ?_
            refine ⟨fun c => absurd c (by decide), fun _ => ?_⟩
            refine gT_n 2 ?_
            exact ⟨I, J, P, rfl, rfl, hC, hM0⟩
  · obtain ⟨rfl, rfl⟩ := (pif_neg hh).mp hS
    by_cases hw : 0 ≤ w ∧ w ≤ 1
    · have hi : i < 0 := Int32.not_le.mp (fun q => hh ⟨Int32.not_lt.mpr q, hw⟩)
      refine gT_n 7 ?_
      refine ⟨rfl, gTM.use (m_in1 (x := 0) (z := 1) rfl rfl hw) (Nat.le_refl _) (fun r u hq => ?_)⟩
      obtain ⟨rfl, rfl⟩ := hq  -- X12_in[L(w).toInt64, lN 0, lN 1]
      refine gT_n 1 ?_
      refine ⟨rfl, rfl, gTM.use (m_wrong_lo hi) (Nat.le_refl _) (fun r u hq => ?_)⟩
      obtain ⟨rfl, rfl⟩ := hq  -- X12_wrong[R171, i, K1]
      refine gT_n 3 ?_
      refine ⟨fun c => absurd c (by decide), fun _ => ?_⟩
      refine gT_n 2 ?_
      exact ⟨I, J, P, rfl, rfl, hC, hM0⟩
    · refine gT_n 7 ?_
      refine ⟨rfl, gTM.use (m_in0 (x := 0) (z := 1) rfl rfl hw) (Nat.le_refl _) (fun r u hq => ?_)⟩
      obtain ⟨rfl, rfl⟩ := hq  -- X12_in[L(w).toInt64, lN 0, lN 1]
      refine gT_n 1 ?_
      refine ⟨rfl, rfl, gTM.use (m_wrong_0) (Nat.le_refl _) (fun r u hq => ?_)⟩
      obtain ⟨rfl, rfl⟩ := hq  -- X12_wrong[R171, i, K0]
      refine gT_n 3 ?_
      refine ⟨fun c => absurd c (by decide), fun _ => ?_⟩
      refine gT_n 2 ?_
      exact ⟨I, J, P, rfl, rfl, hC, hM0⟩
