/-! longs; keys told -/
section
variable {x y X Y : Int64} {A B : Prop}
theorem pj_lt (ex : x = X) (ey : y = Y) (f : X < Y → A) (g : ¬ X < Y → B) : (lg_cmp x y < 0 → A) ∧ (¬ lg_cmp x y < 0 → B) := by
  subst ex ey; rw [lg_cmp_lt]; exact ⟨f, g⟩
theorem pj_ge (ex : x = X) (ey : y = Y) (f : ¬ X < Y → A) (g : X < Y → B) : (0 ≤ lg_cmp x y → A) ∧ (¬ 0 ≤ lg_cmp x y → B) := by
  subst ex ey
  have h := pj_lt (A := B) (B := A) rfl rfl g f
  exact ⟨fun c => h.2 (Int32.not_lt.mpr c), fun c => h.1 (Int32.not_le.mp c)⟩
theorem k2J {f : Int64 → Int64 → Int64} {r : Int64} (ex : x = X) (ey : y = Y) (h : f X Y = r) : f x y = r := by
  subst ex ey; exact h
end
theorem rng4 {a : Int32} (h : 0 ≤ a ∧ a ≤ 3) : a = 0 ∨ a = 1 ∨ a = 2 ∨ a = 3 := by
  obtain ⟨k, hk, rfl⟩ := rngN (n := 3) (by omega) h
  have : k = 0 ∨ k = 1 ∨ k = 2 ∨ k = 3 := by omega
  rcases this with rfl | rfl | rfl | rfl
  · exact Or.inl rfl
  · exact Or.inr (Or.inl rfl)
  · exact Or.inr (Or.inr (Or.inl rfl))
  · exact Or.inr (Or.inr (Or.inr rfl))
def kV (l : zK) (i : Int32) (b : Bool) (x : Int32) : Prop := pif (inZ l.length i) (∃ j, j < l.length ∧ i = nI j ∧ x = cond b (kg l j).2 (kg l j).1) (x = -4)
theorem kV_yes {l : zK} {j : Nat} {b : Bool} {x : Int32} (hj : j < l.length) (hl : l.length ≤ 3) : kV l (nI j) b x ↔ x = cond b (kg l j).2 (kg l j).1 := by
  unfold kV
  rw [pif_pos ⟨j, hj, rfl⟩]
  constructor
  · rintro ⟨m, hm, e, h⟩
    rw [(nI_eq (by omega) (by omega)).mp e]; exact h
  · exact fun h => ⟨j, hj, rfl, h⟩
def fKey (s : zS) (z i w x : Int32) : Prop := pif (inZ s.2.2.1.1 z ∧ ¬ i < 0 ∧ (0 ≤ w ∧ w ≤ 3)) (∃ n, n < s.2.2.1.1 ∧ z = nI n ∧ kV (if w = 1 ∨ w = 3 then s.2.2.2.1.2.2.1 n else s.2.2.2.1.2.1 n) i (decide (2 ≤ w)) x) (x = -1)
theorem fKey_yes {s : zS} {n : Nat} {i w x : Int32} (hn : n < s.2.2.1.1) (h4 : s.2.2.1.1 ≤ 4) (h : ¬ i < 0 ∧ (0 ≤ w ∧ w ≤ 3)) : fKey s (nI n) i w x ↔ kV (if w = 1 ∨ w = 3 then s.2.2.2.1.2.2.1 n else s.2.2.2.1.2.1 n) i (decide (2 ≤ w)) x := by
  unfold fKey
  rw [pif_pos ⟨⟨n, hn, rfl⟩, h⟩]
  constructor
  · rintro ⟨m, hm, e, h⟩
    rw [← (nI_eq (by omega) (by omega)).mp e] at h; exact h
  · exact fun h => ⟨n, hn, rfl, h⟩
theorem o_key_c {d : Nat} {s : zS} {I : Nat → Nat → Int32} {J : Nat → Nat → Int64} {P : Nat → Nat} {z i w : Int32} (hO : sOK s) (hC : RC s I J P) (hM : RM s I J) : gTM (d + 9) 127 [.ref 0, .int z, .int i, .int w] (gST I J P) (pC s (fun x s' => fKey s z i w x ∧ s' = s)) := by
  obtain ⟨tp, fn, t, W, nm, pr, ch, i0, i1⟩ := s
  have hO0 := hO
  have hC0 := hC
  have hM0 := hM
  obtain ⟨oTp, oT, oW, oN, oP, oI0, oI1⟩ := hO
  obtain ⟨kTp, kF, kT, kW, kN, kP, kC, kI0, kI1, kB, kPP⟩ := hC
  obtain ⟨jTp, jF, jT, jSp, jW, jN, jP, jC, jI0, jI1, jB, jL⟩ := hM
  dsimp only at oTp oT oW oN oP oI0 oI1 kTp kF kT kW kN kP kC kI0 kI1 jTp jF jT jSp jW jN jP jC jI0 jI1
  try dsimp only
  have h4 := oT.2.1
  by_cases hh : inZ t.1 z ∧ ¬ i < 0 ∧ (0 ≤ w ∧ w ≤ 3)
  · obtain ⟨⟨z, hz, rfl⟩, hi, hw⟩ := hh
    have hz4 : z < 4 := by omega
    obtain ⟨hb, hr⟩ := kRow_out (P := P) hz4
    obtain ⟨he, hq⟩ := kRow_dig (P := P) hz4
    have hK := cK_out kW hz4
    have hD := cK_dig kW hz4
    have ho := oW.2.1 z hz4
    have hd := oW.2.2.1 z hz4
    rcases rng4 hw with rfl | rfl | rfl | rfl
    · by_cases hj : inZ (W.2.1 z).length i
      · obtain ⟨j, hj, rfl⟩ := hj
        refine gT_n 4 ?_
        refine ⟨rfl, rfl, rfl, gTM.use (c_has1 oT kT.1 ⟨z, hz, rfl⟩) (Nat.le_refl _) (fun r u hq => ?_)⟩
        obtain ⟨rfl, rfl⟩ := hq  -- X8_has[R12, nI z]
        refine gT_n 1 ?_
        refine ⟨fun c => absurd c (by decide), fun _ => ?_⟩
        refine gT_n 2 ?_
        refine ⟨fun c => absurd c (nI_pos (by omega)), fun _ => ?_⟩
        refine gT_n 2 ?_
        refine ⟨fun c => absurd c (by decide), fun _ => ?_⟩
        refine gT_n 3 ?_
        refine ⟨fun _ => ?_, fun c => absurd (by decide) c⟩
        refine gT_n 3 ?_
        refine ⟨fun c => absurd c (by decide), fun _ => ?_⟩
        refine gT_n 3 ?_
        refine ⟨fun _ => ?_, fun c => absurd c (by decide)⟩
        refine gT_n 4 ?_
        refine ⟨fun _ => ?_, fun c => absurd (by decide) c⟩
        refine gT_n 5 ?_
        refine ⟨rfl, rfl, rfl, (pk_in z 4 (by omega) (rfl)), ?_⟩
        refine gT_top (aa_ref (rfl) (by omega) hr) ?_
        refine gT_n 5 ?_
        refine ⟨hb.ob, pk_lt j ((W.2.1 z).length) (fun κ1 => ?_) (fun κ1 => ?_) (rfl) (hK.1) (by omega) (by omega)⟩
        · refine gT_n 3 ?_
          refine ⟨fun c => absurd c (by decide), fun _ => ?_⟩
          refine gT_n 2 ?_
          refine ⟨hb.ob, ?_⟩
          refine gT_top (hb.v0) ?_
          refine gT_n 4 ?_
          refine ⟨hb.ar1, (pk_inS (m := 3) (k := j) (hb.ln1) (by omega) (rfl)), ?_⟩
          exact ⟨_, _, I, J, P, rfl, ri ((rdI (rfl) (by omega) (cK_at hK (Nat.le_trans ho (by decide)) hj).1)), ⟨⟨(fKey_yes hz h4 ⟨hi, by decide⟩).mpr ((kV_yes hj (Nat.le_trans ho (by decide))).mpr rfl), rfl⟩, hO0⟩, hC0, hM0⟩
        · refine gT_n 2 ?_
          exact absurd hj (by omega)
      · refine gT_n 4 ?_
        refine ⟨rfl, rfl, rfl, gTM.use (c_has1 oT kT.1 ⟨z, hz, rfl⟩) (Nat.le_refl _) (fun r u hq => ?_)⟩
        obtain ⟨rfl, rfl⟩ := hq  -- X8_has[R12, nI z]
        refine gT_n 1 ?_
        refine ⟨fun c => absurd c (by decide), fun _ => ?_⟩
        refine gT_n 2 ?_
        refine px_lt (X := i) (Y := (0)) (rfl) (rfl) (fun κ1 => ?_) (fun κ1 => ?_)
        · refine gT_n 2 ?_
          exact absurd κ1 hi
        · refine gT_n 2 ?_
          refine ⟨fun c => absurd c (by decide), fun _ => ?_⟩
          refine gT_n 3 ?_
          refine ⟨fun _ => ?_, fun c => absurd (by decide) c⟩
          refine gT_n 3 ?_
          refine ⟨fun c => absurd c (by decide), fun _ => ?_⟩
          refine gT_n 3 ?_
          refine ⟨fun _ => ?_, fun c => absurd c (by decide)⟩
          refine gT_n 4 ?_
          refine ⟨fun _ => ?_, fun c => absurd (by decide) c⟩
          refine gT_n 5 ?_
          refine ⟨rfl, rfl, rfl, (pk_in z 4 (by omega) (rfl)), ?_⟩
          refine gT_top (aa_ref (rfl) (by omega) hr) ?_
          refine gT_n 5 ?_
          refine ⟨hb.ob, px_lt (X := i) (Y := nI ((W.2.1 z).length)) (rfl) (hK.1) (fun κ2 => ?_) (fun κ2 => ?_)⟩
          · exact absurd (inZ_of (by omega) hi (Int32.not_le.mpr κ2)) hj
          · refine gT_n 2 ?_
            exact ⟨_, _, I, J, P, rfl, rfl, ⟨⟨(fKey_yes hz h4 ⟨hi, by decide⟩).mpr ((pif_neg hj).mpr rfl), rfl⟩, hO0⟩, hC0, hM0⟩
    · by_cases hj : inZ (W.2.2.1 z).length i
      · obtain ⟨j, hj, rfl⟩ := hj
        refine gT_n 4 ?_
        refine ⟨rfl, rfl, rfl, gTM.use (c_has1 oT kT.1 ⟨z, hz, rfl⟩) (Nat.le_refl _) (fun r u hq => ?_)⟩
        obtain ⟨rfl, rfl⟩ := hq  -- X8_has[R12, nI z]
        refine gT_n 1 ?_
        refine ⟨fun c => absurd c (by decide), fun _ => ?_⟩
        refine gT_n 2 ?_
        refine ⟨fun c => absurd c (nI_pos (by omega)), fun _ => ?_⟩
        refine gT_n 2 ?_
        refine ⟨fun c => absurd c (by decide), fun _ => ?_⟩
        refine gT_n 3 ?_
        refine ⟨fun _ => ?_, fun c => absurd (by decide) c⟩
        refine gT_n 3 ?_
        refine ⟨fun _ => ?_, fun c => absurd (by decide) c⟩
        refine gT_n 5 ?_
        refine ⟨fun c => absurd c (by decide), fun _ => ?_⟩
        refine gT_n 5 ?_
        refine ⟨rfl, rfl, rfl, (pk_in z 4 (by omega) (rfl)), ?_⟩
        refine gT_top (aa_ref (rfl) (by omega) hq) ?_
        refine gT_n 6 ?_
        refine ⟨he.ob, pk_lt j ((W.2.2.1 z).length) (fun κ1 => ?_) (fun κ1 => ?_) (rfl) (hD.1) (by omega) (by omega)⟩
        · refine gT_n 3 ?_
          refine ⟨fun c => absurd c (by decide), fun _ => ?_⟩
          refine gT_n 2 ?_
          refine ⟨he.ob, ?_⟩
          refine gT_top (he.v0) ?_
          refine gT_n 4 ?_
          refine ⟨he.ar1, (pk_inS (m := 3) (k := j) (he.ln1) (by omega) (rfl)), ?_⟩
          exact ⟨_, _, I, J, P, rfl, ri ((rdI (rfl) (by omega) (cK_at hD (Nat.le_trans hd (by decide)) hj).1)), ⟨⟨(fKey_yes hz h4 ⟨hi, by decide⟩).mpr ((kV_yes hj (Nat.le_trans hd (by decide))).mpr rfl), rfl⟩, hO0⟩, hC0, hM0⟩
        · refine gT_n 2 ?_
          exact absurd hj (by omega)
      · refine gT_n 4 ?_
        refine ⟨rfl, rfl, rfl, gTM.use (c_has1 oT kT.1 ⟨z, hz, rfl⟩) (Nat.le_refl _) (fun r u hq => ?_)⟩
        obtain ⟨rfl, rfl⟩ := hq  -- X8_has[R12, nI z]
        refine gT_n 1 ?_
        refine ⟨fun c => absurd c (by decide), fun _ => ?_⟩
        refine gT_n 2 ?_
        refine px_lt (X := i) (Y := (0)) (rfl) (rfl) (fun κ1 => ?_) (fun κ1 => ?_)
        · refine gT_n 2 ?_
          exact absurd κ1 hi
        · refine gT_n 2 ?_
          refine ⟨fun c => absurd c (by decide), fun _ => ?_⟩
          refine gT_n 3 ?_
          refine ⟨fun _ => ?_, fun c => absurd (by decide) c⟩
          refine gT_n 3 ?_
          refine ⟨fun _ => ?_, fun c => absurd (by decide) c⟩
          refine gT_n 5 ?_
          refine ⟨fun c => absurd c (by decide), fun _ => ?_⟩
          refine gT_n 5 ?_
          refine ⟨rfl, rfl, rfl, (pk_in z 4 (by omega) (rfl)), ?_⟩
          refine gT_top (aa_ref (rfl) (by omega) hq) ?_
          refine gT_n 6 ?_
          refine ⟨he.ob, px_lt (X := i) (Y := nI ((W.2.2.1 z).length)) (rfl) (hD.1) (fun κ2 => ?_) (fun κ2 => ?_)⟩
          · exact absurd (inZ_of (by omega) hi (Int32.not_le.mpr κ2)) hj
          · refine gT_n 2 ?_
            exact ⟨_, _, I, J, P, rfl, rfl, ⟨⟨(fKey_yes hz h4 ⟨hi, by decide⟩).mpr ((pif_neg hj).mpr rfl), rfl⟩, hO0⟩, hC0, hM0⟩
    · by_cases hj : inZ (W.2.1 z).length i
      · obtain ⟨j, hj, rfl⟩ := hj
        refine gT_n 4 ?_
        refine ⟨rfl, rfl, rfl, gTM.use (c_has1 oT kT.1 ⟨z, hz, rfl⟩) (Nat.le_refl _) (fun r u hq => ?_)⟩
        obtain ⟨rfl, rfl⟩ := hq  -- X8_has[R12, nI z]
        refine gT_n 1 ?_
        refine ⟨fun c => absurd c (by decide), fun _ => ?_⟩
        refine gT_n 2 ?_
        refine ⟨fun c => absurd c (nI_pos (by omega)), fun _ => ?_⟩
        refine gT_n 2 ?_
        refine ⟨fun c => absurd c (by decide), fun _ => ?_⟩
        refine gT_n 3 ?_
        refine ⟨fun _ => ?_, fun c => absurd (by decide) c⟩
        refine gT_n 3 ?_
        refine ⟨fun c => absurd c (by decide), fun _ => ?_⟩
        refine gT_n 3 ?_
        refine ⟨fun _ => ?_, fun c => absurd c (by decide)⟩
        refine gT_n 4 ?_
        refine ⟨fun _ => ?_, fun c => absurd (by decide) c⟩
        refine gT_n 5 ?_
        refine ⟨rfl, rfl, rfl, (pk_in z 4 (by omega) (rfl)), ?_⟩
        refine gT_top (aa_ref (rfl) (by omega) hr) ?_
        refine gT_n 5 ?_
        refine ⟨hb.ob, pk_lt j ((W.2.1 z).length) (fun κ1 => ?_) (fun κ1 => ?_) (rfl) (hK.1) (by omega) (by omega)⟩
        · refine gT_n 3 ?_
          refine ⟨fun _ => ?_, fun c => absurd (by decide) c⟩
          refine gT_n 2 ?_
          refine ⟨hb.ob, ?_⟩
          refine gT_top (hb.v1) ?_
          refine gT_n 3 ?_
          refine ⟨hb.ar2, (pk_inS (m := 3) (k := j) (hb.ln2) (by omega) (rfl)), ?_⟩
          exact ⟨_, _, I, J, P, rfl, ri ((rdI (rfl) (by omega) (cK_at hK (Nat.le_trans ho (by decide)) hj).2)), ⟨⟨(fKey_yes hz h4 ⟨hi, by decide⟩).mpr ((kV_yes hj (Nat.le_trans ho (by decide))).mpr rfl), rfl⟩, hO0⟩, hC0, hM0⟩
        · refine gT_n 2 ?_
          exact absurd hj (by omega)
      · refine gT_n 4 ?_
        refine ⟨rfl, rfl, rfl, gTM.use (c_has1 oT kT.1 ⟨z, hz, rfl⟩) (Nat.le_refl _) (fun r u hq => ?_)⟩
        obtain ⟨rfl, rfl⟩ := hq  -- X8_has[R12, nI z]
        refine gT_n 1 ?_
        refine ⟨fun c => absurd c (by decide), fun _ => ?_⟩
        refine gT_n 2 ?_
        refine px_lt (X := i) (Y := (0)) (rfl) (rfl) (fun κ1 => ?_) (fun κ1 => ?_)
        · refine gT_n 2 ?_
          exact absurd κ1 hi
        · refine gT_n 2 ?_
          refine ⟨fun c => absurd c (by decide), fun _ => ?_⟩
          refine gT_n 3 ?_
          refine ⟨fun _ => ?_, fun c => absurd (by decide) c⟩
          refine gT_n 3 ?_
          refine ⟨fun c => absurd c (by decide), fun _ => ?_⟩
          refine gT_n 3 ?_
          refine ⟨fun _ => ?_, fun c => absurd c (by decide)⟩
          refine gT_n 4 ?_
          refine ⟨fun _ => ?_, fun c => absurd (by decide) c⟩
          refine gT_n 5 ?_
          refine ⟨rfl, rfl, rfl, (pk_in z 4 (by omega) (rfl)), ?_⟩
          refine gT_top (aa_ref (rfl) (by omega) hr) ?_
          refine gT_n 5 ?_
          refine ⟨hb.ob, px_lt (X := i) (Y := nI ((W.2.1 z).length)) (rfl) (hK.1) (fun κ2 => ?_) (fun κ2 => ?_)⟩
          · exact absurd (inZ_of (by omega) hi (Int32.not_le.mpr κ2)) hj
          · refine gT_n 2 ?_
            exact ⟨_, _, I, J, P, rfl, rfl, ⟨⟨(fKey_yes hz h4 ⟨hi, by decide⟩).mpr ((pif_neg hj).mpr rfl), rfl⟩, hO0⟩, hC0, hM0⟩
    · by_cases hj : inZ (W.2.2.1 z).length i
      · obtain ⟨j, hj, rfl⟩ := hj
        refine gT_n 4 ?_
        refine ⟨rfl, rfl, rfl, gTM.use (c_has1 oT kT.1 ⟨z, hz, rfl⟩) (Nat.le_refl _) (fun r u hq => ?_)⟩
        obtain ⟨rfl, rfl⟩ := hq  -- X8_has[R12, nI z]
        refine gT_n 1 ?_
        refine ⟨fun c => absurd c (by decide), fun _ => ?_⟩
        refine gT_n 2 ?_
        refine ⟨fun c => absurd c (nI_pos (by omega)), fun _ => ?_⟩
        refine gT_n 2 ?_
        refine ⟨fun c => absurd c (by decide), fun _ => ?_⟩
        refine gT_n 3 ?_
        refine ⟨fun _ => ?_, fun c => absurd (by decide) c⟩
        refine gT_n 3 ?_
        refine ⟨fun c => absurd c (by decide), fun _ => ?_⟩
        refine gT_n 3 ?_
        refine ⟨fun c => absurd (by decide) c, fun _ => ?_⟩
        refine gT_n 5 ?_
        refine ⟨fun c => absurd c (by decide), fun _ => ?_⟩
        refine gT_n 5 ?_
        refine ⟨rfl, rfl, rfl, (pk_in z 4 (by omega) (rfl)), ?_⟩
        refine gT_top (aa_ref (rfl) (by omega) hq) ?_
        refine gT_n 6 ?_
        refine ⟨he.ob, pk_lt j ((W.2.2.1 z).length) (fun κ1 => ?_) (fun κ1 => ?_) (rfl) (hD.1) (by omega) (by omega)⟩
        · refine gT_n 3 ?_
          refine ⟨fun _ => ?_, fun c => absurd (by decide) c⟩
          refine gT_n 2 ?_
          refine ⟨he.ob, ?_⟩
          refine gT_top (he.v1) ?_
          refine gT_n 3 ?_
          refine ⟨he.ar2, (pk_inS (m := 3) (k := j) (he.ln2) (by omega) (rfl)), ?_⟩
          exact ⟨_, _, I, J, P, rfl, ri ((rdI (rfl) (by omega) (cK_at hD (Nat.le_trans hd (by decide)) hj).2)), ⟨⟨(fKey_yes hz h4 ⟨hi, by decide⟩).mpr ((kV_yes hj (Nat.le_trans hd (by decide))).mpr rfl), rfl⟩, hO0⟩, hC0, hM0⟩
        · refine gT_n 2 ?_
          exact absurd hj (by omega)
      · refine gT_n 4 ?_
        refine ⟨rfl, rfl, rfl, gTM.use (c_has1 oT kT.1 ⟨z, hz, rfl⟩) (Nat.le_refl _) (fun r u hq => ?_)⟩
        obtain ⟨rfl, rfl⟩ := hq  -- X8_has[R12, nI z]
        refine gT_n 1 ?_
        refine ⟨fun c => absurd c (by decide), fun _ => ?_⟩
        refine gT_n 2 ?_
        refine px_lt (X := i) (Y := (0)) (rfl) (rfl) (fun κ1 => ?_) (fun κ1 => ?_)
        · refine gT_n 2 ?_
          exact absurd κ1 hi
        · refine gT_n 2 ?_
          refine ⟨fun c => absurd c (by decide), fun _ => ?_⟩
          refine gT_n 3 ?_
          refine ⟨fun _ => ?_, fun c => absurd (by decide) c⟩
          refine gT_n 3 ?_
          refine ⟨fun c => absurd c (by decide), fun _ => ?_⟩
          refine gT_n 3 ?_
          refine ⟨fun c => absurd (by decide) c, fun _ => ?_⟩
          refine gT_n 5 ?_
          refine ⟨fun c => absurd c (by decide), fun _ => ?_⟩
          refine gT_n 5 ?_
          refine ⟨rfl, rfl, rfl, (pk_in z 4 (by omega) (rfl)), ?_⟩
          refine gT_top (aa_ref (rfl) (by omega) hq) ?_
          refine gT_n 6 ?_
          refine ⟨he.ob, px_lt (X := i) (Y := nI ((W.2.2.1 z).length)) (rfl) (hD.1) (fun κ2 => ?_) (fun κ2 => ?_)⟩
          · exact absurd (inZ_of (by omega) hi (Int32.not_le.mpr κ2)) hj
          · refine gT_n 2 ?_
            exact ⟨_, _, I, J, P, rfl, rfl, ⟨⟨(fKey_yes hz h4 ⟨hi, by decide⟩).mpr ((pif_neg hj).mpr rfl), rfl⟩, hO0⟩, hC0, hM0⟩
  · refine gT_n 4 ?_
    refine ⟨rfl, rfl, rfl, gTM.use (c_has oT kT.1) (Nat.le_refl _) (fun r u hq => ?_)⟩
    obtain ⟨rfl, ⟨rfl, β1⟩ | ⟨rfl, β1⟩⟩ := hq  -- X8_has[R12, z]
    · refine gT_n 1 ?_
      refine ⟨fun c => absurd c (by decide), fun _ => ?_⟩
      refine gT_n 2 ?_
      refine px_lt (X := i) (Y := (0)) (rfl) (rfl) (fun κ2 => ?_) (fun κ2 => ?_)
      · refine gT_n 2 ?_
        exact ⟨_, _, I, J, P, rfl, rfl, ⟨⟨(pif_neg hh).mpr rfl, rfl⟩, hO0⟩, hC0, hM0⟩
      · refine gT_n 2 ?_
        refine px_lt (X := w) (Y := (0)) (rfl) (rfl) (fun κ3 => ?_) (fun κ3 => ?_)
        · refine gT_n 2 ?_
          exact ⟨_, _, I, J, P, rfl, rfl, ⟨⟨(pif_neg hh).mpr rfl, rfl⟩, hO0⟩, hC0, hM0⟩
        · refine gT_n 3 ?_
          refine px_le (X := w) (Y := (3)) (rfl) (rfl) (fun κ4 => ?_) (fun κ4 => ?_)
          · exact absurd ⟨β1, κ2, Int32.not_lt.mp κ3, κ4⟩ hh
          · refine gT_n 2 ?_
            exact ⟨_, _, I, J, P, rfl, rfl, ⟨⟨(pif_neg hh).mpr rfl, rfl⟩, hO0⟩, hC0, hM0⟩
    · refine gT_n 1 ?_
      refine ⟨fun _ => ?_, fun c => absurd (by decide) c⟩
      refine gT_n 2 ?_
      exact ⟨_, _, I, J, P, rfl, rfl, ⟨⟨(pif_neg hh).mpr rfl, rfl⟩, hO0⟩, hC0, hM0⟩
theorem o_key_m {d : Nat} {s s' : zS} {x : Int32} {I : Nat → Nat → Int32} {J : Nat → Nat → Int64} {P : Nat → Nat} {z i w : Int32} (hO : sOK s) (hS : (fun x s' => fKey s z i w x ∧ s' = s) x s') (hC : RC s' I J P) (hM : RM s I J) : gTM (d + 9) 208 [.ref 171, .int z, .int i, .int w] (gST I J P) (pM x s') := by
  obtain ⟨tp, fn, t, W, nm, pr, ch, i0, i1⟩ := s
  have hO0 := hO
  have hM0 := hM
  obtain ⟨oTp, oT, oW, oN, oP, oI0, oI1⟩ := hO
  obtain ⟨jTp, jF, jT, jSp, jW, jN, jP, jC, jI0, jI1, jB, jL⟩ := hM
  dsimp only at oTp oT oW oN oP oI0 oI1 jTp jF jT jSp jW jN jP jC jI0 jI1
  try dsimp only at hS
  have h4 := oT.2.1
  by_cases hh : inZ t.1 z ∧ ¬ i < 0 ∧ (0 ≤ w ∧ w ≤ 3)
  · obtain ⟨⟨z, hz, rfl⟩, hi, hw⟩ := hh
    have hz4 : z < 4 := by omega
    have ho := oW.2.1 z hz4
    have hd := oW.2.2.1 z hz4
    rcases rng4 hw with rfl | rfl | rfl | rfl
    · by_cases hj : inZ (W.2.1 z).length i
      · obtain ⟨j, hj, rfl⟩ := hj
        obtain ⟨hS, rfl⟩ := hS
        refine gT_n 3 ?_
        refine ⟨rfl, rfl, gTM.use (m_isZone1 oT jT ⟨z, hz, rfl⟩) (Nat.le_refl _) (fun r u hq => ?_)⟩
        obtain ⟨rfl, rfl⟩ := hq  -- X12_isZone[R171, nI z]
        refine gT_n 1 ?_
        refine ⟨fun c => absurd c (by decide), fun _ => ?_⟩
        refine gT_n 2 ?_
        refine ⟨fun c => absurd c (nI_pos (by omega)), fun _ => ?_⟩
        refine gT_n 5 ?_
        refine ⟨rfl, gTM.use (m_in1 (x := 0) (z := 3) rfl rfl (by decide)) (Nat.le_refl _) (fun r u hq => ?_)⟩
        obtain ⟨rfl, rfl⟩ := hq  -- X12_in[i2l(K0), lN 0, lN 3]
        refine gT_n 1 ?_
        refine ⟨fun _ => ?_, fun c => absurd c (by decide)⟩
        refine gT_n 2 ?_
        refine ⟨fun _ => ?_, fun c => absurd (by decide) c⟩
        refine gT_n 6 ?_
        refine ⟨fun c => absurd c (by decide), fun _ => ?_⟩
        refine gT_n 6 ?_
        refine ⟨rfl, rfl, (pk_in z 4 (by omega) (rfl)), pk_lt j ((W.2.1 z).length) (fun κ1 => ?_) (fun κ1 => ?_) (rfl) ((rdI (rfl) (by omega) (jW.2.1 z hz4).1)) (by omega) (by omega)⟩
        · refine gT_n 2 ?_
          refine ⟨fun c => absurd (by decide) c, fun _ => ?_⟩
          refine gT_n 10 ?_
          refine ⟨rfl, rfl, (pk_in ((3 * z) + j) 12 (by omega) (pk_addE (n := (3 * z)) (k := j) (pk_mulE (n := 3) (k := z) (rfl) (rfl)) (rfl))), ?_⟩
          exact ⟨I, J, P, rfl, ri (Eq.trans ((rdI (pk_addE (n := (3 * z)) (k := j) (pk_mulE (n := 3) (k := z) (rfl) (rfl)) (rfl)) (by omega) ((jW.2.1 z hz4).2 j hj).1)) ((kV_yes hj (Nat.le_trans ho (by decide))).mp ((fKey_yes hz h4 ⟨hi, by decide⟩).mp hS)).symm), hC, hM0⟩
        · refine gT_n 2 ?_
          exact absurd hj (by omega)
      · obtain ⟨hS, rfl⟩ := hS
        refine gT_n 3 ?_
        refine ⟨rfl, rfl, gTM.use (m_isZone1 oT jT ⟨z, hz, rfl⟩) (Nat.le_refl _) (fun r u hq => ?_)⟩
        obtain ⟨rfl, rfl⟩ := hq  -- X12_isZone[R171, nI z]
        refine gT_n 1 ?_
        refine ⟨fun c => absurd c (by decide), fun _ => ?_⟩
        refine gT_n 2 ?_
        refine px_lt (X := i) (Y := (0)) (rfl) (rfl) (fun κ1 => ?_) (fun κ1 => ?_)
        · refine gT_n 2 ?_
          exact absurd κ1 hi
        · refine gT_n 5 ?_
          refine ⟨rfl, gTM.use (m_in1 (x := 0) (z := 3) rfl rfl (by decide)) (Nat.le_refl _) (fun r u hq => ?_)⟩
          obtain ⟨rfl, rfl⟩ := hq  -- X12_in[i2l(K0), lN 0, lN 3]
          refine gT_n 1 ?_
          refine ⟨fun _ => ?_, fun c => absurd c (by decide)⟩
          refine gT_n 2 ?_
          refine ⟨fun _ => ?_, fun c => absurd (by decide) c⟩
          refine gT_n 6 ?_
          refine ⟨fun c => absurd c (by decide), fun _ => ?_⟩
          refine gT_n 6 ?_
          refine ⟨rfl, rfl, (pk_in z 4 (by omega) (rfl)), px_lt (X := i) (Y := nI ((W.2.1 z).length)) (rfl) ((rdI (rfl) (by omega) (jW.2.1 z hz4).1)) (fun κ2 => ?_) (fun κ2 => ?_)⟩
          · exact absurd (inZ_of (by omega) hi (Int32.not_le.mpr κ2)) hj
          · refine gT_n 2 ?_
            exact ⟨I, J, P, rfl, ri ((pif_neg hj).mp ((fKey_yes hz h4 ⟨hi, by decide⟩).mp hS)).symm, hC, hM0⟩
    · by_cases hj : inZ (W.2.2.1 z).length i
      · obtain ⟨j, hj, rfl⟩ := hj
        obtain ⟨hS, rfl⟩ := hS
        refine gT_n 3 ?_
        refine ⟨rfl, rfl, gTM.use (m_isZone1 oT jT ⟨z, hz, rfl⟩) (Nat.le_refl _) (fun r u hq => ?_)⟩
        obtain ⟨rfl, rfl⟩ := hq  -- X12_isZone[R171, nI z]
        refine gT_n 1 ?_
        refine ⟨fun c => absurd c (by decide), fun _ => ?_⟩
        refine gT_n 2 ?_
        refine ⟨fun c => absurd c (nI_pos (by omega)), fun _ => ?_⟩
        refine gT_n 5 ?_
        refine ⟨rfl, gTM.use (m_in1 (x := 0) (z := 3) rfl rfl (by decide)) (Nat.le_refl _) (fun r u hq => ?_)⟩
        obtain ⟨rfl, rfl⟩ := hq  -- X12_in[i2l(K1), lN 0, lN 3]
        refine gT_n 1 ?_
        refine ⟨fun _ => ?_, fun c => absurd c (by decide)⟩
        refine gT_n 2 ?_
        refine ⟨fun c => absurd c (by decide), fun _ => ?_⟩
        refine gT_n 3 ?_
        refine ⟨fun _ => ?_, fun c => absurd c (by decide)⟩
        refine gT_n 5 ?_
        refine ⟨fun _ => ?_, fun c => absurd (by decide) c⟩
        refine gT_n 5 ?_
        refine ⟨rfl, rfl, (pk_in z 4 (by omega) (rfl)), pk_lt j ((W.2.2.1 z).length) (fun κ1 => ?_) (fun κ1 => ?_) (rfl) ((rdI (rfl) (by omega) (jW.2.2.1 z hz4).1)) (by omega) (by omega)⟩
        · refine gT_n 2 ?_
          refine ⟨fun _ => ?_, fun c => absurd c (by decide)⟩
          refine gT_n 3 ?_
          refine ⟨fun c => absurd (by decide) c, fun _ => ?_⟩
          refine gT_n 10 ?_
          refine ⟨rfl, rfl, (pk_in ((2 * z) + j) 8 (by omega) (pk_addE (n := (2 * z)) (k := j) (pk_mulE (n := 2) (k := z) (rfl) (rfl)) (rfl))), ?_⟩
          exact ⟨I, J, P, rfl, ri (Eq.trans ((rdI (pk_addE (n := (2 * z)) (k := j) (pk_mulE (n := 2) (k := z) (rfl) (rfl)) (rfl)) (by omega) ((jW.2.2.1 z hz4).2 j hj).1)) ((kV_yes hj (Nat.le_trans hd (by decide))).mp ((fKey_yes hz h4 ⟨hi, by decide⟩).mp hS)).symm), hC, hM0⟩
        · refine gT_n 2 ?_
          exact absurd hj (by omega)
      · obtain ⟨hS, rfl⟩ := hS
        refine gT_n 3 ?_
        refine ⟨rfl, rfl, gTM.use (m_isZone1 oT jT ⟨z, hz, rfl⟩) (Nat.le_refl _) (fun r u hq => ?_)⟩
        obtain ⟨rfl, rfl⟩ := hq  -- X12_isZone[R171, nI z]
        refine gT_n 1 ?_
        refine ⟨fun c => absurd c (by decide), fun _ => ?_⟩
        refine gT_n 2 ?_
        refine px_lt (X := i) (Y := (0)) (rfl) (rfl) (fun κ1 => ?_) (fun κ1 => ?_)
        · refine gT_n 2 ?_
          exact absurd κ1 hi
        · refine gT_n 5 ?_
          refine ⟨rfl, gTM.use (m_in1 (x := 0) (z := 3) rfl rfl (by decide)) (Nat.le_refl _) (fun r u hq => ?_)⟩
          obtain ⟨rfl, rfl⟩ := hq  -- X12_in[i2l(K1), lN 0, lN 3]
          refine gT_n 1 ?_
          refine ⟨fun _ => ?_, fun c => absurd c (by decide)⟩
          refine gT_n 2 ?_
          refine ⟨fun c => absurd c (by decide), fun _ => ?_⟩
          refine gT_n 3 ?_
          refine ⟨fun _ => ?_, fun c => absurd c (by decide)⟩
          refine gT_n 5 ?_
          refine ⟨fun _ => ?_, fun c => absurd (by decide) c⟩
          refine gT_n 5 ?_
          refine ⟨rfl, rfl, (pk_in z 4 (by omega) (rfl)), px_lt (X := i) (Y := nI ((W.2.2.1 z).length)) (rfl) ((rdI (rfl) (by omega) (jW.2.2.1 z hz4).1)) (fun κ2 => ?_) (fun κ2 => ?_)⟩
          · exact absurd (inZ_of (by omega) hi (Int32.not_le.mpr κ2)) hj
          · refine gT_n 2 ?_
            exact ⟨I, J, P, rfl, ri ((pif_neg hj).mp ((fKey_yes hz h4 ⟨hi, by decide⟩).mp hS)).symm, hC, hM0⟩
    · by_cases hj : inZ (W.2.1 z).length i
      · obtain ⟨j, hj, rfl⟩ := hj
        obtain ⟨hS, rfl⟩ := hS
        refine gT_n 3 ?_
        refine ⟨rfl, rfl, gTM.use (m_isZone1 oT jT ⟨z, hz, rfl⟩) (Nat.le_refl _) (fun r u hq => ?_)⟩
        obtain ⟨rfl, rfl⟩ := hq  -- X12_isZone[R171, nI z]
        refine gT_n 1 ?_
        refine ⟨fun c => absurd c (by decide), fun _ => ?_⟩
        refine gT_n 2 ?_
        refine ⟨fun c => absurd c (nI_pos (by omega)), fun _ => ?_⟩
        refine gT_n 5 ?_
        refine ⟨rfl, gTM.use (m_in1 (x := 0) (z := 3) rfl rfl (by decide)) (Nat.le_refl _) (fun r u hq => ?_)⟩
        obtain ⟨rfl, rfl⟩ := hq  -- X12_in[i2l(K2), lN 0, lN 3]
        refine gT_n 1 ?_
        refine ⟨fun _ => ?_, fun c => absurd c (by decide)⟩
        refine gT_n 2 ?_
        refine ⟨fun c => absurd c (by decide), fun _ => ?_⟩
        refine gT_n 3 ?_
        refine ⟨fun c => absurd (by decide) c, fun _ => ?_⟩
        refine gT_n 6 ?_
        refine ⟨fun c => absurd c (by decide), fun _ => ?_⟩
        refine gT_n 6 ?_
        refine ⟨rfl, rfl, (pk_in z 4 (by omega) (rfl)), pk_lt j ((W.2.1 z).length) (fun κ1 => ?_) (fun κ1 => ?_) (rfl) ((rdI (rfl) (by omega) (jW.2.1 z hz4).1)) (by omega) (by omega)⟩
        · refine gT_n 2 ?_
          refine ⟨fun _ => ?_, fun c => absurd c (by decide)⟩
          refine gT_n 3 ?_
          refine ⟨fun _ => ?_, fun c => absurd c (by decide)⟩
          refine gT_n 3 ?_
          refine ⟨fun c => absurd (by decide) c, fun _ => ?_⟩
          refine gT_n 10 ?_
          refine ⟨rfl, rfl, (pk_in ((3 * z) + j) 12 (by omega) (pk_addE (n := (3 * z)) (k := j) (pk_mulE (n := 3) (k := z) (rfl) (rfl)) (rfl))), ?_⟩
          exact ⟨I, J, P, rfl, ri (Eq.trans ((rdI (pk_addE (n := (3 * z)) (k := j) (pk_mulE (n := 3) (k := z) (rfl) (rfl)) (rfl)) (by omega) ((jW.2.1 z hz4).2 j hj).2)) ((kV_yes hj (Nat.le_trans ho (by decide))).mp ((fKey_yes hz h4 ⟨hi, by decide⟩).mp hS)).symm), hC, hM0⟩
        · refine gT_n 2 ?_
          exact absurd hj (by omega)
      · obtain ⟨hS, rfl⟩ := hS
        refine gT_n 3 ?_
        refine ⟨rfl, rfl, gTM.use (m_isZone1 oT jT ⟨z, hz, rfl⟩) (Nat.le_refl _) (fun r u hq => ?_)⟩
        obtain ⟨rfl, rfl⟩ := hq  -- X12_isZone[R171, nI z]
        refine gT_n 1 ?_
        refine ⟨fun c => absurd c (by decide), fun _ => ?_⟩
        refine gT_n 2 ?_
        refine px_lt (X := i) (Y := (0)) (rfl) (rfl) (fun κ1 => ?_) (fun κ1 => ?_)
        · refine gT_n 2 ?_
          exact absurd κ1 hi
        · refine gT_n 5 ?_
          refine ⟨rfl, gTM.use (m_in1 (x := 0) (z := 3) rfl rfl (by decide)) (Nat.le_refl _) (fun r u hq => ?_)⟩
          obtain ⟨rfl, rfl⟩ := hq  -- X12_in[i2l(K2), lN 0, lN 3]
          refine gT_n 1 ?_
          refine ⟨fun _ => ?_, fun c => absurd c (by decide)⟩
          refine gT_n 2 ?_
          refine ⟨fun c => absurd c (by decide), fun _ => ?_⟩
          refine gT_n 3 ?_
          refine ⟨fun c => absurd (by decide) c, fun _ => ?_⟩
          refine gT_n 6 ?_
          refine ⟨fun c => absurd c (by decide), fun _ => ?_⟩
          refine gT_n 6 ?_
          refine ⟨rfl, rfl, (pk_in z 4 (by omega) (rfl)), px_lt (X := i) (Y := nI ((W.2.1 z).length)) (rfl) ((rdI (rfl) (by omega) (jW.2.1 z hz4).1)) (fun κ2 => ?_) (fun κ2 => ?_)⟩
          · exact absurd (inZ_of (by omega) hi (Int32.not_le.mpr κ2)) hj
          · refine gT_n 2 ?_
            exact ⟨I, J, P, rfl, ri ((pif_neg hj).mp ((fKey_yes hz h4 ⟨hi, by decide⟩).mp hS)).symm, hC, hM0⟩
    · by_cases hj : inZ (W.2.2.1 z).length i
      · obtain ⟨j, hj, rfl⟩ := hj
        obtain ⟨hS, rfl⟩ := hS
        refine gT_n 3 ?_
        refine ⟨rfl, rfl, gTM.use (m_isZone1 oT jT ⟨z, hz, rfl⟩) (Nat.le_refl _) (fun r u hq => ?_)⟩
        obtain ⟨rfl, rfl⟩ := hq  -- X12_isZone[R171, nI z]
        refine gT_n 1 ?_
        refine ⟨fun c => absurd c (by decide), fun _ => ?_⟩
        refine gT_n 2 ?_
        refine ⟨fun c => absurd c (nI_pos (by omega)), fun _ => ?_⟩
        refine gT_n 5 ?_
        refine ⟨rfl, gTM.use (m_in1 (x := 0) (z := 3) rfl rfl (by decide)) (Nat.le_refl _) (fun r u hq => ?_)⟩
        obtain ⟨rfl, rfl⟩ := hq  -- X12_in[i2l(K3), lN 0, lN 3]
        refine gT_n 1 ?_
        refine ⟨fun _ => ?_, fun c => absurd c (by decide)⟩
        refine gT_n 2 ?_
        refine ⟨fun c => absurd c (by decide), fun _ => ?_⟩
        refine gT_n 3 ?_
        refine ⟨fun _ => ?_, fun c => absurd c (by decide)⟩
        refine gT_n 5 ?_
        refine ⟨fun _ => ?_, fun c => absurd (by decide) c⟩
        refine gT_n 5 ?_
        refine ⟨rfl, rfl, (pk_in z 4 (by omega) (rfl)), pk_lt j ((W.2.2.1 z).length) (fun κ1 => ?_) (fun κ1 => ?_) (rfl) ((rdI (rfl) (by omega) (jW.2.2.1 z hz4).1)) (by omega) (by omega)⟩
        · refine gT_n 2 ?_
          refine ⟨fun _ => ?_, fun c => absurd c (by decide)⟩
          refine gT_n 3 ?_
          refine ⟨fun _ => ?_, fun c => absurd c (by decide)⟩
          refine gT_n 3 ?_
          refine ⟨fun _ => ?_, fun c => absurd c (by decide)⟩
          refine gT_n 9 ?_
          refine ⟨rfl, rfl, (pk_in ((2 * z) + j) 8 (by omega) (pk_addE (n := (2 * z)) (k := j) (pk_mulE (n := 2) (k := z) (rfl) (rfl)) (rfl))), ?_⟩
          exact ⟨I, J, P, rfl, ri (Eq.trans ((rdI (pk_addE (n := (2 * z)) (k := j) (pk_mulE (n := 2) (k := z) (rfl) (rfl)) (rfl)) (by omega) ((jW.2.2.1 z hz4).2 j hj).2)) ((kV_yes hj (Nat.le_trans hd (by decide))).mp ((fKey_yes hz h4 ⟨hi, by decide⟩).mp hS)).symm), hC, hM0⟩
        · refine gT_n 2 ?_
          exact absurd hj (by omega)
      · obtain ⟨hS, rfl⟩ := hS
        refine gT_n 3 ?_
        refine ⟨rfl, rfl, gTM.use (m_isZone1 oT jT ⟨z, hz, rfl⟩) (Nat.le_refl _) (fun r u hq => ?_)⟩
        obtain ⟨rfl, rfl⟩ := hq  -- X12_isZone[R171, nI z]
        refine gT_n 1 ?_
        refine ⟨fun c => absurd c (by decide), fun _ => ?_⟩
        refine gT_n 2 ?_
        refine px_lt (X := i) (Y := (0)) (rfl) (rfl) (fun κ1 => ?_) (fun κ1 => ?_)
        · refine gT_n 2 ?_
          exact absurd κ1 hi
        · refine gT_n 5 ?_
          refine ⟨rfl, gTM.use (m_in1 (x := 0) (z := 3) rfl rfl (by decide)) (Nat.le_refl _) (fun r u hq => ?_)⟩
          obtain ⟨rfl, rfl⟩ := hq  -- X12_in[i2l(K3), lN 0, lN 3]
          refine gT_n 1 ?_
          refine ⟨fun _ => ?_, fun c => absurd c (by decide)⟩
          refine gT_n 2 ?_
          refine ⟨fun c => absurd c (by decide), fun _ => ?_⟩
          refine gT_n 3 ?_
          refine ⟨fun _ => ?_, fun c => absurd c (by decide)⟩
          refine gT_n 5 ?_
          refine ⟨fun _ => ?_, fun c => absurd (by decide) c⟩
          refine gT_n 5 ?_
          refine ⟨rfl, rfl, (pk_in z 4 (by omega) (rfl)), px_lt (X := i) (Y := nI ((W.2.2.1 z).length)) (rfl) ((rdI (rfl) (by omega) (jW.2.2.1 z hz4).1)) (fun κ2 => ?_) (fun κ2 => ?_)⟩
          · exact absurd (inZ_of (by omega) hi (Int32.not_le.mpr κ2)) hj
          · refine gT_n 2 ?_
            exact ⟨I, J, P, rfl, ri ((pif_neg hj).mp ((fKey_yes hz h4 ⟨hi, by decide⟩).mp hS)).symm, hC, hM0⟩
  · obtain ⟨hS, rfl⟩ := hS
    refine gT_n 3 ?_
    refine ⟨rfl, rfl, gTM.use (m_isZone oT jT) (Nat.le_refl _) (fun r u hq => ?_)⟩
    obtain ⟨rfl, ⟨rfl, β1⟩ | ⟨rfl, β1⟩⟩ := hq  -- X12_isZone[R171, z]
    · refine gT_n 1 ?_
      refine ⟨fun c => absurd c (by decide), fun _ => ?_⟩
      refine gT_n 2 ?_
      refine px_lt (X := i) (Y := (0)) (rfl) (rfl) (fun κ2 => ?_) (fun κ2 => ?_)
      · refine gT_n 2 ?_
        exact ⟨I, J, P, rfl, ri ((pif_neg hh).mp hS).symm, hC, hM0⟩
      · refine gT_n 5 ?_
        refine ⟨rfl, gTM.use (m_inI (x := 0) (z := 3) rfl rfl) (Nat.le_refl _) (fun r u hq => ?_)⟩
        obtain ⟨rfl, ⟨rfl, β3⟩ | ⟨rfl, β3⟩⟩ := hq  -- X12_in[L(w).toInt64, lN 0, lN 3]
        · refine gT_n 1 ?_
          refine ⟨fun _ => ?_, fun c => absurd c (by decide)⟩
          exact absurd ⟨β1, κ2, β3⟩ hh
        · refine gT_n 1 ?_
          refine ⟨fun c => absurd (by decide) c, fun _ => ?_⟩
          refine gT_n 2 ?_
          exact ⟨I, J, P, rfl, ri ((pif_neg hh).mp hS).symm, hC, hM0⟩
    · refine gT_n 1 ?_
      refine ⟨fun _ => ?_, fun c => absurd (by decide) c⟩
      refine gT_n 2 ?_
      exact ⟨I, J, P, rfl, ri ((pif_neg hh).mp hS).symm, hC, hM0⟩
