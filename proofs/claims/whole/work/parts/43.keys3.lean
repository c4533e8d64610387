/-! what stands against a key; keys made active; keys told -/
section
variable {s : zS} {I : Nat → Nat → Int32} {J : Nat → Nat → Int64} {P : Nat → Nat} {z : Nat} {x : Int32}
theorem RC_act (hz : z < 4) (hC : RC s I J P) : RC (setA s z x) (gupI I 24 z x) J P := by
  obtain ⟨kTp, kF, kT, ⟨kR, kK, kD, ⟨kA0, kA1, kA2, kA3⟩, kCk, kE⟩, kN, kP, kC, kI0, kI1, kB, kPP⟩ := hC
  have : z = 0 ∨ z = 1 ∨ z = 2 ∨ z = 3 := by omega
  rcases this with rfl | rfl | rfl | rfl
  · exact ⟨kTp, kF, kT, ⟨kR, kK, kD, ⟨rfl, kA1, kA2, kA3⟩, kCk, kE⟩, kN, kP, kC, kI0, kI1, kB, kPP⟩
  · exact ⟨kTp, kF, kT, ⟨kR, kK, kD, ⟨kA0, rfl, kA2, kA3⟩, kCk, kE⟩, kN, kP, kC, kI0, kI1, kB, kPP⟩
  · exact ⟨kTp, kF, kT, ⟨kR, kK, kD, ⟨kA0, kA1, rfl, kA3⟩, kCk, kE⟩, kN, kP, kC, kI0, kI1, kB, kPP⟩
  · exact ⟨kTp, kF, kT, ⟨kR, kK, kD, ⟨kA0, kA1, kA2, rfl⟩, kCk, kE⟩, kN, kP, kC, kI0, kI1, kB, kPP⟩
theorem mAc_set {r : Nat → Int32} {t : zT} {ac : Nat → Int32} (h : mAc r t ac) (hs : t.2.2.1 z = true) : mAc (upd r z x) t (aup ac z x) := by
  intro y hy
  by_cases e : y = z
  · subst e
    rw [if_pos hs]
    show (if y = y then x else r y) = cond (Nat.beq y y) x (ac y)
    rw [if_pos rfl, Nat.beq_refl]; rfl
  · show (if y = z then x else r y) = if t.2.2.1 y = true then cond (Nat.beq y z) x (ac y) else -4
    rw [if_neg e, beq_ne e]; exact h y hy
theorem cK_at {cn : Int32} {nu si : Nat → Int32} {l : zK} {j : Nat} (h : cK cn nu si l) (h3 : l.length ≤ 3) (hj : j < l.length) : nu j = (kg l j).1 ∧ si j = (kg l j).2 := by
  have : j = 0 ∨ j = 1 ∨ j = 2 := by omega
  rcases this with rfl | rfl | rfl
  · exact ⟨h.2.1.1, h.2.2.1⟩
  · exact ⟨h.2.1.2.1, h.2.2.2.1⟩
  · exact ⟨h.2.1.2.2, h.2.2.2.2⟩
end
theorem c_obst {d z : Nat} {s : zS} {I : Nat → Nat → Int32} {J : Nat → Nat → Int64} {P : Nat → Nat} {k : Int32} (hO : sOK s) (hC : RC s I J P) (hM : RM s I J) (hz4 : z < 4) : gTM (d + 3) 147 [.ref 0, .int (nI z), .int k] (gST I J P) (fun r u => ∃ x : Int32, u = gST I J P ∧ r = some (.int x) ∧ fObs (s.2.2.2.1.2.2.2.1 z) (s.2.2.2.1.2.1 z) (s.2.2.2.1.2.2.1 z) s.2.2.2.1.2.2.2.2.1 (nI s.2.2.1.2.2.2) k (¬ z = 0) x) := by
  obtain ⟨tp, fn, t, W, nm, pr, ch, i0, i1⟩ := s
  have hO0 := hO
  have hC0 := hC
  have hM0 := hM
  obtain ⟨oTp, oT, oW, oN, oP, oI0, oI1⟩ := hO
  obtain ⟨kTp, kF, kT, kW, kN, kP, kC, kI0, kI1, kB, kPP⟩ := hC
  obtain ⟨jTp, jF, jT, jSp, jW, jN, jP, jC, jI0, jI1, jB, jL⟩ := hM
  dsimp only at oTp oT oW oN oP oI0 oI1 kTp kF kT kW kN kP kC kI0 kI1 jTp jF jT jSp jW jN jP jC jI0 jI1
  try dsimp only
  try dsimp only at hz4
  obtain ⟨hb, hr⟩ := kRow_out (P := P) hz4
  obtain ⟨he, hq⟩ := kRow_dig (P := P) hz4
  have hK := cK_out kW hz4
  have hD := cK_dig kW hz4
  have ho3 := oW.2.1 z hz4
  have hd3 : (W.2.2.1 z).length ≤ 3 := Nat.le_trans (oW.2.2.1 z hz4) (by omega)
  refine gT_n 5 ?_
  refine ⟨rfl, rfl, rfl, (pk_in z 4 (by omega) (rfl)), ?_⟩
  refine gT_top (aa_ref (rfl) (by omega) hr) ?_
  refine gT_n 6 ?_
  refine ⟨rfl, rfl, rfl, (pk_in z 4 (by omega) (rfl)), ?_⟩
  refine gT_top (aa_ref (rfl) (by omega) hq) ?_
  refine gT_n 8 ?_
  refine ⟨rfl, rfl, rfl, (pk_in z 4 (by omega) (rfl)), px_ne (X := (W.2.2.2.1 z)) (Y := k) ((rdI (rfl) (by omega) (cA_at kW hz4))) (rfl) (fun κ1 => ?_) (fun κ1 => ?_)⟩
  · refine gT_n 3 ?_
    refine ⟨hb.ob, rfl, gTM.use (c_khas hb ho3 hK) (Nat.le_refl _) (fun r u hq => ?_)⟩
    obtain ⟨rfl, ⟨rfl, β2⟩ | ⟨rfl, β2⟩⟩ := hq  -- X2_has[Rb, k]
    · refine gT_n 1 ?_
      refine ⟨fun _ => ?_, fun c => absurd c (by decide)⟩
      refine gT_n 6 ?_
      refine ⟨rfl, rfl, hb.ob, rfl, gTM.useA (c_kage hb ho3 hK (by assumption)) (Nat.le_refl _) (aR (aI (rfl) (aI (kW.2.2.2.2.1) (rfl)))) (fun r u hq => ?_)⟩
      obtain ⟨rfl, rfl⟩ := hq  -- X2_ageOf[Rb, k, W.2.2.2.2.1]
      refine gT_n 4 ?_
      refine ⟨rfl, rfl, px_ge (X := (W.2.2.2.2.1 - ksin (W.2.1 z) k)) (Y := nI t.2.2.2) (rfl) (kT.2.1) (fun κ3 => ?_) (fun κ3 => ?_)⟩
      · refine gT_n 3 ?_
        refine ⟨he.ob, rfl, gTM.use (c_khas he hd3 hD) (Nat.le_refl _) (fun r u hq => ?_)⟩
        obtain ⟨rfl, ⟨rfl, β4⟩ | ⟨rfl, β4⟩⟩ := hq  -- X2_has[Re, k]
        · refine gT_n 1 ?_
          refine ⟨fun _ => ?_, fun c => absurd c (by decide)⟩
          refine gT_n 2 ?_
          refine pk_eq z 0 (fun κ5 => ?_) (fun κ5 => ?_) (rfl) (rfl) (by omega) (by omega)
          · refine gT_n 2 ?_
            exact ⟨_, rfl, rfl, (pif_neg κ1).mpr ((pif_pos β2).mpr ((pif_neg (Int32.not_lt.mpr κ3)).mpr ((pif_pos β4).mpr ((pif_neg (fun q => q.1 κ5)).mpr rfl))))⟩
          · refine gT_n 6 ?_
            refine ⟨rfl, rfl, he.ob, rfl, gTM.useA (c_kage he hd3 hD (by assumption)) (Nat.le_refl _) (aR (aI (rfl) (aI (kW.2.2.2.2.1) (rfl)))) (fun r u hq => ?_)⟩
            obtain ⟨rfl, rfl⟩ := hq  -- X2_ageOf[Re, k, W.2.2.2.2.1]
            refine gT_n 4 ?_
            refine ⟨rfl, rfl, px_ge (X := (W.2.2.2.2.1 - ksin (W.2.2.1 z) k)) (Y := nI t.2.2.2) (rfl) (kT.2.1) (fun κ6 => ?_) (fun κ6 => ?_)⟩
            · refine gT_n 2 ?_
              exact ⟨_, rfl, rfl, (pif_neg κ1).mpr ((pif_pos β2).mpr ((pif_neg (Int32.not_lt.mpr κ3)).mpr ((pif_pos β4).mpr ((pif_neg (fun q => absurd q.2 (Int32.not_lt.mpr κ6))).mpr rfl))))⟩
            · refine gT_n 3 ?_
              exact ⟨_, rfl, rfl, (pif_neg κ1).mpr ((pif_pos β2).mpr ((pif_neg (Int32.not_lt.mpr κ3)).mpr ((pif_pos β4).mpr ((pif_pos ⟨κ5, Int32.not_le.mp κ6⟩).mpr rfl))))⟩
        · refine gT_n 1 ?_
          refine ⟨fun c => absurd (by decide) c, fun _ => ?_⟩
          refine gT_n 2 ?_
          exact ⟨_, rfl, rfl, (pif_neg κ1).mpr ((pif_pos β2).mpr ((pif_neg (Int32.not_lt.mpr κ3)).mpr ((pif_neg β4).mpr rfl)))⟩
      · refine gT_n 2 ?_
        exact ⟨_, rfl, rfl, (pif_neg κ1).mpr ((pif_pos β2).mpr ((pif_pos (Int32.not_le.mp κ3)).mpr rfl))⟩
    · refine gT_n 1 ?_
      refine ⟨fun c => absurd (by decide) c, fun _ => ?_⟩
      refine gT_n 2 ?_
      exact ⟨_, rfl, rfl, (pif_neg κ1).mpr ((pif_neg β2).mpr rfl)⟩
  · refine gT_n 2 ?_
    exact ⟨_, rfl, rfl, (pif_pos κ1).mpr rfl⟩
theorem m_agst {d z : Nat} {s : zS} {I : Nat → Nat → Int32} {J : Nat → Nat → Int64} {P : Nat → Nat} {k : Int32} (hO : sOK s) (hM : RM s I J) (hz : z < s.2.2.1.1) (hs : s.2.2.1.2.2.1 z = true) : gTM (d + 3) 268 [.ref 171, .int (nI z), .int k] (gST I J P) (fun r u => ∃ x : Int32, u = gST I J P ∧ r = some (.int x) ∧ fObs (s.2.2.2.1.2.2.2.1 z) (s.2.2.2.1.2.1 z) (s.2.2.2.1.2.2.1 z) s.2.2.2.1.2.2.2.2.1 (nI s.2.2.1.2.2.2) k (¬ z = 0) x) := by
  obtain ⟨tp, fn, t, W, nm, pr, ch, i0, i1⟩ := s
  have hO0 := hO
  have hM0 := hM
  obtain ⟨oTp, oT, oW, oN, oP, oI0, oI1⟩ := hO
  obtain ⟨jTp, jF, jT, jSp, jW, jN, jP, jC, jI0, jI1, jB, jL⟩ := hM
  dsimp only at oTp oT oW oN oP oI0 oI1 jTp jF jT jSp jW jN jP jC jI0 jI1
  try dsimp only at hz hs
  have hz4 : z < 4 := Nat.lt_of_lt_of_le hz oT.2.1
  have e2 := jW.2.2.2.1 z hz
  rw [if_pos hs] at e2
  have ho3 := oW.2.1 z hz4
  have hd2 := oW.2.2.1 z hz4
  refine gT_n 6 ?_
  refine ⟨rfl, rfl, (pk_in z 4 (by omega) (rfl)), px_ne (X := (W.2.2.2.1 z)) (Y := k) ((rdI (rfl) (by omega) e2)) (rfl) (fun κ1 => ?_) (fun κ1 => ?_)⟩
  · refine gT_n 4 ?_
    refine ⟨rfl, rfl, gTM.use (m_kAt hz4 ho3 (jW.2.1 z hz4)) (Nat.le_refl _) (fun r u hq => ?_)⟩
    obtain ⟨rfl, ⟨i, hi, rfl, β2, he⟩ | ⟨rfl, β2⟩⟩ := hq  -- X12_keyAt[R171, nI z, k]
    · refine gT_n 4 ?_
      refine ⟨fun _ => ?_, fun c => absurd c (nI_neg (rfl) (Nat.lt_of_lt_of_le hi (Nat.le_trans ho3 (by decide))))⟩
      refine gT_n 14 ?_
      refine ⟨rfl, rfl, rfl, (pk_in ((3 * z) + i) 12 (by omega) (pk_addE (n := (3 * z)) (k := i) (pk_mulE (n := 3) (k := z) (rfl) (rfl)) (rfl))), rfl, px_ge (X := (W.2.2.2.2.1 - (ksin (W.2.1 z) k))) (Y := nI t.2.2.2) ((k2E (f := fun x y : Int32 => x - y) (jW.2.2.2.2.1) ((rdI (pk_addE (n := (3 * z)) (k := i) (pk_mulE (n := 3) (k := z) (rfl) (rfl)) (rfl)) (by omega) (Eq.trans ((jW.2.1 z hz4).2 i hi).2 he))) rfl)) (jSp) (fun κ2 => ?_) (fun κ2 => ?_)⟩
      · refine gT_n 4 ?_
        refine ⟨rfl, rfl, gTM.use (m_dAt hz4 hd2 (jW.2.2.1 z hz4)) (Nat.le_refl _) (fun r u hq => ?_)⟩
        obtain ⟨rfl, ⟨j, hj, rfl, β4, hf⟩ | ⟨rfl, β4⟩⟩ := hq  -- X12_digestAt[R171, nI z, k]
        · refine gT_n 4 ?_
          refine ⟨fun _ => ?_, fun c => absurd c (nI_neg (rfl) (Nat.lt_of_lt_of_le hj (Nat.le_trans hd2 (by decide))))⟩
          refine gT_n 2 ?_
          refine pk_le z 0 (fun κ3 => ?_) (fun κ3 => ?_) (rfl) (rfl) (by omega) (by omega)
          · refine gT_n 2 ?_
            exact ⟨_, rfl, rfl, (pif_neg κ1).mpr ((pif_pos β2).mpr ((pif_neg (Int32.not_lt.mpr κ2)).mpr ((pif_pos β4).mpr ((pif_neg (fun q => q.1 (Nat.le_zero.mp κ3))).mpr rfl))))⟩
          · refine gT_n 14 ?_
            refine ⟨rfl, rfl, rfl, (pk_in ((2 * z) + j) 8 (by omega) (pk_addE (n := (2 * z)) (k := j) (pk_mulE (n := 2) (k := z) (rfl) (rfl)) (rfl))), rfl, px_ge (X := (W.2.2.2.2.1 - (ksin (W.2.2.1 z) k))) (Y := nI t.2.2.2) ((k2E (f := fun x y : Int32 => x - y) (jW.2.2.2.2.1) ((rdI (pk_addE (n := (2 * z)) (k := j) (pk_mulE (n := 2) (k := z) (rfl) (rfl)) (rfl)) (by omega) (Eq.trans ((jW.2.2.1 z hz4).2 j hj).2 hf))) rfl)) (jSp) (fun κ4 => ?_) (fun κ4 => ?_)⟩
            · refine gT_n 2 ?_
              exact ⟨_, rfl, rfl, (pif_neg κ1).mpr ((pif_pos β2).mpr ((pif_neg (Int32.not_lt.mpr κ2)).mpr ((pif_pos β4).mpr ((pif_neg (fun q => absurd q.2 (Int32.not_lt.mpr κ4))).mpr rfl))))⟩
            · refine gT_n 3 ?_
              exact ⟨_, rfl, rfl, (pif_neg κ1).mpr ((pif_pos β2).mpr ((pif_neg (Int32.not_lt.mpr κ2)).mpr ((pif_pos β4).mpr ((pif_pos ⟨Nat.ne_of_gt κ3, Int32.not_le.mp κ4⟩).mpr rfl))))⟩
        · refine gT_n 4 ?_
          refine ⟨fun c => absurd (by decide) c, fun _ => ?_⟩
          refine gT_n 2 ?_
          exact ⟨_, rfl, rfl, (pif_neg κ1).mpr ((pif_pos β2).mpr ((pif_neg (Int32.not_lt.mpr κ2)).mpr ((pif_neg β4).mpr rfl)))⟩
      · refine gT_n 2 ?_
        exact ⟨_, rfl, rfl, (pif_neg κ1).mpr ((pif_pos β2).mpr ((pif_pos (Int32.not_le.mp κ2)).mpr rfl))⟩
    · refine gT_n 4 ?_
      refine ⟨fun c => absurd (by decide) c, fun _ => ?_⟩
      refine gT_n 2 ?_
      exact ⟨_, rfl, rfl, (pif_neg κ1).mpr ((pif_neg β2).mpr rfl)⟩
  · refine gT_n 2 ?_
    exact ⟨_, rfl, rfl, (pif_pos κ1).mpr rfl⟩
theorem o_why_c {d : Nat} {s : zS} {I : Nat → Nat → Int32} {J : Nat → Nat → Int64} {P : Nat → Nat} {z k : Int32} (hO : sOK s) (hC : RC s I J P) (hM : RM s I J) : gTM (d + 9) 145 [.ref 0, .int z, .int k] (gST I J P) (pC s (zk s z k fun n x s' => pif (s.2.2.1.2.2.1 n = true) (fObs (s.2.2.2.1.2.2.2.1 n) (s.2.2.2.1.2.1 n) (s.2.2.2.1.2.2.1 n) s.2.2.2.1.2.2.2.2.1 (nI s.2.2.1.2.2.2) k (¬ n = 0) x) (x = -2) ∧ s' = s)) := by
  obtain ⟨tp, fn, t, W, nm, pr, ch, i0, i1⟩ := s
  have hO0 := hO
  have hC0 := hC
  have hM0 := hM
  obtain ⟨oTp, oT, oW, oN, oP, oI0, oI1⟩ := hO
  obtain ⟨kTp, kF, kT, kW, kN, kP, kC, kI0, kI1, kB, kPP⟩ := hC
  obtain ⟨jTp, jF, jT, jSp, jW, jN, jP, jC, jI0, jI1, jB, jL⟩ := hM
  dsimp only at oTp oT oW oN oP oI0 oI1 kTp kF kT kW kN kP kC kI0 kI1 jTp jF jT jSp jW jN jP jC jI0 jI1
  try dsimp only
  have h4 := oT.2.1
  by_cases hh : inZ t.1 z ∧ (1 ≤ k ∧ k ≤ 999)
  · obtain ⟨⟨z, hz, rfl⟩, hk⟩ := hh
    have hz4 : z < 4 := by omega
    have e1 := kT.1.2.2.2.1 z hz
    rcases Bool.eq_false_or_eq_true (t.2.2.1 z) with hs | hs
    · rw [hs] at e1
      refine gT_n 4 ?_
      refine ⟨rfl, rfl, rfl, gTM.use (c_has1 oT kT.1 ⟨z, hz, rfl⟩) (Nat.le_refl _) (fun r u hq => ?_)⟩
      obtain ⟨rfl, rfl⟩ := hq  -- X8_has[R12, nI z]
      refine gT_n 1 ?_
      refine ⟨fun c => absurd c (by decide), fun _ => ?_⟩
      refine gT_n 2 ?_
      refine ⟨rfl, gTM.use (c_isKey1 hk) (Nat.le_refl _) (fun r u hq => ?_)⟩
      obtain ⟨rfl, rfl⟩ := hq  -- X11_isKey[k]
      refine gT_n 1 ?_
      refine ⟨fun _ => ?_, fun c => absurd c (by decide)⟩
      refine gT_n 6 ?_
      refine ⟨rfl, rfl, (Or.inr rfl), (pk_in z 4 (by omega) (rfl)), fun c => absurd c (kpT (p := fun z : Int32 => ¬ (z = 0)) (show _ = (1 : Int32) from (rdI (rfl) (by omega) e1)) (by decide)), fun _ => ?_⟩
      refine gT_n 4 ?_
      refine ⟨rfl, rfl, gTM.use (c_obst hO0 hC0 hM0 hz4) (Nat.le_refl _) (fun r u hq => ?_)⟩
      obtain ⟨v, rfl, rfl, hv⟩ := hq  -- X11_obstacle[R0, nI z, k]
      refine gT_n 2 ?_
      exact ⟨_, _, I, J, P, rfl, rfl, ⟨(zk_yes hz h4 hk).mpr ⟨(pif_pos hs).mpr hv, rfl⟩, hO0⟩, hC0, hM0⟩
    · rw [hs] at e1
      refine gT_n 4 ?_
      refine ⟨rfl, rfl, rfl, gTM.use (c_has1 oT kT.1 ⟨z, hz, rfl⟩) (Nat.le_refl _) (fun r u hq => ?_)⟩
      obtain ⟨rfl, rfl⟩ := hq  -- X8_has[R12, nI z]
      refine gT_n 1 ?_
      refine ⟨fun c => absurd c (by decide), fun _ => ?_⟩
      refine gT_n 2 ?_
      refine ⟨rfl, gTM.use (c_isKey1 hk) (Nat.le_refl _) (fun r u hq => ?_)⟩
      obtain ⟨rfl, rfl⟩ := hq  -- X11_isKey[k]
      refine gT_n 1 ?_
      refine ⟨fun _ => ?_, fun c => absurd c (by decide)⟩
      refine gT_n 6 ?_
      refine ⟨rfl, rfl, (Or.inr rfl), (pk_in z 4 (by omega) (rfl)), fun _ => ?_, fun c => absurd (kpT (p := fun z : Int32 => z = 0) (show _ = (0 : Int32) from (rdI (rfl) (by omega) e1)) (by decide)) c⟩
      refine gT_n 2 ?_
      exact ⟨_, _, I, J, P, rfl, rfl, ⟨(zk_yes hz h4 hk).mpr ⟨(pif_neg (fun q => absurd (hs.symm.trans q) (by decide))).mpr rfl, rfl⟩, hO0⟩, hC0, hM0⟩
  · by_cases hz : inZ t.1 z
    · have hk : ¬ (1 ≤ k ∧ k ≤ 999) := fun q => hh ⟨hz, q⟩
      refine gT_n 4 ?_
      refine ⟨rfl, rfl, rfl, gTM.use (c_has1 oT kT.1 hz) (Nat.le_refl _) (fun r u hq => ?_)⟩
      obtain ⟨rfl, rfl⟩ := hq  -- X8_has[R12, z]
      refine gT_n 1 ?_
      refine ⟨fun c => absurd c (by decide), fun _ => ?_⟩
      refine gT_n 2 ?_
      refine ⟨rfl, gTM.use (c_isKey0 hk) (Nat.le_refl _) (fun r u hq => ?_)⟩
      obtain ⟨rfl, rfl⟩ := hq  -- X11_isKey[k]
      refine gT_n 1 ?_
      refine ⟨fun c => absurd (by decide) c, fun _ => ?_⟩
      refine gT_n 2 ?_
      exact ⟨_, _, I, J, P, rfl, rfl, ⟨(zk_no hh).mpr ⟨rfl, rfl⟩, hO0⟩, hC0, hM0⟩
    · refine gT_n 4 ?_
      refine ⟨rfl, rfl, rfl, gTM.use (c_has0 oT kT.1 hz) (Nat.le_refl _) (fun r u hq => ?_)⟩
      obtain ⟨rfl, rfl⟩ := hq  -- X8_has[R12, z]
      refine gT_n 1 ?_
      refine ⟨fun _ => ?_, fun c => absurd (by decide) c⟩
      refine gT_n 2 ?_
      exact ⟨_, _, I, J, P, rfl, rfl, ⟨(zk_no hh).mpr ⟨rfl, rfl⟩, hO0⟩, hC0, hM0⟩
theorem o_why_m {d : Nat} {s s' : zS} {x : Int32} {I : Nat → Nat → Int32} {J : Nat → Nat → Int64} {P : Nat → Nat} {z k : Int32} (hO : sOK s) (hS : (zk s z k fun n x s' => pif (s.2.2.1.2.2.1 n = true) (fObs (s.2.2.2.1.2.2.2.1 n) (s.2.2.2.1.2.1 n) (s.2.2.2.1.2.2.1 n) s.2.2.2.1.2.2.2.2.1 (nI s.2.2.1.2.2.2) k (¬ n = 0) x) (x = -2) ∧ s' = s) x s') (hC : RC s' I J P) (hM : RM s I J) : gTM (d + 9) 269 [.ref 171, .int z, .int k] (gST I J P) (pM x s') := by
  obtain ⟨tp, fn, t, W, nm, pr, ch, i0, i1⟩ := s
  have hO0 := hO
  have hM0 := hM
  obtain ⟨oTp, oT, oW, oN, oP, oI0, oI1⟩ := hO
  obtain ⟨jTp, jF, jT, jSp, jW, jN, jP, jC, jI0, jI1, jB, jL⟩ := hM
  dsimp only at oTp oT oW oN oP oI0 oI1 jTp jF jT jSp jW jN jP jC jI0 jI1
  try dsimp only at hS
  have h4 := oT.2.1
  by_cases hh : inZ t.1 z ∧ (1 ≤ k ∧ k ≤ 999)
  · obtain ⟨⟨z, hz, rfl⟩, hk⟩ := hh
    have hz4 : z < 4 := by omega
    replace hS := (zk_yes hz h4 hk).mp hS
    try dsimp only at hS
    obtain ⟨hS, rfl⟩ := hS
    have e1 := jT.2.2.1 z hz
    rcases Bool.eq_false_or_eq_true (t.2.2.1 z) with hs | hs
    · rw [hs] at e1
      refine gT_n 3 ?_
      refine ⟨rfl, rfl, gTM.use (m_isZone1 oT jT ⟨z, hz, rfl⟩) (Nat.le_refl _) (fun r u hq => ?_)⟩
      obtain ⟨rfl, rfl⟩ := hq  -- X12_isZone[R171, nI z]
      refine gT_n 1 ?_
      refine ⟨fun c => absurd c (by decide), fun _ => ?_⟩
      refine gT_n 2 ?_
      refine ⟨rfl, gTM.use (m_isKey1 hk) (Nat.le_refl _) (fun r u hq => ?_)⟩
      obtain ⟨rfl, rfl⟩ := hq  -- X12_isKey[k]
      refine gT_n 1 ?_
      refine ⟨fun _ => ?_, fun c => absurd c (by decide)⟩
      refine gT_n 5 ?_
      refine ⟨rfl, (Or.inr rfl), (pk_in z 4 (by omega) (rfl)), fun c => absurd c (kpT (p := fun z : Int32 => ¬ (z = 0)) (show _ = (1 : Int32) from (rdI (rfl) (by omega) e1)) (by decide)), fun _ => ?_⟩
      refine gT_n 4 ?_
      refine ⟨rfl, rfl, gTM.use (m_agst hO0 hM0 hz hs) (Nat.le_refl _) (fun r u hq => ?_)⟩
      obtain ⟨v, rfl, rfl, hv⟩ := hq  -- X12_against[R171, nI z, k]
      refine gT_n 2 ?_
      exact ⟨I, J, P, rfl, ri (fObs_one hv ((pif_pos hs).mp hS)), hC, hM0⟩
    · rw [hs] at e1
      refine gT_n 3 ?_
      refine ⟨rfl, rfl, gTM.use (m_isZone1 oT jT ⟨z, hz, rfl⟩) (Nat.le_refl _) (fun r u hq => ?_)⟩
      obtain ⟨rfl, rfl⟩ := hq  -- X12_isZone[R171, nI z]
      refine gT_n 1 ?_
      refine ⟨fun c => absurd c (by decide), fun _ => ?_⟩
      refine gT_n 2 ?_
      refine ⟨rfl, gTM.use (m_isKey1 hk) (Nat.le_refl _) (fun r u hq => ?_)⟩
      obtain ⟨rfl, rfl⟩ := hq  -- X12_isKey[k]
      refine gT_n 1 ?_
      refine ⟨fun _ => ?_, fun c => absurd c (by decide)⟩
      refine gT_n 5 ?_
      refine ⟨rfl, (Or.inr rfl), (pk_in z 4 (by omega) (rfl)), fun _ => ?_, fun c => absurd (kpT (p := fun z : Int32 => z = 0) (show _ = (0 : Int32) from (rdI (rfl) (by omega) e1)) (by decide)) c⟩
      refine gT_n 2 ?_
      exact ⟨I, J, P, rfl, ri ((pif_neg (fun q => absurd (hs.symm.trans q) (by decide))).mp hS).symm, hC, hM0⟩
  · obtain ⟨rfl, rfl⟩ := (zk_no hh).mp hS
    by_cases hz : inZ t.1 z
    · have hk : ¬ (1 ≤ k ∧ k ≤ 999) := fun q => hh ⟨hz, q⟩
      refine gT_n 3 ?_
      refine ⟨rfl, rfl, gTM.use (m_isZone1 oT jT hz) (Nat.le_refl _) (fun r u hq => ?_)⟩
      obtain ⟨rfl, rfl⟩ := hq  -- X12_isZone[R171, z]
      refine gT_n 1 ?_
      refine ⟨fun c => absurd c (by decide), fun _ => ?_⟩
      refine gT_n 2 ?_
      refine ⟨rfl, gTM.use (m_isKey0 hk) (Nat.le_refl _) (fun r u hq => ?_)⟩
      obtain ⟨rfl, rfl⟩ := hq  -- X12_isKey[k]
      refine gT_n 1 ?_
      refine ⟨fun c => absurd (by decide) c, fun _ => ?_⟩
      refine gT_n 2 ?_
      exact ⟨I, J, P, rfl, rfl, hC, hM0⟩
    · refine gT_n 3 ?_
      refine ⟨rfl, rfl, gTM.use (m_isZone0 oT jT hz) (Nat.le_refl _) (fun r u hq => ?_)⟩
      obtain ⟨rfl, rfl⟩ := hq  -- X12_isZone[R171, z]
      refine gT_n 1 ?_
      refine ⟨fun _ => ?_, fun c => absurd (by decide) c⟩
      refine gT_n 2 ?_
      exact ⟨I, J, P, rfl, rfl, hC, hM0⟩
theorem o_activate_c {d : Nat} {s : zS} {I : Nat → Nat → Int32} {J : Nat → Nat → Int64} {P : Nat → Nat} {z k : Int32} (hO : sOK s) (hC : RC s I J P) (hM : RM s I J) : gTM (d + 9) 146 [.ref 0, .int z, .int k] (gST I J P) (pC s (zk s z k fun n => fAct (s.2.2.1.2.2.1 n) (s.2.2.2.1.2.2.2.1 n) (s.2.2.2.1.2.1 n) k (setA s n) s)) := by
  obtain ⟨tp, fn, t, W, nm, pr, ch, i0, i1⟩ := s
  have hO0 := hO
  have hC0 := hC
  have hM0 := hM
  obtain ⟨oTp, oT, oW, oN, oP, oI0, oI1⟩ := hO
  obtain ⟨kTp, kF, kT, kW, kN, kP, kC, kI0, kI1, kB, kPP⟩ := hC
  obtain ⟨jTp, jF, jT, jSp, jW, jN, jP, jC, jI0, jI1, jB, jL⟩ := hM
  dsimp only at oTp oT oW oN oP oI0 oI1 kTp kF kT kW kN kP kC kI0 kI1 jTp jF jT jSp jW jN jP jC jI0 jI1
  try dsimp only
  have h4 := oT.2.1
  by_cases hh : inZ t.1 z ∧ (1 ≤ k ∧ k ≤ 999)
  · obtain ⟨⟨z, hz, rfl⟩, hk⟩ := hh
    have hz4 : z < 4 := by omega
    obtain ⟨hb, hr⟩ := kRow_out (P := P) hz4
    have hK := cK_out kW hz4
    have ho3 := oW.2.1 z hz4
    have e1 := kT.1.2.2.2.1 z hz
    rcases Bool.eq_false_or_eq_true (t.2.2.1 z) with hs | hs
    · rw [hs] at e1
      refine gT_n 4 ?_
      refine ⟨rfl, rfl, rfl, gTM.use (c_has1 oT kT.1 ⟨z, hz, rfl⟩) (Nat.le_refl _) (fun r u hq => ?_)⟩
      obtain ⟨rfl, rfl⟩ := hq  -- X8_has[R12, nI z]
      refine gT_n 1 ?_
      refine ⟨fun c => absurd c (by decide), fun _ => ?_⟩
      refine gT_n 2 ?_
      refine ⟨rfl, gTM.use (c_isKey1 hk) (Nat.le_refl _) (fun r u hq => ?_)⟩
      obtain ⟨rfl, rfl⟩ := hq  -- X11_isKey[k]
      refine gT_n 1 ?_
      refine ⟨fun _ => ?_, fun c => absurd c (by decide)⟩
      refine gT_n 6 ?_
      refine ⟨rfl, rfl, (Or.inr rfl), (pk_in z 4 (by omega) (rfl)), fun c => absurd c (kpT (p := fun z : Int32 => ¬ (z = 0)) (show _ = (1 : Int32) from (rdI (rfl) (by omega) e1)) (by decide)), fun _ => ?_⟩
      refine gT_n 7 ?_
      refine ⟨rfl, rfl, rfl, (pk_in z 4 (by omega) (rfl)), px_eq (X := (W.2.2.2.1 z)) (Y := k) ((rdI (rfl) (by omega) (cA_at kW hz4))) (rfl) (fun κ1 => ?_) (fun κ1 => ?_)⟩
      · refine gT_n 2 ?_
        exact ⟨_, _, I, J, P, rfl, rfl, ⟨(zk_yes hz h4 hk).mpr ((pif_neg (fun q => q.2.2 κ1)).mpr ⟨rfl, rfl⟩), hO0⟩, hC0, hM0⟩
      · refine gT_n 5 ?_
        refine ⟨rfl, rfl, rfl, (pk_in z 4 (by omega) (rfl)), ?_⟩
        refine gT_top (aa_ref (rfl) (by omega) hr) ?_
        refine gT_n 2 ?_
        refine ⟨hb.ob, rfl, gTM.use (c_khas hb ho3 hK) (Nat.le_refl _) (fun r u hq => ?_)⟩
        obtain ⟨rfl, ⟨rfl, β2⟩ | ⟨rfl, β2⟩⟩ := hq  -- X2_has[Rb, k]
        · refine gT_n 1 ?_
          refine ⟨fun _ => ?_, fun c => absurd c (by decide)⟩
          refine gT_n 6 ?_
          refine ⟨rfl, rfl, rfl, (pk_in z 4 (by omega) (rfl)), ?_⟩
          refine gT_k (L := [(3, .int (W.2.2.2.1 z)), (0, .ref 0), (1, .int (nI z)), (2, .int k)]) ?_ ⟨(viI ((rdI (rfl) (by omega) (cA_at kW hz4)))), rfl, rfl, rfl, trivial⟩ rfl
          refine gT_n 6 ?_
          refine ⟨rfl, rfl, rfl, (pk_in z 4 (by omega) (rfl)), ?_⟩
          refine gT_ix (n := z) (rfl) (by omega) ?_
          refine gT_n 2 ?_
          exact ⟨_, _, _, _, P, rfl, rfl, ⟨(zk_yes hz h4 hk).mpr ((pif_pos ⟨hs, β2, κ1⟩).mpr ⟨rfl, rfl⟩), setA_ok hO0 (Int32.lt_of_lt_of_le (by decide) hk.1)⟩, RC_act hz4 hC0, hM0⟩
        · refine gT_n 1 ?_
          refine ⟨fun c => absurd (by decide) c, fun _ => ?_⟩
          refine gT_n 2 ?_
          exact ⟨_, _, I, J, P, rfl, rfl, ⟨(zk_yes hz h4 hk).mpr ((pif_neg (fun q => β2 q.2.1)).mpr ⟨rfl, rfl⟩), hO0⟩, hC0, hM0⟩
    · rw [hs] at e1
      refine gT_n 4 ?_
      refine ⟨rfl, rfl, rfl, gTM.use (c_has1 oT kT.1 ⟨z, hz, rfl⟩) (Nat.le_refl _) (fun r u hq => ?_)⟩
      obtain ⟨rfl, rfl⟩ := hq  -- X8_has[R12, nI z]
      refine gT_n 1 ?_
      refine ⟨fun c => absurd c (by decide), fun _ => ?_⟩
      refine gT_n 2 ?_
      refine ⟨rfl, gTM.use (c_isKey1 hk) (Nat.le_refl _) (fun r u hq => ?_)⟩
      obtain ⟨rfl, rfl⟩ := hq  -- X11_isKey[k]
      refine gT_n 1 ?_
      refine ⟨fun _ => ?_, fun c => absurd c (by decide)⟩
      refine gT_n 6 ?_
      refine ⟨rfl, rfl, (Or.inr rfl), (pk_in z 4 (by omega) (rfl)), fun _ => ?_, fun c => absurd (kpT (p := fun z : Int32 => z = 0) (show _ = (0 : Int32) from (rdI (rfl) (by omega) e1)) (by decide)) c⟩
      refine gT_n 2 ?_
      exact ⟨_, _, I, J, P, rfl, rfl, ⟨(zk_yes hz h4 hk).mpr ((pif_neg (fun q => absurd (hs.symm.trans q.1) (by decide))).mpr ⟨rfl, rfl⟩), hO0⟩, hC0, hM0⟩
  · by_cases hz : inZ t.1 z
    · have hk : ¬ (1 ≤ k ∧ k ≤ 999) := fun q => hh ⟨hz, q⟩
      refine gT_n 4 ?_
      refine ⟨rfl, rfl, rfl, gTM.use (c_has1 oT kT.1 hz) (Nat.le_refl _) (fun r u hq => ?_)⟩
      obtain ⟨rfl, rfl⟩ := hq  -- X8_has[R12, z]
      refine gT_n 1 ?_
      refine ⟨fun c => absurd c (by decide), fun _ => ?_⟩
      refine gT_n 2 ?_
      refine ⟨rfl, gTM.use (c_isKey0 hk) (Nat.le_refl _) (fun r u hq => ?_)⟩
      obtain ⟨rfl, rfl⟩ := hq  -- X11_isKey[k]
      refine gT_n 1 ?_
      refine ⟨fun c => absurd (by decide) c, fun _ => ?_⟩
      refine gT_n 2 ?_
      exact ⟨_, _, I, J, P, rfl, rfl, ⟨(zk_no hh).mpr ⟨rfl, rfl⟩, hO0⟩, hC0, hM0⟩
    · refine gT_n 4 ?_
      refine ⟨rfl, rfl, rfl, gTM.use (c_has0 oT kT.1 hz) (Nat.le_refl _) (fun r u hq => ?_)⟩
      obtain ⟨rfl, rfl⟩ := hq  -- X8_has[R12, z]
      refine gT_n 1 ?_
      refine ⟨fun _ => ?_, fun c => absurd (by decide) c⟩
      refine gT_n 2 ?_
      exact ⟨_, _, I, J, P, rfl, rfl, ⟨(zk_no hh).mpr ⟨rfl, rfl⟩, hO0⟩, hC0, hM0⟩
theorem o_activate_m {d : Nat} {s s' : zS} {x : Int32} {I : Nat → Nat → Int32} {J : Nat → Nat → Int64} {P : Nat → Nat} {z k : Int32} (hO : sOK s) (hS : (zk s z k fun n => fAct (s.2.2.1.2.2.1 n) (s.2.2.2.1.2.2.2.1 n) (s.2.2.2.1.2.1 n) k (setA s n) s) x s') (hC : RC s' I J P) (hM : RM s I J) : gTM (d + 9) 270 [.ref 171, .int z, .int k] (gST I J P) (pM x s') := by
  obtain ⟨tp, fn, t, W, nm, pr, ch, i0, i1⟩ := s
  have hO0 := hO
  have hM0 := hM
  obtain ⟨oTp, oT, oW, oN, oP, oI0, oI1⟩ := hO
  obtain ⟨jTp, jF, jT, jSp, jW, jN, jP, jC, jI0, jI1, jB, jL⟩ := hM
  dsimp only at oTp oT oW oN oP oI0 oI1 jTp jF jT jSp jW jN jP jC jI0 jI1
  try dsimp only at hS
  have h4 := oT.2.1
  by_cases hh : inZ t.1 z ∧ (1 ≤ k ∧ k ≤ 999)
  · obtain ⟨⟨z, hz, rfl⟩, hk⟩ := hh
    have hz4 : z < 4 := by omega
    replace hS := (zk_yes hz h4 hk).mp hS
    try dsimp only at hS
    have e1 := jT.2.2.1 z hz
    have e2 := jW.2.2.2.1 z hz
    rcases Bool.eq_false_or_eq_true (t.2.2.1 z) with hs | hs
    · rw [hs] at e1
      rw [if_pos hs] at e2
      refine gT_n 3 ?_
      refine ⟨rfl, rfl, gTM.use (m_isZone1 oT jT ⟨z, hz, rfl⟩) (Nat.le_refl _) (fun r u hq => ?_)⟩
      obtain ⟨rfl, rfl⟩ := hq  -- X12_isZone[R171, nI z]
      refine gT_n 1 ?_
      refine ⟨fun c => absurd c (by decide), fun _ => ?_⟩
      refine gT_n 2 ?_
      refine ⟨rfl, gTM.use (m_isKey1 hk) (Nat.le_refl _) (fun r u hq => ?_)⟩
      obtain ⟨rfl, rfl⟩ := hq  -- X12_isKey[k]
      refine gT_n 1 ?_
      refine ⟨fun _ => ?_, fun c => absurd c (by decide)⟩
      refine gT_n 5 ?_
      refine ⟨rfl, (Or.inr rfl), (pk_in z 4 (by omega) (rfl)), fun c => absurd c (kpT (p := fun z : Int32 => ¬ (z = 0)) (show _ = (1 : Int32) from (rdI (rfl) (by omega) e1)) (by decide)), fun _ => ?_⟩
      refine gT_n 4 ?_
      refine ⟨rfl, rfl, gTM.use (m_agst hO0 hM0 hz hs) (Nat.le_refl _) (fun r u hq => ?_)⟩
      obtain ⟨v, rfl, rfl, hv⟩ := hq  -- X12_against[R171, nI z, k]
      refine gT_n 4 ?_
      refine ⟨rfl, gTM.use (m_inI (x := 1) (z := 2) rfl rfl) (Nat.le_refl _) (fun r u hq => ?_)⟩
      obtain ⟨rfl, ⟨rfl, β1⟩ | ⟨rfl, β1⟩⟩ := hq  -- X12_in[i2l(v), lN 1, lN 2]
      · refine gT_n 1 ?_
        refine ⟨fun c => absurd c (by decide), fun _ => ?_⟩
        refine gT_n 2 ?_
        obtain ⟨rfl, rfl⟩ := (pif_neg (fun q => (fObs_12 hv).mp β1 q.2)).mp hS
        exact ⟨I, J, P, rfl, rfl, hC, hM0⟩
      · refine gT_n 1 ?_
        refine ⟨fun _ => ?_, fun c => absurd (by decide) c⟩
        refine gT_n 5 ?_
        refine ⟨rfl, rfl, (pk_in z 4 (by omega) (rfl)), ?_⟩
        refine gT_k (L := [(3, .int (W.2.2.2.1 z)), (0, .ref 171), (1, .int (nI z)), (2, .int k)]) ?_ ⟨(viI ((rdI (rfl) (by omega) e2))), rfl, rfl, rfl, trivial⟩ rfl
        refine gT_n 5 ?_
        refine ⟨rfl, rfl, (pk_in z 4 (by omega) (rfl)), ?_⟩
        refine gT_ix (n := z) (rfl) (by omega) ?_
        refine gT_n 2 ?_
        have hq : khas (W.2.1 z) k ∧ ¬ W.2.2.2.1 z = k := Classical.byContradiction (fun q => β1 ((fObs_12 hv).mpr q))
        obtain ⟨rfl, rfl⟩ := (pif_pos ⟨hs, hq⟩).mp hS
        exact ⟨_, J, P, rfl, rfl, hC, ⟨jTp, jF, jT, jSp, ⟨jW.1, jW.2.1, jW.2.2.1, mAc_set jW.2.2.2.1 hs, jW.2.2.2.2⟩, jN, jP, jC, jI0, jI1, jB, jL⟩⟩
    · rw [hs] at e1
      refine gT_n 3 ?_
      refine ⟨rfl, rfl, gTM.use (m_isZone1 oT jT ⟨z, hz, rfl⟩) (Nat.le_refl _) (fun r u hq => ?_)⟩
      obtain ⟨rfl, rfl⟩ := hq  -- X12_isZone[R171, nI z]
      refine gT_n 1 ?_
      refine ⟨fun c => absurd c (by decide), fun _ => ?_⟩
      refine gT_n 2 ?_
      refine ⟨rfl, gTM.use (m_isKey1 hk) (Nat.le_refl _) (fun r u hq => ?_)⟩
      obtain ⟨rfl, rfl⟩ := hq  -- X12_isKey[k]
      refine gT_n 1 ?_
      refine ⟨fun _ => ?_, fun c => absurd c (by decide)⟩
      refine gT_n 5 ?_
      refine ⟨rfl, (Or.inr rfl), (pk_in z 4 (by omega) (rfl)), fun _ => ?_, fun c => absurd (kpT (p := fun z : Int32 => z = 0) (show _ = (0 : Int32) from (rdI (rfl) (by omega) e1)) (by decide)) c⟩
      refine gT_n 2 ?_
      obtain ⟨rfl, rfl⟩ := (pif_neg (fun q => absurd (hs.symm.trans q.1) (by decide))).mp hS
      exact ⟨I, J, P, rfl, rfl, hC, hM0⟩
  · obtain ⟨rfl, rfl⟩ := (zk_no hh).mp hS
    by_cases hz : inZ t.1 z
    · have hk : ¬ (1 ≤ k ∧ k ≤ 999) := fun q => hh ⟨hz, q⟩
      refine gT_n 3 ?_
      refine ⟨rfl, rfl, gTM.use (m_isZone1 oT jT hz) (Nat.le_refl _) (fun r u hq => ?_)⟩
      obtain ⟨rfl, rfl⟩ := hq  -- X12_isZone[R171, z]
      refine gT_n 1 ?_
      refine ⟨fun c => absurd c (by decide), fun _ => ?_⟩
      refine gT_n 2 ?_
      refine ⟨rfl, gTM.use (m_isKey0 hk) (Nat.le_refl _) (fun r u hq => ?_)⟩
      obtain ⟨rfl, rfl⟩ := hq  -- X12_isKey[k]
      refine gT_n 1 ?_
      refine ⟨fun c => absurd (by decide) c, fun _ => ?_⟩
      refine gT_n 2 ?_
      exact ⟨I, J, P, rfl, rfl, hC, hM0⟩
    · refine gT_n 3 ?_
      refine ⟨rfl, rfl, gTM.use (m_isZone0 oT jT hz) (Nat.le_refl _) (fun r u hq => ?_)⟩
      obtain ⟨rfl, rfl⟩ := hq  -- X12_isZone[R171, z]
      refine gT_n 1 ?_
      refine ⟨fun _ => ?_, fun c => absurd (by decide) c⟩
      refine gT_n 2 ?_
      exact ⟨I, J, P, rfl, rfl, hC, hM0⟩
