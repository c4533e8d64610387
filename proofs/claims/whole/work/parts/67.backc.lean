/-! back: the class -/
theorem setB_ok {s : zS} {V : zW} (h : sOK s) (hV : wOK s.2.2.1 V) : sOK (setB s V) := by
  obtain ⟨h1, h2, h3, h4, h5, h6⟩ := h
  exact ⟨h1, h2, hV, h4, fun r hr => (by cases hr), h6⟩
set_option maxHeartbeats 4000000 in
theorem o_back_c {d : Nat} {s : zS} {I : Nat → Nat → Int32} {J : Nat → Nat → Int64} {P : Nat → Nat} {k : Int32} (hO : sOK s) (hC : RC s I J P) (hM : RM s I J) : gTM (d + 14) 151 [.ref 0, .int k] (gST I J P) (pC s (fBac s k)) := by
  obtain ⟨tp, fn, t, W, nm, pr, ch, i0, i1⟩ := s
  have hO0 := hO
  have hC0 := hC
  have hM0 := hM
  obtain ⟨oTp, oT, oW, oN, oP, oI0, oI1⟩ := hO
  obtain ⟨kTp, kF, kT, kW, kN, kP, kC, kI0, kI1, kB, kPP⟩ := hC
  obtain ⟨jTp, jF, jT, jSp, jW, jN, jP, jC, jI0, jI1, jB, jL⟩ := hM
  dsimp only at oTp oT oW oN oP oI0 oI1 kTp kF kT kW kN kP kC kI0 kI1 jTp jF jT jSp jW jN jP jC jI0 jI1
  try dsimp only
  by_cases hh : inZ 2 k
  · obtain ⟨q, hq, rfl⟩ := hh
    have hh : inZ 2 (nI q) := ⟨q, hq, rfl⟩
    have : q = 0 ∨ q = 1 := by omega
    rcases this with rfl | rfl
    · cases i0 with
      | none =>
        refine gT_n 2 ?_
        refine ⟨fun c => absurd c (by decide), fun _ => ?_⟩
        refine gT_n 3 ?_
        refine ⟨fun _ => ?_, fun c => absurd (by decide) c⟩
        refine gT_n 5 ?_
        refine ⟨rfl, (Or.inr rfl), (pk_in 0 2 (by decide) rfl), fun c => absurd c (kpT (p := fun z : Int32 => ¬ (¬ z = 0)) (show _ = (0 : Int32) from kI0.1) (by decide)), fun _ => ?_⟩
        refine gT_n 2 ?_
        exact ⟨_, _, I, J, P, rfl, rfl, ⟨(pif_pos hh).mpr ⟨0, hq, rfl, rfl, rfl⟩, hO0⟩, hC0, hM0⟩
      | some V =>
        have hV := kI0.2 V rfl
        have oV := oI0 V rfl
        have hr24 := oV.1.1
        have hE4 := oV.2.2.2.2.1
        refine gT_n 2 ?_
        refine ⟨fun c => absurd c (by decide), fun _ => ?_⟩
        refine gT_n 3 ?_
        refine ⟨fun _ => ?_, fun c => absurd (by decide) c⟩
        refine gT_n 5 ?_
        refine ⟨rfl, (Or.inr rfl), (pk_in 0 2 (by decide) rfl), fun _ => ?_, fun c => absurd c (kpT (p := fun z : Int32 => ¬ z = 0) (show _ = (1 : Int32) from kI0.1) (by decide))⟩
        refine gT_n 7 ?_
        refine ⟨rfl, rfl, rfl, (pk_in 0 2 (by decide) rfl), rfl, rfl, ?_⟩
        refine gT_n 9 ?_
        refine ⟨rfl, rfl, rfl, rfl, rfl, rfl, gTM.use (c_rcopy_18_60 (n := V.1.length) hV.1.1 hr24) (Nat.le_refl _) (fun r u hq => ?_)⟩
        obtain ⟨rfl, rfl⟩ := hq  -- X7_copyFrom[R18, R60]
        refine gT_n 5 ?_
        refine ⟨rfl, rfl, rfl, rfl, gTM.use (c_ccopy_25_67 (n := V.2.2.2.2.2.length) hV.2.2.2.2.2.1 hE4) (Nat.le_refl _) (fun r u hq => ?_)⟩
        obtain ⟨rfl, rfl⟩ := hq  -- X0_copyFrom[R25, R67]
        refine gT_n 5 ?_
        refine ⟨fun c => absurd c (by decide), fun _ => ?_⟩
        refine gT_n 9 ?_
        refine ⟨rfl, rfl, (pk_in 0 4 (by decide) rfl), rfl, rfl, (pk_in 0 4 (by decide) rfl), rfl, rfl, gTM.use (c_kcopy (b := 34) (c := 76) ⟨rfl, rfl, rfl, rfl, rfl⟩ ⟨rfl, rfl, rfl, rfl, rfl⟩ (by omega) (l := V.2.1 0) hV.2.1.1) (Nat.le_refl _) (fun r u hq => ?_)⟩
        obtain ⟨rfl, no0, fo0, go0, rfl, ho0⟩ := hq  -- X2_copyFrom[R34, R76]
        refine gT_n 9 ?_
        refine ⟨rfl, rfl, (pk_in 0 4 (by decide) rfl), rfl, rfl, (pk_in 0 4 (by decide) rfl), rfl, rfl, gTM.use (c_kcopy (b := 37) (c := 79) ⟨rfl, rfl, rfl, rfl, rfl⟩ ⟨rfl, rfl, rfl, rfl, rfl⟩ (by omega) (l := V.2.2.1 0) hV.2.2.1.1) (Nat.le_refl _) (fun r u hq => ?_)⟩
        obtain ⟨rfl, ng0, fg0, gg0, rfl, hg0⟩ := hq  -- X2_copyFrom[R37, R79]
        refine gT_n 13 ?_
        refine ⟨rfl, rfl, rfl, (pk_in 0 4 (by decide) rfl), rfl, (pk_in 0 4 (by decide) rfl), fun c => absurd c (by decide), fun _ => ?_⟩
        refine gT_n 9 ?_
        refine ⟨rfl, rfl, (pk_in 1 4 (by decide) rfl), rfl, rfl, (pk_in 1 4 (by decide) rfl), rfl, rfl, gTM.use (c_kcopy (b := 40) (c := 82) ⟨rfl, rfl, rfl, rfl, rfl⟩ ⟨rfl, rfl, rfl, rfl, rfl⟩ (by omega) (l := V.2.1 1) hV.2.1.2.1) (Nat.le_refl _) (fun r u hq => ?_)⟩
        obtain ⟨rfl, no1, fo1, go1, rfl, ho1⟩ := hq  -- X2_copyFrom[R40, R82]
        refine gT_n 9 ?_
        refine ⟨rfl, rfl, (pk_in 1 4 (by decide) rfl), rfl, rfl, (pk_in 1 4 (by decide) rfl), rfl, rfl, gTM.use (c_kcopy (b := 43) (c := 85) ⟨rfl, rfl, rfl, rfl, rfl⟩ ⟨rfl, rfl, rfl, rfl, rfl⟩ (by omega) (l := V.2.2.1 1) hV.2.2.1.2.1) (Nat.le_refl _) (fun r u hq => ?_)⟩
        obtain ⟨rfl, ng1, fg1, gg1, rfl, hg1⟩ := hq  -- X2_copyFrom[R43, R85]
        refine gT_n 13 ?_
        refine ⟨rfl, rfl, rfl, (pk_in 1 4 (by decide) rfl), rfl, (pk_in 1 4 (by decide) rfl), fun c => absurd c (by decide), fun _ => ?_⟩
        refine gT_n 9 ?_
        refine ⟨rfl, rfl, (pk_in 2 4 (by decide) rfl), rfl, rfl, (pk_in 2 4 (by decide) rfl), rfl, rfl, gTM.use (c_kcopy (b := 46) (c := 88) ⟨rfl, rfl, rfl, rfl, rfl⟩ ⟨rfl, rfl, rfl, rfl, rfl⟩ (by omega) (l := V.2.1 2) hV.2.1.2.2.1) (Nat.le_refl _) (fun r u hq => ?_)⟩
        obtain ⟨rfl, no2, fo2, go2, rfl, ho2⟩ := hq  -- X2_copyFrom[R46, R88]
        refine gT_n 9 ?_
        refine ⟨rfl, rfl, (pk_in 2 4 (by decide) rfl), rfl, rfl, (pk_in 2 4 (by decide) rfl), rfl, rfl, gTM.use (c_kcopy (b := 49) (c := 91) ⟨rfl, rfl, rfl, rfl, rfl⟩ ⟨rfl, rfl, rfl, rfl, rfl⟩ (by omega) (l := V.2.2.1 2) hV.2.2.1.2.2.1) (Nat.le_refl _) (fun r u hq => ?_)⟩
        obtain ⟨rfl, ng2, fg2, gg2, rfl, hg2⟩ := hq  -- X2_copyFrom[R49, R91]
        refine gT_n 13 ?_
        refine ⟨rfl, rfl, rfl, (pk_in 2 4 (by decide) rfl), rfl, (pk_in 2 4 (by decide) rfl), fun c => absurd c (by decide), fun _ => ?_⟩
        refine gT_n 9 ?_
        refine ⟨rfl, rfl, (pk_in 3 4 (by decide) rfl), rfl, rfl, (pk_in 3 4 (by decide) rfl), rfl, rfl, gTM.use (c_kcopy (b := 52) (c := 94) ⟨rfl, rfl, rfl, rfl, rfl⟩ ⟨rfl, rfl, rfl, rfl, rfl⟩ (by omega) (l := V.2.1 3) hV.2.1.2.2.2) (Nat.le_refl _) (fun r u hq => ?_)⟩
        obtain ⟨rfl, no3, fo3, go3, rfl, ho3⟩ := hq  -- X2_copyFrom[R52, R94]
        refine gT_n 9 ?_
        refine ⟨rfl, rfl, (pk_in 3 4 (by decide) rfl), rfl, rfl, (pk_in 3 4 (by decide) rfl), rfl, rfl, gTM.use (c_kcopy (b := 55) (c := 97) ⟨rfl, rfl, rfl, rfl, rfl⟩ ⟨rfl, rfl, rfl, rfl, rfl⟩ (by omega) (l := V.2.2.1 3) hV.2.2.1.2.2.2) (Nat.le_refl _) (fun r u hq => ?_)⟩
        obtain ⟨rfl, ng3, fg3, gg3, rfl, hg3⟩ := hq  -- X2_copyFrom[R55, R97]
        refine gT_n 13 ?_
        refine ⟨rfl, rfl, rfl, (pk_in 3 4 (by decide) rfl), rfl, (pk_in 3 4 (by decide) rfl), fun _ => ?_, fun c => absurd (by decide) c⟩
        refine gT_n 1 ?_
        refine ⟨rfl, ?_⟩
        show gT _ 151 36 _ _ _ _ _
        refine gT_n 13 ?_
        refine ⟨rfl, rfl, (Or.inl rfl), rfl, rfl, (Or.inl rfl), rfl, rfl, rfl, ?_⟩
        exact ⟨nI V.1.length, setB (tp, fn, t, W, nm, pr, ch, some V, i1) V, _, _, P, rfl, rfl, ⟨(pif_pos hh).mpr ⟨0, hq, rfl, rfl, rfl⟩, setB_ok hO0 oV⟩, ⟨kTp, kF, kT, ⟨cR_copy hV.1, ⟨ho0, ho1, ho2, ho3⟩, ⟨hg0, hg1, hg2, hg3⟩, hV.2.2.2.1, hV.2.2.2.2.1, cE_copy hV.2.2.2.2.2 hE4 (fun h => if_pos (by omega)) (fun h => if_pos (by omega)) (fun h => if_pos (by omega)) (fun h => if_pos (by omega))⟩, kN, ⟨rfl, fun r hr => by cases hr⟩, ⟨rfl, fun r hr => by cases hr⟩, kI0, kI1, kB, kPP⟩, hM0⟩
    · cases i1 with
      | none =>
        refine gT_n 2 ?_
        refine ⟨fun c => absurd c (by decide), fun _ => ?_⟩
        refine gT_n 3 ?_
        refine ⟨fun _ => ?_, fun c => absurd (by decide) c⟩
        refine gT_n 5 ?_
        refine ⟨rfl, (Or.inr rfl), (pk_in 1 2 (by decide) rfl), fun c => absurd c (kpT (p := fun z : Int32 => ¬ (¬ z = 0)) (show _ = (0 : Int32) from kI1.1) (by decide)), fun _ => ?_⟩
        refine gT_n 2 ?_
        exact ⟨_, _, I, J, P, rfl, rfl, ⟨(pif_pos hh).mpr ⟨1, hq, rfl, rfl, rfl⟩, hO0⟩, hC0, hM0⟩
      | some V =>
        have hV := kI1.2 V rfl
        have oV := oI1 V rfl
        have hr24 := oV.1.1
        have hE4 := oV.2.2.2.2.1
        refine gT_n 2 ?_
        refine ⟨fun c => absurd c (by decide), fun _ => ?_⟩
        refine gT_n 3 ?_
        refine ⟨fun _ => ?_, fun c => absurd (by decide) c⟩
        refine gT_n 5 ?_
        refine ⟨rfl, (Or.inr rfl), (pk_in 1 2 (by decide) rfl), fun _ => ?_, fun c => absurd c (kpT (p := fun z : Int32 => ¬ z = 0) (show _ = (1 : Int32) from kI1.1) (by decide))⟩
        refine gT_n 7 ?_
        refine ⟨rfl, rfl, rfl, (pk_in 1 2 (by decide) rfl), rfl, rfl, ?_⟩
        refine gT_n 9 ?_
        refine ⟨rfl, rfl, rfl, rfl, rfl, rfl, gTM.use (c_rcopy_18_101 (n := V.1.length) hV.1.1 hr24) (Nat.le_refl _) (fun r u hq => ?_)⟩
        obtain ⟨rfl, rfl⟩ := hq  -- X7_copyFrom[R18, R101]
        refine gT_n 5 ?_
        refine ⟨rfl, rfl, rfl, rfl, gTM.use (c_ccopy_25_108 (n := V.2.2.2.2.2.length) hV.2.2.2.2.2.1 hE4) (Nat.le_refl _) (fun r u hq => ?_)⟩
        obtain ⟨rfl, rfl⟩ := hq  -- X0_copyFrom[R25, R108]
        refine gT_n 5 ?_
        refine ⟨fun c => absurd c (by decide), fun _ => ?_⟩
        refine gT_n 9 ?_
        refine ⟨rfl, rfl, (pk_in 0 4 (by decide) rfl), rfl, rfl, (pk_in 0 4 (by decide) rfl), rfl, rfl, gTM.use (c_kcopy (b := 34) (c := 117) ⟨rfl, rfl, rfl, rfl, rfl⟩ ⟨rfl, rfl, rfl, rfl, rfl⟩ (by omega) (l := V.2.1 0) hV.2.1.1) (Nat.le_refl _) (fun r u hq => ?_)⟩
        obtain ⟨rfl, no0, fo0, go0, rfl, ho0⟩ := hq  -- X2_copyFrom[R34, R117]
        refine gT_n 9 ?_
        refine ⟨rfl, rfl, (pk_in 0 4 (by decide) rfl), rfl, rfl, (pk_in 0 4 (by decide) rfl), rfl, rfl, gTM.use (c_kcopy (b := 37) (c := 120) ⟨rfl, rfl, rfl, rfl, rfl⟩ ⟨rfl, rfl, rfl, rfl, rfl⟩ (by omega) (l := V.2.2.1 0) hV.2.2.1.1) (Nat.le_refl _) (fun r u hq => ?_)⟩
        obtain ⟨rfl, ng0, fg0, gg0, rfl, hg0⟩ := hq  -- X2_copyFrom[R37, R120]
        refine gT_n 13 ?_
        refine ⟨rfl, rfl, rfl, (pk_in 0 4 (by decide) rfl), rfl, (pk_in 0 4 (by decide) rfl), fun c => absurd c (by decide), fun _ => ?_⟩
        refine gT_n 9 ?_
        refine ⟨rfl, rfl, (pk_in 1 4 (by decide) rfl), rfl, rfl, (pk_in 1 4 (by decide) rfl), rfl, rfl, gTM.use (c_kcopy (b := 40) (c := 123) ⟨rfl, rfl, rfl, rfl, rfl⟩ ⟨rfl, rfl, rfl, rfl, rfl⟩ (by omega) (l := V.2.1 1) hV.2.1.2.1) (Nat.le_refl _) (fun r u hq => ?_)⟩
        obtain ⟨rfl, no1, fo1, go1, rfl, ho1⟩ := hq  -- X2_copyFrom[R40, R123]
        refine gT_n 9 ?_
        refine ⟨rfl, rfl, (pk_in 1 4 (by decide) rfl), rfl, rfl, (pk_in 1 4 (by decide) rfl), rfl, rfl, gTM.use (c_kcopy (b := 43) (c := 126) ⟨rfl, rfl, rfl, rfl, rfl⟩ ⟨rfl, rfl, rfl, rfl, rfl⟩ (by omega) (l := V.2.2.1 1) hV.2.2.1.2.1) (Nat.le_refl _) (fun r u hq => ?_)⟩
        obtain ⟨rfl, ng1, fg1, gg1, rfl, hg1⟩ := hq  -- X2_copyFrom[R43, R126]
        refine gT_n 13 ?_
        refine ⟨rfl, rfl, rfl, (pk_in 1 4 (by decide) rfl), rfl, (pk_in 1 4 (by decide) rfl), fun c => absurd c (by decide), fun _ => ?_⟩
        refine gT_n 9 ?_
        refine ⟨rfl, rfl, (pk_in 2 4 (by decide) rfl), rfl, rfl, (pk_in 2 4 (by decide) rfl), rfl, rfl, gTM.use (c_kcopy (b := 46) (c := 129) ⟨rfl, rfl, rfl, rfl, rfl⟩ ⟨rfl, rfl, rfl, rfl, rfl⟩ (by omega) (l := V.2.1 2) hV.2.1.2.2.1) (Nat.le_refl _) (fun r u hq => ?_)⟩
        obtain ⟨rfl, no2, fo2, go2, rfl, ho2⟩ := hq  -- X2_copyFrom[R46, R129]
        refine gT_n 9 ?_
        refine ⟨rfl, rfl, (pk_in 2 4 (by decide) rfl), rfl, rfl, (pk_in 2 4 (by decide) rfl), rfl, rfl, gTM.use (c_kcopy (b := 49) (c := 132) ⟨rfl, rfl, rfl, rfl, rfl⟩ ⟨rfl, rfl, rfl, rfl, rfl⟩ (by omega) (l := V.2.2.1 2) hV.2.2.1.2.2.1) (Nat.le_refl _) (fun r u hq => ?_)⟩
        obtain ⟨rfl, ng2, fg2, gg2, rfl, hg2⟩ := hq  -- X2_copyFrom[R49, R132]
        refine gT_n 13 ?_
        refine ⟨rfl, rfl, rfl, (pk_in 2 4 (by decide) rfl), rfl, (pk_in 2 4 (by decide) rfl), fun c => absurd c (by decide), fun _ => ?_⟩
        refine gT_n 9 ?_
        refine ⟨rfl, rfl, (pk_in 3 4 (by decide) rfl), rfl, rfl, (pk_in 3 4 (by decide) rfl), rfl, rfl, gTM.use (c_kcopy (b := 52) (c := 135) ⟨rfl, rfl, rfl, rfl, rfl⟩ ⟨rfl, rfl, rfl, rfl, rfl⟩ (by omega) (l := V.2.1 3) hV.2.1.2.2.2) (Nat.le_refl _) (fun r u hq => ?_)⟩
        obtain ⟨rfl, no3, fo3, go3, rfl, ho3⟩ := hq  -- X2_copyFrom[R52, R135]
        refine gT_n 9 ?_
        refine ⟨rfl, rfl, (pk_in 3 4 (by decide) rfl), rfl, rfl, (pk_in 3 4 (by decide) rfl), rfl, rfl, gTM.use (c_kcopy (b := 55) (c := 138) ⟨rfl, rfl, rfl, rfl, rfl⟩ ⟨rfl, rfl, rfl, rfl, rfl⟩ (by omega) (l := V.2.2.1 3) hV.2.2.1.2.2.2) (Nat.le_refl _) (fun r u hq => ?_)⟩
        obtain ⟨rfl, ng3, fg3, gg3, rfl, hg3⟩ := hq  -- X2_copyFrom[R55, R138]
        refine gT_n 13 ?_
        refine ⟨rfl, rfl, rfl, (pk_in 3 4 (by decide) rfl), rfl, (pk_in 3 4 (by decide) rfl), fun _ => ?_, fun c => absurd (by decide) c⟩
        refine gT_n 1 ?_
        refine ⟨rfl, ?_⟩
        show gT _ 151 36 _ _ _ _ _
        refine gT_n 13 ?_
        refine ⟨rfl, rfl, (Or.inl rfl), rfl, rfl, (Or.inl rfl), rfl, rfl, rfl, ?_⟩
        exact ⟨nI V.1.length, setB (tp, fn, t, W, nm, pr, ch, i0, some V) V, _, _, P, rfl, rfl, ⟨(pif_pos hh).mpr ⟨1, hq, rfl, rfl, rfl⟩, setB_ok hO0 oV⟩, ⟨kTp, kF, kT, ⟨cR_copy hV.1, ⟨ho0, ho1, ho2, ho3⟩, ⟨hg0, hg1, hg2, hg3⟩, hV.2.2.2.1, hV.2.2.2.2.1, cE_copy hV.2.2.2.2.2 hE4 (fun h => if_pos (by omega)) (fun h => if_pos (by omega)) (fun h => if_pos (by omega)) (fun h => if_pos (by omega))⟩, kN, ⟨rfl, fun r hr => by cases hr⟩, ⟨rfl, fun r hr => by cases hr⟩, kI0, kI1, kB, kPP⟩, hM0⟩
  · refine gT_n 2 ?_
    refine px_lt (X := k) (Y := (0)) (rfl) (rfl) (fun κ1 => ?_) (fun κ1 => ?_)
    · refine gT_n 2 ?_
      exact ⟨_, _, I, J, P, rfl, rfl, ⟨(pif_neg hh).mpr ⟨rfl, rfl⟩, hO0⟩, hC0, hM0⟩
    · refine gT_n 3 ?_
      refine px_lt (X := k) (Y := (2)) (rfl) (rfl) (fun κ2 => ?_) (fun κ2 => ?_)
      · exact absurd (inZ_of (n := 2) (by decide) κ1 (Int32.not_le.mpr κ2)) hh
      · refine gT_n 2 ?_
        exact ⟨_, _, I, J, P, rfl, rfl, ⟨(pif_neg hh).mpr ⟨rfl, rfl⟩, hO0⟩, hC0, hM0⟩
