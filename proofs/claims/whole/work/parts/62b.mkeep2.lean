/-! keep: the reference's call -/
theorem o_keep_m {d : Nat} {s s' : zS} {x : Int32} {I : Nat → Nat → Int32} {J : Nat → Nat → Int64} {P : Nat → Nat} {k : Int32} (hO : sOK s) (hS : (fKee s k) x s') (hC : RC s' I J P) (hM : RM s I J) : gTM (d + 14) 275 [.ref 171, .int k] (gST I J P) (pM x s') := by
  obtain ⟨tp, fn, t, W, nm, pr, ch, i0, i1⟩ := s
  have hO0 := hO
  have hM0 := hM
  obtain ⟨oTp, oT, oW, oN, oP, oI0, oI1⟩ := hO
  obtain ⟨jTp, jF, jT, jSp, jW, jN, jP, jC, jI0, jI1, jB, jL⟩ := hM
  dsimp only at oTp oT oW oN oP oI0 oI1 jTp jF jT jSp jW jN jP jC jI0 jI1
  try dsimp only at hS
  by_cases hh : inZ 2 k
  · have hT := (pif_pos hh).mp hS
    clear hS
    obtain ⟨q, hq, rfl, rfl, rfl⟩ := hT
    have : q = 0 ∨ q = 1 := by omega
    rcases this with rfl | rfl
    · cases i0 with
      | none =>
        refine gT_n 5 ?_
        refine ⟨rfl, gTM.use (m_in1 (x := 0) (z := 1) rfl rfl (by decide)) (Nat.le_refl _) (fun r u hq => ?_)⟩
        obtain ⟨rfl, rfl⟩ := hq  -- X12_in[i2l(K0), lN 0, lN 1]
        refine gT_n 1 ?_
        refine ⟨fun _ => ?_, fun c => absurd c (by decide)⟩
        refine gT_n 5 ?_
        refine ⟨rfl, (Or.inr rfl), (pk_in 0 2 (by decide) rfl), fun _ => ?_, fun c => absurd (kpT (p := fun z : Int32 => z = 0) (show _ = (0 : Int32) from jI0.1) (by decide)) c⟩
        refine gT_n 13 ?_
        refine ⟨rfl, (Or.inr rfl), (pk_in 0 2 (by decide) rfl), (Or.inr ⟨rfl, Or.inr rfl⟩), ?_⟩
        exact gT_k (m_keepT0 hO0 hC hM0) ⟨rfl, rfl, rfl, rfl, rfl, trivial⟩ rfl
      | some V =>
        refine gT_n 5 ?_
        refine ⟨rfl, gTM.use (m_in1 (x := 0) (z := 1) rfl rfl (by decide)) (Nat.le_refl _) (fun r u hq => ?_)⟩
        obtain ⟨rfl, rfl⟩ := hq  -- X12_in[i2l(K0), lN 0, lN 1]
        refine gT_n 1 ?_
        refine ⟨fun _ => ?_, fun c => absurd c (by decide)⟩
        refine gT_n 5 ?_
        refine ⟨rfl, (Or.inr rfl), (pk_in 0 2 (by decide) rfl), fun c => absurd c (kpT (p := fun z : Int32 => ¬ (z = 0)) (show _ = (1 : Int32) from jI0.1) (by decide)), fun _ => ?_⟩
        refine gT_n 14 ?_
        refine ⟨rfl, (Or.inr rfl), (pk_in 0 2 (by decide) rfl), (Or.inr ⟨rfl, Or.inr rfl⟩), ?_⟩
        exact gT_k (m_keepT0 hO0 hC hM0) ⟨rfl, rfl, rfl, rfl, rfl, trivial⟩ rfl
    · cases i1 with
      | none =>
        refine gT_n 5 ?_
        refine ⟨rfl, gTM.use (m_in1 (x := 0) (z := 1) rfl rfl (by decide)) (Nat.le_refl _) (fun r u hq => ?_)⟩
        obtain ⟨rfl, rfl⟩ := hq  -- X12_in[i2l(K1), lN 0, lN 1]
        refine gT_n 1 ?_
        refine ⟨fun _ => ?_, fun c => absurd c (by decide)⟩
        refine gT_n 5 ?_
        refine ⟨rfl, (Or.inr rfl), (pk_in 1 2 (by decide) rfl), fun _ => ?_, fun c => absurd (kpT (p := fun z : Int32 => z = 0) (show _ = (0 : Int32) from jI1.1) (by decide)) c⟩
        refine gT_n 13 ?_
        refine ⟨rfl, (Or.inr rfl), (pk_in 1 2 (by decide) rfl), (Or.inr ⟨rfl, Or.inr rfl⟩), ?_⟩
        exact gT_k (m_keepT1 hO0 hC hM0) ⟨rfl, rfl, rfl, rfl, rfl, trivial⟩ rfl
      | some V =>
        refine gT_n 5 ?_
        refine ⟨rfl, gTM.use (m_in1 (x := 0) (z := 1) rfl rfl (by decide)) (Nat.le_refl _) (fun r u hq => ?_)⟩
        obtain ⟨rfl, rfl⟩ := hq  -- X12_in[i2l(K1), lN 0, lN 1]
        refine gT_n 1 ?_
        refine ⟨fun _ => ?_, fun c => absurd c (by decide)⟩
        refine gT_n 5 ?_
        refine ⟨rfl, (Or.inr rfl), (pk_in 1 2 (by decide) rfl), fun c => absurd c (kpT (p := fun z : Int32 => ¬ (z = 0)) (show _ = (1 : Int32) from jI1.1) (by decide)), fun _ => ?_⟩
        refine gT_n 14 ?_
        refine ⟨rfl, (Or.inr rfl), (pk_in 1 2 (by decide) rfl), (Or.inr ⟨rfl, Or.inr rfl⟩), ?_⟩
        exact gT_k (m_keepT1 hO0 hC hM0) ⟨rfl, rfl, rfl, rfl, rfl, trivial⟩ rfl
  · obtain ⟨rfl, rfl⟩ := (pif_neg hh).mp hS
    refine gT_n 5 ?_
    refine ⟨rfl, gTM.use (m_inZ (n := 2) (by omega) rfl rfl rfl) (Nat.le_refl _) (fun r u hq => ?_)⟩
    obtain ⟨rfl, ⟨rfl, β1⟩ | ⟨rfl, β1⟩⟩ := hq  -- X12_in[L(k).toInt64, lN 0, lN 1]
    · refine gT_n 1 ?_
      refine ⟨fun _ => ?_, fun c => absurd c (by decide)⟩
      exact absurd β1 hh
    · refine gT_n 1 ?_
      refine ⟨fun c => absurd (by decide) c, fun _ => ?_⟩
      refine gT_n 2 ?_
      exact ⟨I, J, P, rfl, rfl, hC, hM0⟩
