/-! ask: the reference's call -/
theorem fCh_len {t : zT} {W : zW} {w : Nat} {b : Bool} {l : List zI} : ∀ m a, fCh t W w m a b l → l.length ≤ a.length + 2 * m
  | 0, a, h => by rw [h.2]; omega
  | m + 1, a, h => by
    by_cases hs : t.2.2.1 (zc t w m) = true
    · have g := fCh_len m _ ((pif_pos hs).mp h)
      rw [List.length_append, List.length_append] at g
      have g : l.length ≤ a.length + 1 + 1 + 2 * m := g
      omega
    · obtain ⟨-, os, i, -, -, -, -, e⟩ := (pif_neg hs).mp h
      rw [e, List.length_append]
      show a.length + 1 ≤ _
      omega
theorem fCh_sg {t : zT} {W : zW} {w : Nat} {l : List zI} : ∀ m a, fCh t W w m a true l → t.2.2.1 (zc t w m) = true → t.2.2.1 w = true
  | 0, a, _, h => h
  | m + 1, a, h, _ => by
    by_cases hs : t.2.2.1 (zc t w m) = true
    · exact fCh_sg m _ ((pif_pos hs).mp h) hs
    · exact absurd ((pif_neg hs).mp h).1 (by decide)
theorem o_ask_m {d : Nat} {s s' : zS} {x : Int32} {I : Nat → Nat → Int32} {J : Nat → Nat → Int64} {P : Nat → Nat} {so : Int32} (hO : sOK s) (hS : (fAskO s so) x s') (hC : RC s' I J P) (hM : RM s I J) : gTM (d + 14) 230 [.ref 171, .int so] (gST I J P) (pM x s') := by
  obtain ⟨tp, fn, t, W, nm, pr, ch, i0, i1⟩ := s
  have hO0 := hO
  have hM0 := hM
  obtain ⟨oTp, oT, oW, oN, oP, oI0, oI1⟩ := hO
  obtain ⟨jTp, jF, jT, jSp, jW, jN, jP, jC, jI0, jI1, jB, jL⟩ := hM
  dsimp only at oTp oT oW oN oP oI0 oI1 jTp jF jT jSp jW jN jP jC jI0 jI1
  try dsimp only at hS
  have h4 := oT.2.1
  have hzz := zof_lt oT nm
  obtain ⟨lm, hp, hR⟩ := jW.1
  have hr := rOK_perm hp.symm oW.1
  by_cases hh : inZ 3 so
  · obtain ⟨q, l, hq, rfl, hAs, hl10, hA, rfl, rfl⟩ := (pif_pos hh).mp hS
    try dsimp only at hAs
    obtain ⟨m, b, l1, hm, hm0, hnz, hch, hfin⟩ := hAs
    have hl8 : l1.length ≤ 8 := by have := fCh_len m _ hch; have e : [qKey t W 0].length = 1 := rfl; omega
    cases b with
    | false =>
      have hfin := (pif_neg (by decide)).mp hfin
      subst hfin
      refine gT_n 5 ?_
      refine ⟨rfl, gTM.use (m_inZ1 (n := 3) (by omega) rfl rfl rfl ⟨q, hq, rfl⟩) (Nat.le_refl _) (fun r u hq => ?_)⟩
      obtain ⟨rfl, rfl⟩ := hq  -- X12_in[i2l(nI q), lN 0, lN 2]
      refine gT_n 1 ?_
      refine ⟨fun _ => ?_, fun c => absurd c (by decide)⟩
      refine gT_n 4 ?_
      refine ⟨rfl, rfl, rfl, gTM.useA (m_zoneIn oT jT oN) (Nat.le_refl _) (aR (aL (jN) (rfl))) (fun r u hq => ?_)⟩
      obtain ⟨rfl, rfl⟩ := hq  -- X12_zoneIn[R171, lN nm]
      refine gT_n 7 ?_
      refine ⟨rfl, rfl, rfl, gTM.use (m_chainComes (I := gupI I 171 45 0) (J := J) (P := P) oT oW jT hr hp hR jW.2.2.2.1 jW.2.1 jW.2.2.1 hzz hm hm0 hnz rfl hch) (Nat.le_refl _) (fun r u hq => ?_)⟩
      obtain ⟨A, kd1, zn1, so1, nu1, sg1, mk1, jo1, jx1, rfl, rfl, hB1⟩ := hq  -- X12_chainComes[R171, nI ((zof t nm))]
      refine gT_n 1 ?_
      refine ⟨fun _ => ?_, fun c => absurd (by decide) c⟩
      refine gT_n 17 ?_
      refine ⟨rfl, (Or.inr rfl), rfl, rfl, rfl, rfl, rfl, rfl, ?_⟩
      exact ⟨_, _, P, rfl, ri (congrArg nI (List.length_map qS)), hC, ⟨jTp, jF, jT, jSp, ⟨⟨lm, hp, hR⟩, jW.2⟩, jN, ⟨rfl, fun r hr => by cases hr; exact ⟨rfl, jN, rfl, jW.2.2.2.2.1, hB1⟩⟩, jC, jI0, jI1, jB, jL⟩⟩
    | true =>
      have han := (pif_pos rfl).mp hfin
      have hsg : t.2.2.1 (zof t nm) = true := fCh_sg m _ hch (by rw [hm0]; exact oT.2.2.2.1)
      refine gT_n 5 ?_
      refine ⟨rfl, gTM.use (m_inZ1 (n := 3) (by omega) rfl rfl rfl ⟨q, hq, rfl⟩) (Nat.le_refl _) (fun r u hq => ?_)⟩
      obtain ⟨rfl, rfl⟩ := hq  -- X12_in[i2l(nI q), lN 0, lN 2]
      refine gT_n 1 ?_
      refine ⟨fun _ => ?_, fun c => absurd c (by decide)⟩
      refine gT_n 4 ?_
      refine ⟨rfl, rfl, rfl, gTM.useA (m_zoneIn oT jT oN) (Nat.le_refl _) (aR (aL (jN) (rfl))) (fun r u hq => ?_)⟩
      obtain ⟨rfl, rfl⟩ := hq  -- X12_zoneIn[R171, lN nm]
      refine gT_n 7 ?_
      refine ⟨rfl, rfl, rfl, gTM.use (m_chainComes (I := gupI I 171 45 0) (J := J) (P := P) oT oW jT hr hp hR jW.2.2.2.1 jW.2.1 jW.2.2.1 hzz hm hm0 hnz rfl hch) (Nat.le_refl _) (fun r u hq => ?_)⟩
      obtain ⟨A, kd1, zn1, so1, nu1, sg1, mk1, jo1, jx1, rfl, rfl, hB1⟩ := hq  -- X12_chainComes[R171, nI ((zof t nm))]
      refine gT_n 1 ?_
      refine ⟨fun c => absurd c (by decide), fun _ => ?_⟩
      refine gT_n 6 ?_
      refine ⟨rfl, rfl, rfl, gTM.useA (m_answerComes (I := (m1 (gupI (gupI I 171 45 0) 171 51 (nI (m + 1))) 201 A)) (J := J) oT oW jT hr hp hR jW.2.2.2.1 jW.2.1 jW.2.2.1 oN hq hsg hB1 hl8 han) (Nat.le_refl _) (aR (aI (rfl) (aL (jN) (aI (rfl) (rfl))))) (fun r u hq => ?_)⟩
      obtain ⟨rfl, kd2, zn2, so2, nu2, sg2, mk2, jo2, jx2, rfl, hB2⟩ := hq  -- X12_answerComes[R171, nI ((zof t nm)), lN nm, nI q]
      refine gT_n 17 ?_
      refine ⟨rfl, (Or.inr rfl), rfl, rfl, rfl, rfl, rfl, rfl, ?_⟩
      exact ⟨_, _, P, rfl, ri (congrArg nI (List.length_map qS)), hC, ⟨jTp, jF, jT, jSp, ⟨⟨lm, hp, hR⟩, jW.2⟩, jN, ⟨rfl, fun r hr => by cases hr; exact ⟨rfl, jN, rfl, jW.2.2.2.2.1, hB2⟩⟩, jC, jI0, jI1, jB, jL⟩⟩
  · obtain ⟨rfl, rfl⟩ := (pif_neg hh).mp hS
    refine gT_n 5 ?_
    refine ⟨rfl, gTM.use (m_inZ (n := 3) (by omega) rfl rfl rfl) (Nat.le_refl _) (fun r u hq => ?_)⟩
    obtain ⟨rfl, ⟨rfl, β1⟩ | ⟨rfl, β1⟩⟩ := hq  -- X12_in[L(so).toInt64, lN 0, lN 2]
    · refine gT_n 1 ?_
      refine ⟨fun _ => ?_, fun c => absurd c (by decide)⟩
      exact absurd β1 hh
    · refine gT_n 1 ?_
      refine ⟨fun c => absurd (by decide) c, fun _ => ?_⟩
      refine gT_n 2 ?_
      exact ⟨I, J, P, rfl, rfl, hC, hM0⟩
