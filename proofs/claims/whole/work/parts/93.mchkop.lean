/-! a check: the reference's call -/
theorem o_check_m {d : Nat} {s s' : zS} {x : Int32} {I : Nat → Nat → Int32} {J : Nat → Nat → Int64} {P : Nat → Nat} (hO : sOK s) (hS : (fChk s) x s') (hC : RC s' I J P) (hM : RM s I J) : gTM (d + 14) 257 [.ref 171] (gST I J P) (pM x s') := by
  obtain ⟨tp, fn, t, W, nm, pr, ch, i0, i1⟩ := s
  have hO0 := hO
  have hM0 := hM
  obtain ⟨oTp, oT, oW, oN, oP, oI0, oI1⟩ := hO
  obtain ⟨jTp, jF, jT, jSp, jW, jN, jP, jC, jI0, jI1, jB, jL⟩ := hM
  dsimp only at oTp oT oW oN oP oI0 oI1 jTp jF jT jSp jW jN jP jC jI0 jI1
  try dsimp only at hS
  have h4 := oT.2.1
  cases pr with
  | none =>
    obtain ⟨rfl, rfl⟩ := hS
    refine gT_n 3 ?_
    refine ⟨rfl, fun c => absurd c (kpT (p := fun z : Int32 => ¬ (¬ z = 0)) (show _ = (0 : Int32) from jP.1) (by decide)), fun _ => ?_⟩
    refine gT_n 2 ?_
    exact ⟨I, J, P, rfl, rfl, hC, hM0⟩
  | some p =>
    obtain ⟨v, z, C', n', hck, hE', rfl⟩ := hS
    try dsimp only at hck hE'
    obtain ⟨h10, hoI, oPn, oP4, oPz⟩ := oP p rfl
    have mp := jP.2 p rfl
    rw [oPz] at hck
    have hzz : zof t p.2.1 < t.1 := zof_lt oT _
    obtain ⟨m, kn0, x1, kn1, C1, n1, x0, kn', hm, hm0, hnz, hky, haf, hfin⟩ := hck
    have hE : eOK t W.2.2.2.2.2 := ⟨oW.2.2.2.2.1, oW.2.2.2.2.2⟩
    have hH : nH I (J 205) W.2.2.2.2.2 := jW.2.2.2.2.2
    have hS : nS t (W.2.2.1 0) W.2.2.2.2.1 p.2.2.2.2 p.1 I J := ⟨jT, ⟨(jW.2.2.1 0 (by decide)).1, oW.2.2.1 0 (by decide), fun i hi => by have := ((jW.2.2.1 0 (by decide)).2 i hi).1; rw [Nat.mul_zero, Nat.zero_add] at this; exact this⟩, jW.2.2.2.2.1, mp.2.2.2.1, mp.1, mp.2.2.2.2, h10, hoI, jSp⟩
    have key : gTM (d + 14) 257 [.ref 171] (gST (nM I I) (m1 J 205 (J 205)) P) (pM x (setC (tp, fn, t, W, nm, some p, ch, i0, i1) C' (v, z, nI n'))) := by
      refine gT_n 3 ?_
      refine ⟨rfl, fun _ => ?_, fun c => absurd c (kpT (p := fun z : Int32 => ¬ z = 0) (show _ = (1 : Int32) from jP.1) (by decide))⟩
      refine gT_n 3 ?_
      refine ⟨rfl, (Or.inr rfl), ?_⟩
      refine gT_nP rfl (X := 1) (rfl) ?_
      refine gT_n 3 ?_
      refine ⟨rfl, ?_⟩
      refine gT_nP rfl (X := (-4)) (rfl) ?_
      refine gT_n 3 ?_
      refine ⟨rfl, ?_⟩
      refine gT_nP rfl (X := 0) (rfl) ?_
      refine gT_n 5 ?_
      refine ⟨rfl, rfl, rfl, gTM.useA (m_zoneIn (I := nM I _) (J := m1 J 205 _) oT jT oPn) (Nat.le_refl _) (aR (aL (mp.2.1) (rfl))) (fun r u hq => ?_)⟩
      obtain ⟨rfl, rfl⟩ := hq  -- X12_zoneIn[R171, lN p.2.1]
      refine gT_n 1 ?_
      refine ⟨rfl, rfl, gTM.use (m_chainsN oT jT hzz hm hm0 hnz) (Nat.le_refl _) (fun r u hq => ?_)⟩
      obtain ⟨rfl, A, rfl, hA⟩ := hq  -- X12_chains[R171, nI ((zof t p.2.1))]
      refine gT_n 4 ?_
      have e := m_checkL (d := d + 4) (P := P) oT hS oP4 hzz mp.2.2.1 oPn mp.2.1 hm hfin hm0 m 0 (by omega) hnz (m1 (gupI (gupI (gupI (gupI I 171 57 1) 171 58 (-4)) 171 60 0) 171 51 (nI (m + 1))) 201 A) (J 205) W.2.2.2.2.2 kn0 0 x1 kn1 C1 n1 rfl hA hH hE (fun h => absurd h (by omega)) rfl rfl rfl (by rw [hm0]; exact hky) (by rw [Nat.zero_add]; exact haf)
      refine gT_k (gT_mono _ _ _ _ _ _ _ _ _ (fun r u h => ?_) e) ⟨rfl, rfl, rfl, trivial⟩ rfl
      obtain ⟨X', Y', h1, h2, h3, h4, h5, h6, h7⟩ := h
      exact ⟨nM I X', m1 J 205 Y', P, h1, h2, hC, ⟨jTp, jF, jT, jSp, ⟨jW.1, jW.2.1, jW.2.2.1, jW.2.2.2.1, jW.2.2.2.2.1, h3⟩, jN, jP, ⟨h4, fun q hq => by cases hq; exact ⟨h5, h6, h7⟩⟩, jI0, jI1, jB, jL⟩⟩
    rw [nM_self, m1_self] at key
    exact key
