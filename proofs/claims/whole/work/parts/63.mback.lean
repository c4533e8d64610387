/-! back: the reference -/
def setB (s : zS) (V : zW) : zS := (s.1, s.2.1, s.2.2.1, V, s.2.2.2.2.1, none, none, s.2.2.2.2.2.2.2)
def fBac (s : zS) (k x : Int32) (s' : zS) : Prop := pif (inZ 2 k) (∃ q, q < 2 ∧ k = nI q ∧ (match cond (Nat.beq q 0) s.2.2.2.2.2.2.2.1 s.2.2.2.2.2.2.2.2 with
  | none => x = -2 ∧ s' = s
  | some V => x = nI V.1.length ∧ s' = setB s V)) (x = -1 ∧ s' = s)
theorem m_bringsM {d a m t la : Nat} {K B : Nat → Int32} {I : Nat → Nat → Int32} {J : Nat → Nat → Int64} {P : Nat → Nat} (ha : SH[a]? = some (.inr (0, la))) (hm : m ≤ la) (hla : la ≤ 260) (ht : t + m ≤ 260) (hne : ¬ a = 212) (e1 : I 212 = K) (e2 : I a = B) : gTM d 274 [.ref 171, .ref a, .int (nI m), .int (nI t)] (gST I J P) (fun r u => r = none ∧ u = gST (m1 I a (cpr (fun j => K (t + j)) B m)) J P) := by
  subst e1 e2
  exact m_brings ha hm hla ht hne
set_option maxHeartbeats 4000000 in
theorem m_backT0 {d : Nat} {tp : Nat × (Nat → Nat)} {fn : Int32} {t : zT} {W V : zW} {nm : Nat} {pr : Option zP} {ch : Option (Int32 × Nat × Int32)} {i1 : Option zW} {I : Nat → Nat → Int32} {J : Nat → Nat → Int64} {P : Nat → Nat} (hO : sOK (tp, fn, t, W, nm, pr, ch, some V, i1)) (hC : RC (tp, fn, t, V, nm, none, none, some V, i1) I J P) (hM : RM (tp, fn, t, W, nm, pr, ch, some V, i1) I J) : gT (d + 14) 276 32 [(3, .int 0), (2, .int 0), (0, .ref 171), (1, .int 0)] [] (0, 0) (gST I J P) (pM (nI V.1.length) (tp, fn, t, V, nm, none, none, some V, i1)) := by
  obtain ⟨oTp, oT, oW, oN, oP, oI0, oI1⟩ := hO
  obtain ⟨jTp, jF, jT, jSp, jW, jN, jP, jC, jI0, jI1, jB, jL⟩ := hM
  dsimp only at oTp oT oW oN oP oI0 oI1 jTp jF jT jSp jW jN jP jC jI0 jI1
  have hV := jI0.2 V rfl
  have oV := oI0 V rfl
  have tail : gT (d + 14) 276 90 [(2, .int 0), (0, .ref 171), (1, .int 0)] [] (0, 0) (gST I (m1 (m1 J 174 (cpr (fun j => J 210 (0 + j)) (J 174) 25)) 205 (cpr (fun j => J 211 (0 + j)) (J 205) 5)) P) (pM (nI V.1.length) (tp, fn, t, V, nm, none, none, some V, i1)) := by
    refine gT_n 6 ?_
    refine ⟨rfl, rfl, rfl, gTM.use (m_bringsM (a := 175) (m := 25) (t := 0) (la := 25) (K := I 212) (B := I 175) rfl (by omega) (by omega) (by omega) (by omega) rfl rfl) (Nat.le_refl _) (fun r u hq => ?_)⟩
    obtain ⟨rfl, rfl⟩ := hq  -- X12_bringsPart[R171, R175, K25, K0]
    refine gT_n 8 ?_
    refine ⟨rfl, rfl, rfl, gTM.use (m_bringsM (a := 176) (m := 25) (t := 25) (la := 25) (K := I 212) (B := I 176) rfl (by omega) (by omega) (by omega) (by omega) rfl rfl) (Nat.le_refl _) (fun r u hq => ?_)⟩
    obtain ⟨rfl, rfl⟩ := hq  -- X12_bringsPart[R171, R176, K25, K25]
    refine gT_n 8 ?_
    refine ⟨rfl, rfl, rfl, gTM.use (m_bringsM (a := 177) (m := 12) (t := 50) (la := 12) (K := I 212) (B := I 177) rfl (by omega) (by omega) (by omega) (by omega) rfl rfl) (Nat.le_refl _) (fun r u hq => ?_)⟩
    obtain ⟨rfl, rfl⟩ := hq  -- X12_bringsPart[R171, R177, K12, K50]
    refine gT_n 8 ?_
    refine ⟨rfl, rfl, rfl, gTM.use (m_bringsM (a := 178) (m := 12) (t := 62) (la := 12) (K := I 212) (B := I 178) rfl (by omega) (by omega) (by omega) (by omega) rfl rfl) (Nat.le_refl _) (fun r u hq => ?_)⟩
    obtain ⟨rfl, rfl⟩ := hq  -- X12_bringsPart[R171, R178, K12, K62]
    refine gT_n 8 ?_
    refine ⟨rfl, rfl, rfl, gTM.use (m_bringsM (a := 179) (m := 4) (t := 74) (la := 4) (K := I 212) (B := I 179) rfl (by omega) (by omega) (by omega) (by omega) rfl rfl) (Nat.le_refl _) (fun r u hq => ?_)⟩
    obtain ⟨rfl, rfl⟩ := hq  -- X12_bringsPart[R171, R179, K4, K74]
    refine gT_n 8 ?_
    refine ⟨rfl, rfl, rfl, gTM.use (m_bringsM (a := 180) (m := 4) (t := 78) (la := 4) (K := I 212) (B := I 180) rfl (by omega) (by omega) (by omega) (by omega) rfl rfl) (Nat.le_refl _) (fun r u hq => ?_)⟩
    obtain ⟨rfl, rfl⟩ := hq  -- X12_bringsPart[R171, R180, K4, K78]
    refine gT_n 8 ?_
    refine ⟨rfl, rfl, rfl, gTM.use (m_bringsM (a := 181) (m := 8) (t := 82) (la := 8) (K := I 212) (B := I 181) rfl (by omega) (by omega) (by omega) (by omega) rfl rfl) (Nat.le_refl _) (fun r u hq => ?_)⟩
    obtain ⟨rfl, rfl⟩ := hq  -- X12_bringsPart[R171, R181, K8, K82]
    refine gT_n 8 ?_
    refine ⟨rfl, rfl, rfl, gTM.use (m_bringsM (a := 182) (m := 8) (t := 90) (la := 8) (K := I 212) (B := I 182) rfl (by omega) (by omega) (by omega) (by omega) rfl rfl) (Nat.le_refl _) (fun r u hq => ?_)⟩
    obtain ⟨rfl, rfl⟩ := hq  -- X12_bringsPart[R171, R182, K8, K90]
    refine gT_n 8 ?_
    refine ⟨rfl, rfl, rfl, gTM.use (m_bringsM (a := 183) (m := 4) (t := 98) (la := 4) (K := I 212) (B := I 183) rfl (by omega) (by omega) (by omega) (by omega) rfl rfl) (Nat.le_refl _) (fun r u hq => ?_)⟩
    obtain ⟨rfl, rfl⟩ := hq  -- X12_bringsPart[R171, R183, K4, K98]
    refine gT_n 8 ?_
    refine ⟨rfl, rfl, rfl, gTM.use (m_bringsM (a := 202) (m := 5) (t := 102) (la := 5) (K := I 212) (B := I 202) rfl (by omega) (by omega) (by omega) (by omega) rfl rfl) (Nat.le_refl _) (fun r u hq => ?_)⟩
    obtain ⟨rfl, rfl⟩ := hq  -- X12_bringsPart[R171, R202, K5, K102]
    refine gT_n 8 ?_
    refine ⟨rfl, rfl, rfl, gTM.use (m_bringsM (a := 203) (m := 5) (t := 107) (la := 5) (K := I 212) (B := I 203) rfl (by omega) (by omega) (by omega) (by omega) rfl rfl) (Nat.le_refl _) (fun r u hq => ?_)⟩
    obtain ⟨rfl, rfl⟩ := hq  -- X12_bringsPart[R171, R203, K5, K107]
    refine gT_n 8 ?_
    refine ⟨rfl, rfl, rfl, gTM.use (m_bringsM (a := 204) (m := 15) (t := 112) (la := 15) (K := I 212) (B := I 204) rfl (by omega) (by omega) (by omega) (by omega) rfl rfl) (Nat.le_refl _) (fun r u hq => ?_)⟩
    obtain ⟨rfl, rfl⟩ := hq  -- X12_bringsPart[R171, R204, K15, K112]
    refine gT_n 33 ?_
    refine ⟨rfl, rfl, (pk_in 127 260 (by decide) rfl), rfl, rfl, rfl, (pk_in 128 260 (by decide) rfl), rfl, rfl, rfl, (pk_in 129 260 (by decide) rfl), rfl, rfl, (Or.inl rfl), rfl, (Or.inl rfl), rfl, ?_⟩
    exact ⟨_, _, P, rfl, ri (show I 212 127 = _ from rlen hV.1), hC, ⟨jTp, jF, jT, jSp, mW_cc (show _ = I 212 127 from rfl) (show _ = I 212 128 from rfl) (show _ = I 212 129 from rfl) (mW_congr hV oT.2.1 oV (fun i hi => Eq.trans (cpr_in (f := fun j => J 210 (0 + j)) hi) (congrArg (J 210) (show 0 + i = 25 * 0 + i by omega))) (fun i hi => Eq.trans (cpr_in (f := fun j => I 212 (0 + j)) hi) (congrArg (I 212) (show 0 + i = 130 * 0 + i by omega))) (fun i hi => Eq.trans (cpr_in (f := fun j => I 212 (25 + j)) hi) (congrArg (I 212) (show 25 + i = 130 * 0 + (25 + i) by omega))) (fun i hi => Eq.trans (cpr_in (f := fun j => I 212 (50 + j)) hi) (congrArg (I 212) (show 50 + i = 130 * 0 + (50 + i) by omega))) (fun i hi => Eq.trans (cpr_in (f := fun j => I 212 (62 + j)) hi) (congrArg (I 212) (show 62 + i = 130 * 0 + (62 + i) by omega))) (fun i hi => Eq.trans (cpr_in (f := fun j => I 212 (74 + j)) hi) (congrArg (I 212) (show 74 + i = 130 * 0 + (74 + i) by omega))) (fun i hi => Eq.trans (cpr_in (f := fun j => I 212 (78 + j)) hi) (congrArg (I 212) (show 78 + i = 130 * 0 + (78 + i) by omega))) (fun i hi => Eq.trans (cpr_in (f := fun j => I 212 (82 + j)) hi) (congrArg (I 212) (show 82 + i = 130 * 0 + (82 + i) by omega))) (fun i hi => Eq.trans (cpr_in (f := fun j => I 212 (90 + j)) hi) (congrArg (I 212) (show 90 + i = 130 * 0 + (90 + i) by omega))) (fun i hi => Eq.trans (cpr_in (f := fun j => I 212 (98 + j)) hi) (congrArg (I 212) (show 98 + i = 130 * 0 + (98 + i) by omega))) (fun i hi => Eq.trans (cpr_in (f := fun j => I 212 (102 + j)) hi) (congrArg (I 212) (show 102 + i = 130 * 0 + (102 + i) by omega))) (fun i hi => Eq.trans (cpr_in (f := fun j => I 212 (107 + j)) hi) (congrArg (I 212) (show 107 + i = 130 * 0 + (107 + i) by omega))) (fun i hi => Eq.trans (cpr_in (f := fun j => I 212 (112 + j)) hi) (congrArg (I 212) (show 112 + i = 130 * 0 + (112 + i) by omega))) (fun i hi => Eq.trans (cpr_in (f := fun j => J 211 (0 + j)) hi) (congrArg (J 211) (show 0 + i = 5 * 0 + i by omega)))), jN, ⟨rfl, fun r hr => by cases hr⟩, ⟨rfl, fun r hr => by cases hr⟩, jI0, jI1, jB, jL⟩⟩
  have loop2 : ∀ i, i ≤ 5 → gT (d + 14) 276 63 [(3, .int (nI i)), (2, .int 0), (0, .ref 171), (1, .int 0)] [] (0, 0) (gST I (m1 (m1 J 174 (cpr (fun j => J 210 (0 + j)) (J 174) 25)) 205 (cpr (fun j => J 211 (0 + j)) (J 205) i)) P) (pM (nI V.1.length) (tp, fn, t, V, nm, none, none, some V, i1)) := by
    refine loopU 5 (fun i hi ih => ?_)
    refine gT_n 3 ?_
    refine pk_le 5 i (fun κ1 => ?_) (fun κ1 => ?_) (rfl) (rfl) (by omega) (by omega)
    · obtain rfl : i = 5 := by omega
      exact gT_k tail ⟨rfl, rfl, rfl, trivial⟩ rfl
    · refine gT_n 12 ?_
      refine ⟨rfl, rfl, rfl, (pk_in (0 + i) 10 (by omega) (pk_addE (n := 0) (k := i) (rfl) (rfl))), rfl, (pk_inS (m := 5) (k := i) (rfl) (by omega) (rfl)), ?_⟩
      refine gT_m1L (a := 205) (n := i) (X := (J 211 (0 + i))) (rfl) (by omega) ((rdJ (pk_addE (n := 0) (k := i) (rfl) (rfl)) (by omega) rfl)) ?_
      refine gT_n 2 ?_
      rw [show J 211 (0 + i) = (fun j => J 211 (0 + j)) i from rfl, cpr_updL]
      have e := ih (i + 1) (by omega) (by omega)
      rw [← nI_1] at e
      exact gT_k e ⟨rfl, rfl, rfl, rfl, trivial⟩ rfl
  have loop1 : ∀ i, i ≤ 25 → gT (d + 14) 276 32 [(3, .int (nI i)), (2, .int 0), (0, .ref 171), (1, .int 0)] [] (0, 0) (gST I (m1 J 174 (cpr (fun j => J 210 (0 + j)) (J 174) i)) P) (pM (nI V.1.length) (tp, fn, t, V, nm, none, none, some V, i1)) := by
    refine loopU 25 (fun i hi ih => ?_)
    refine gT_n 3 ?_
    refine pk_le 25 i (fun κ1 => ?_) (fun κ1 => ?_) (rfl) (rfl) (by omega) (by omega)
    · refine gT_n 2 ?_
      obtain rfl : i = 25 := by omega
      have e := loop2 0 (by omega)
      rw [cpr_0, show J 205 = (m1 J 174 (cpr (fun j => J 210 (0 + j)) (J 174) 25)) 205 from rfl, m1_self] at e
      exact gT_k e ⟨rfl, rfl, rfl, rfl, trivial⟩ rfl
    · refine gT_n 12 ?_
      refine ⟨rfl, rfl, rfl, (pk_in (0 + i) 50 (by omega) (pk_addE (n := 0) (k := i) (rfl) (rfl))), rfl, (pk_inS (m := 25) (k := i) (rfl) (by omega) (rfl)), ?_⟩
      refine gT_m1L (a := 174) (n := i) (X := (J 210 (0 + i))) (rfl) (by omega) ((rdJ (pk_addE (n := 0) (k := i) (rfl) (rfl)) (by omega) rfl)) ?_
      refine gT_n 2 ?_
      rw [show J 210 (0 + i) = (fun j => J 210 (0 + j)) i from rfl, cpr_updL]
      have e := ih (i + 1) (by omega) (by omega)
      rw [← nI_1] at e
      exact gT_k e ⟨rfl, rfl, rfl, rfl, trivial⟩ rfl
  have e := loop1 0 (by omega)
  rw [cpr_0, m1_self] at e
  exact e
set_option maxHeartbeats 4000000 in
theorem m_backT1 {d : Nat} {tp : Nat × (Nat → Nat)} {fn : Int32} {t : zT} {W V : zW} {nm : Nat} {pr : Option zP} {ch : Option (Int32 × Nat × Int32)} {i0 : Option zW} {I : Nat → Nat → Int32} {J : Nat → Nat → Int64} {P : Nat → Nat} (hO : sOK (tp, fn, t, W, nm, pr, ch, i0, some V)) (hC : RC (tp, fn, t, V, nm, none, none, i0, some V) I J P) (hM : RM (tp, fn, t, W, nm, pr, ch, i0, some V) I J) : gT (d + 14) 276 32 [(3, .int 0), (2, .int 130), (0, .ref 171), (1, .int 1)] [] (0, 0) (gST I J P) (pM (nI V.1.length) (tp, fn, t, V, nm, none, none, i0, some V)) := by
  obtain ⟨oTp, oT, oW, oN, oP, oI0, oI1⟩ := hO
  obtain ⟨jTp, jF, jT, jSp, jW, jN, jP, jC, jI0, jI1, jB, jL⟩ := hM
  dsimp only at oTp oT oW oN oP oI0 oI1 jTp jF jT jSp jW jN jP jC jI0 jI1
  have hV := jI1.2 V rfl
  have oV := oI1 V rfl
  have tail : gT (d + 14) 276 90 [(2, .int 130), (0, .ref 171), (1, .int 1)] [] (0, 0) (gST I (m1 (m1 J 174 (cpr (fun j => J 210 (25 + j)) (J 174) 25)) 205 (cpr (fun j => J 211 (5 + j)) (J 205) 5)) P) (pM (nI V.1.length) (tp, fn, t, V, nm, none, none, i0, some V)) := by
    refine gT_n 6 ?_
    refine ⟨rfl, rfl, rfl, gTM.use (m_bringsM (a := 175) (m := 25) (t := 130) (la := 25) (K := I 212) (B := I 175) rfl (by omega) (by omega) (by omega) (by omega) rfl rfl) (Nat.le_refl _) (fun r u hq => ?_)⟩
    obtain ⟨rfl, rfl⟩ := hq  -- X12_bringsPart[R171, R175, K25, K130]
    refine gT_n 8 ?_
    refine ⟨rfl, rfl, rfl, gTM.use (m_bringsM (a := 176) (m := 25) (t := 155) (la := 25) (K := I 212) (B := I 176) rfl (by omega) (by omega) (by omega) (by omega) rfl rfl) (Nat.le_refl _) (fun r u hq => ?_)⟩
    obtain ⟨rfl, rfl⟩ := hq  -- X12_bringsPart[R171, R176, K25, K155]
    refine gT_n 8 ?_
    refine ⟨rfl, rfl, rfl, gTM.use (m_bringsM (a := 177) (m := 12) (t := 180) (la := 12) (K := I 212) (B := I 177) rfl (by omega) (by omega) (by omega) (by omega) rfl rfl) (Nat.le_refl _) (fun r u hq => ?_)⟩
    obtain ⟨rfl, rfl⟩ := hq  -- X12_bringsPart[R171, R177, K12, K180]
    refine gT_n 8 ?_
    refine ⟨rfl, rfl, rfl, gTM.use (m_bringsM (a := 178) (m := 12) (t := 192) (la := 12) (K := I 212) (B := I 178) rfl (by omega) (by omega) (by omega) (by omega) rfl rfl) (Nat.le_refl _) (fun r u hq => ?_)⟩
    obtain ⟨rfl, rfl⟩ := hq  -- X12_bringsPart[R171, R178, K12, K192]
    refine gT_n 8 ?_
    refine ⟨rfl, rfl, rfl, gTM.use (m_bringsM (a := 179) (m := 4) (t := 204) (la := 4) (K := I 212) (B := I 179) rfl (by omega) (by omega) (by omega) (by omega) rfl rfl) (Nat.le_refl _) (fun r u hq => ?_)⟩
    obtain ⟨rfl, rfl⟩ := hq  -- X12_bringsPart[R171, R179, K4, K204]
    refine gT_n 8 ?_
    refine ⟨rfl, rfl, rfl, gTM.use (m_bringsM (a := 180) (m := 4) (t := 208) (la := 4) (K := I 212) (B := I 180) rfl (by omega) (by omega) (by omega) (by omega) rfl rfl) (Nat.le_refl _) (fun r u hq => ?_)⟩
    obtain ⟨rfl, rfl⟩ := hq  -- X12_bringsPart[R171, R180, K4, K208]
    refine gT_n 8 ?_
    refine ⟨rfl, rfl, rfl, gTM.use (m_bringsM (a := 181) (m := 8) (t := 212) (la := 8) (K := I 212) (B := I 181) rfl (by omega) (by omega) (by omega) (by omega) rfl rfl) (Nat.le_refl _) (fun r u hq => ?_)⟩
    obtain ⟨rfl, rfl⟩ := hq  -- X12_bringsPart[R171, R181, K8, K212]
    refine gT_n 8 ?_
    refine ⟨rfl, rfl, rfl, gTM.use (m_bringsM (a := 182) (m := 8) (t := 220) (la := 8) (K := I 212) (B := I 182) rfl (by omega) (by omega) (by omega) (by omega) rfl rfl) (Nat.le_refl _) (fun r u hq => ?_)⟩
    obtain ⟨rfl, rfl⟩ := hq  -- X12_bringsPart[R171, R182, K8, K220]
    refine gT_n 8 ?_
    refine ⟨rfl, rfl, rfl, gTM.use (m_bringsM (a := 183) (m := 4) (t := 228) (la := 4) (K := I 212) (B := I 183) rfl (by omega) (by omega) (by omega) (by omega) rfl rfl) (Nat.le_refl _) (fun r u hq => ?_)⟩
    obtain ⟨rfl, rfl⟩ := hq  -- X12_bringsPart[R171, R183, K4, K228]
    refine gT_n 8 ?_
    refine ⟨rfl, rfl, rfl, gTM.use (m_bringsM (a := 202) (m := 5) (t := 232) (la := 5) (K := I 212) (B := I 202) rfl (by omega) (by omega) (by omega) (by omega) rfl rfl) (Nat.le_refl _) (fun r u hq => ?_)⟩
    obtain ⟨rfl, rfl⟩ := hq  -- X12_bringsPart[R171, R202, K5, K232]
    refine gT_n 8 ?_
    refine ⟨rfl, rfl, rfl, gTM.use (m_bringsM (a := 203) (m := 5) (t := 237) (la := 5) (K := I 212) (B := I 203) rfl (by omega) (by omega) (by omega) (by omega) rfl rfl) (Nat.le_refl _) (fun r u hq => ?_)⟩
    obtain ⟨rfl, rfl⟩ := hq  -- X12_bringsPart[R171, R203, K5, K237]
    refine gT_n 8 ?_
    refine ⟨rfl, rfl, rfl, gTM.use (m_bringsM (a := 204) (m := 15) (t := 242) (la := 15) (K := I 212) (B := I 204) rfl (by omega) (by omega) (by omega) (by omega) rfl rfl) (Nat.le_refl _) (fun r u hq => ?_)⟩
    obtain ⟨rfl, rfl⟩ := hq  -- X12_bringsPart[R171, R204, K15, K242]
    refine gT_n 33 ?_
    refine ⟨rfl, rfl, (pk_in 257 260 (by decide) rfl), rfl, rfl, rfl, (pk_in 258 260 (by decide) rfl), rfl, rfl, rfl, (pk_in 259 260 (by decide) rfl), rfl, rfl, (Or.inl rfl), rfl, (Or.inl rfl), rfl, ?_⟩
    exact ⟨_, _, P, rfl, ri (show I 212 257 = _ from rlen hV.1), hC, ⟨jTp, jF, jT, jSp, mW_cc (show _ = I 212 257 from rfl) (show _ = I 212 258 from rfl) (show _ = I 212 259 from rfl) (mW_congr hV oT.2.1 oV (fun i hi => Eq.trans (cpr_in (f := fun j => J 210 (25 + j)) hi) (congrArg (J 210) (show 25 + i = 25 * 1 + i by omega))) (fun i hi => Eq.trans (cpr_in (f := fun j => I 212 (130 + j)) hi) (congrArg (I 212) (show 130 + i = 130 * 1 + i by omega))) (fun i hi => Eq.trans (cpr_in (f := fun j => I 212 (155 + j)) hi) (congrArg (I 212) (show 155 + i = 130 * 1 + (25 + i) by omega))) (fun i hi => Eq.trans (cpr_in (f := fun j => I 212 (180 + j)) hi) (congrArg (I 212) (show 180 + i = 130 * 1 + (50 + i) by omega))) (fun i hi => Eq.trans (cpr_in (f := fun j => I 212 (192 + j)) hi) (congrArg (I 212) (show 192 + i = 130 * 1 + (62 + i) by omega))) (fun i hi => Eq.trans (cpr_in (f := fun j => I 212 (204 + j)) hi) (congrArg (I 212) (show 204 + i = 130 * 1 + (74 + i) by omega))) (fun i hi => Eq.trans (cpr_in (f := fun j => I 212 (208 + j)) hi) (congrArg (I 212) (show 208 + i = 130 * 1 + (78 + i) by omega))) (fun i hi => Eq.trans (cpr_in (f := fun j => I 212 (212 + j)) hi) (congrArg (I 212) (show 212 + i = 130 * 1 + (82 + i) by omega))) (fun i hi => Eq.trans (cpr_in (f := fun j => I 212 (220 + j)) hi) (congrArg (I 212) (show 220 + i = 130 * 1 + (90 + i) by omega))) (fun i hi => Eq.trans (cpr_in (f := fun j => I 212 (228 + j)) hi) (congrArg (I 212) (show 228 + i = 130 * 1 + (98 + i) by omega))) (fun i hi => Eq.trans (cpr_in (f := fun j => I 212 (232 + j)) hi) (congrArg (I 212) (show 232 + i = 130 * 1 + (102 + i) by omega))) (fun i hi => Eq.trans (cpr_in (f := fun j => I 212 (237 + j)) hi) (congrArg (I 212) (show 237 + i = 130 * 1 + (107 + i) by omega))) (fun i hi => Eq.trans (cpr_in (f := fun j => I 212 (242 + j)) hi) (congrArg (I 212) (show 242 + i = 130 * 1 + (112 + i) by omega))) (fun i hi => Eq.trans (cpr_in (f := fun j => J 211 (5 + j)) hi) (congrArg (J 211) (show 5 + i = 5 * 1 + i by omega)))), jN, ⟨rfl, fun r hr => by cases hr⟩, ⟨rfl, fun r hr => by cases hr⟩, jI0, jI1, jB, jL⟩⟩
  have loop2 : ∀ i, i ≤ 5 → gT (d + 14) 276 63 [(3, .int (nI i)), (2, .int 130), (0, .ref 171), (1, .int 1)] [] (0, 0) (gST I (m1 (m1 J 174 (cpr (fun j => J 210 (25 + j)) (J 174) 25)) 205 (cpr (fun j => J 211 (5 + j)) (J 205) i)) P) (pM (nI V.1.length) (tp, fn, t, V, nm, none, none, i0, some V)) := by
    refine loopU 5 (fun i hi ih => ?_)
    refine gT_n 3 ?_
    refine pk_le 5 i (fun κ1 => ?_) (fun κ1 => ?_) (rfl) (rfl) (by omega) (by omega)
    · obtain rfl : i = 5 := by omega
      exact gT_k tail ⟨rfl, rfl, rfl, trivial⟩ rfl
    · refine gT_n 12 ?_
      refine ⟨rfl, rfl, rfl, (pk_in (5 + i) 10 (by omega) (pk_addE (n := 5) (k := i) (rfl) (rfl))), rfl, (pk_inS (m := 5) (k := i) (rfl) (by omega) (rfl)), ?_⟩
      refine gT_m1L (a := 205) (n := i) (X := (J 211 (5 + i))) (rfl) (by omega) ((rdJ (pk_addE (n := 5) (k := i) (rfl) (rfl)) (by omega) rfl)) ?_
      refine gT_n 2 ?_
      rw [show J 211 (5 + i) = (fun j => J 211 (5 + j)) i from rfl, cpr_updL]
      have e := ih (i + 1) (by omega) (by omega)
      rw [← nI_1] at e
      exact gT_k e ⟨rfl, rfl, rfl, rfl, trivial⟩ rfl
  have loop1 : ∀ i, i ≤ 25 → gT (d + 14) 276 32 [(3, .int (nI i)), (2, .int 130), (0, .ref 171), (1, .int 1)] [] (0, 0) (gST I (m1 J 174 (cpr (fun j => J 210 (25 + j)) (J 174) i)) P) (pM (nI V.1.length) (tp, fn, t, V, nm, none, none, i0, some V)) := by
    refine loopU 25 (fun i hi ih => ?_)
    refine gT_n 3 ?_
    refine pk_le 25 i (fun κ1 => ?_) (fun κ1 => ?_) (rfl) (rfl) (by omega) (by omega)
    · refine gT_n 2 ?_
      obtain rfl : i = 25 := by omega
      have e := loop2 0 (by omega)
      rw [cpr_0, show J 205 = (m1 J 174 (cpr (fun j => J 210 (25 + j)) (J 174) 25)) 205 from rfl, m1_self] at e
      exact gT_k e ⟨rfl, rfl, rfl, rfl, trivial⟩ rfl
    · refine gT_n 12 ?_
      refine ⟨rfl, rfl, rfl, (pk_in (25 + i) 50 (by omega) (pk_addE (n := 25) (k := i) (rfl) (rfl))), rfl, (pk_inS (m := 25) (k := i) (rfl) (by omega) (rfl)), ?_⟩
      refine gT_m1L (a := 174) (n := i) (X := (J 210 (25 + i))) (rfl) (by omega) ((rdJ (pk_addE (n := 25) (k := i) (rfl) (rfl)) (by omega) rfl)) ?_
      refine gT_n 2 ?_
      rw [show J 210 (25 + i) = (fun j => J 210 (25 + j)) i from rfl, cpr_updL]
      have e := ih (i + 1) (by omega) (by omega)
      rw [← nI_1] at e
      exact gT_k e ⟨rfl, rfl, rfl, rfl, trivial⟩ rfl
  have e := loop1 0 (by omega)
  rw [cpr_0, m1_self] at e
  exact e
theorem o_back_m {d : Nat} {s s' : zS} {x : Int32} {I : Nat → Nat → Int32} {J : Nat → Nat → Int64} {P : Nat → Nat} {k : Int32} (hO : sOK s) (hS : (fBac s k) x s') (hC : RC s' I J P) (hM : RM s I J) : gTM (d + 14) 276 [.ref 171, .int k] (gST I J P) (pM x s') := by
  obtain ⟨tp, fn, t, W, nm, pr, ch, i0, i1⟩ := s
  have hO0 := hO
  have hM0 := hM
  obtain ⟨oTp, oT, oW, oN, oP, oI0, oI1⟩ := hO
  obtain ⟨jTp, jF, jT, jSp, jW, jN, jP, jC, jI0, jI1, jB, jL⟩ := hM
  dsimp only at oTp oT oW oN oP oI0 oI1 jTp jF jT jSp jW jN jP jC jI0 jI1
  try dsimp only at hS
  by_cases hh : inZ 2 k
  · have hT := (pif_pos hh).mp hS
    clear hS
    obtain ⟨q, hq, rfl, hS⟩ := hT
    have : q = 0 ∨ q = 1 := by omega
    rcases this with rfl | rfl
    · cases i0 with
      | none =>
        obtain ⟨rfl, rfl⟩ := hS
        refine gT_n 5 ?_
        refine ⟨rfl, gTM.use (m_in1 (x := 0) (z := 1) rfl rfl (by decide)) (Nat.le_refl _) (fun r u hq => ?_)⟩
        obtain ⟨rfl, rfl⟩ := hq  -- X12_in[i2l(K0), lN 0, lN 1]
        refine gT_n 1 ?_
        refine ⟨fun _ => ?_, fun c => absurd c (by decide)⟩
        refine gT_n 5 ?_
        refine ⟨rfl, (Or.inr rfl), (pk_in 0 2 (by decide) rfl), fun c => absurd c (kpT (p := fun z : Int32 => ¬ (¬ z = 0)) (show _ = (0 : Int32) from jI0.1) (by decide)), fun _ => ?_⟩
        refine gT_n 2 ?_
        exact ⟨I, J, P, rfl, rfl, hC, hM0⟩
      | some V =>
        obtain ⟨rfl, rfl⟩ := hS
        refine gT_n 5 ?_
        refine ⟨rfl, gTM.use (m_in1 (x := 0) (z := 1) rfl rfl (by decide)) (Nat.le_refl _) (fun r u hq => ?_)⟩
        obtain ⟨rfl, rfl⟩ := hq  -- X12_in[i2l(K0), lN 0, lN 1]
        refine gT_n 1 ?_
        refine ⟨fun _ => ?_, fun c => absurd c (by decide)⟩
        refine gT_n 5 ?_
        refine ⟨rfl, (Or.inr rfl), (pk_in 0 2 (by decide) rfl), fun _ => ?_, fun c => absurd c (kpT (p := fun z : Int32 => ¬ z = 0) (show _ = (1 : Int32) from jI0.1) (by decide))⟩
        refine gT_n 6 ?_
        exact gT_k (m_backT0 hO0 hC hM0) ⟨rfl, rfl, rfl, rfl, trivial⟩ rfl
    · cases i1 with
      | none =>
        obtain ⟨rfl, rfl⟩ := hS
        refine gT_n 5 ?_
        refine ⟨rfl, gTM.use (m_in1 (x := 0) (z := 1) rfl rfl (by decide)) (Nat.le_refl _) (fun r u hq => ?_)⟩
        obtain ⟨rfl, rfl⟩ := hq  -- X12_in[i2l(K1), lN 0, lN 1]
        refine gT_n 1 ?_
        refine ⟨fun _ => ?_, fun c => absurd c (by decide)⟩
        refine gT_n 5 ?_
        refine ⟨rfl, (Or.inr rfl), (pk_in 1 2 (by decide) rfl), fun c => absurd c (kpT (p := fun z : Int32 => ¬ (¬ z = 0)) (show _ = (0 : Int32) from jI1.1) (by decide)), fun _ => ?_⟩
        refine gT_n 2 ?_
        exact ⟨I, J, P, rfl, rfl, hC, hM0⟩
      | some V =>
        obtain ⟨rfl, rfl⟩ := hS
        refine gT_n 5 ?_
        refine ⟨rfl, gTM.use (m_in1 (x := 0) (z := 1) rfl rfl (by decide)) (Nat.le_refl _) (fun r u hq => ?_)⟩
        obtain ⟨rfl, rfl⟩ := hq  -- X12_in[i2l(K1), lN 0, lN 1]
        refine gT_n 1 ?_
        refine ⟨fun _ => ?_, fun c => absurd c (by decide)⟩
        refine gT_n 5 ?_
        refine ⟨rfl, (Or.inr rfl), (pk_in 1 2 (by decide) rfl), fun _ => ?_, fun c => absurd c (kpT (p := fun z : Int32 => ¬ z = 0) (show _ = (1 : Int32) from jI1.1) (by decide))⟩
        refine gT_n 6 ?_
        exact gT_k (m_backT1 hO0 hC hM0) ⟨rfl, rfl, rfl, rfl, trivial⟩ rfl
  · obtain ⟨rfl, rfl⟩ := (pif_neg hh).mp hS
    refine gT_n 5 ?_
    refine ⟨rfl, gTM.use (m_inZ (n := 2) (by omega) rfl rfl rfl) (Nat.le_refl _) (fun r u hq => ?_)⟩
    obtain ⟨rfl, ⟨rfl, β1⟩ | ⟨rfl, β1⟩⟩ := hq  -- X12_in[L(k).toInt64, lN 0, lN 1]
    · refine gT_n 1 ?_
      refine ⟨fun _ => ?_, fun c => absurd c (by decide)⟩
      exact absurd β1 hh
    · refine gT_n 1 ?_
      refine ⟨fun c => absurd (by decide) c, fun _ => ?_⟩
      refine gT_n 2 ?_
      exact ⟨I, J, P, rfl, rfl, hC, hM0⟩
