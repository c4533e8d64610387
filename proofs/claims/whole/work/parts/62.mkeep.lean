/-! keep: the reference -/
theorem mW_congr {rc ck ec : Int32} {jn jn' : Nat → Int64} {so va ks ss km ac ds dd dm ez ek ey so' va' ks' ss' km' ac' ds' dd' dm' ez' ek' ey' : Nat → Int32} {jt jt' : Nat → Int64} {t : zT} {W : zW} (h : mW rc ck ec jn so va ks ss km ac ds dd dm ez ek ey jt t W) (ht : t.1 ≤ 4) (hO : wOK t W)
  (e0 : ∀ i, i < 25 → jn' i = jn i) (e1 : ∀ i, i < 25 → so' i = so i) (e2 : ∀ i, i < 25 → va' i = va i) (e3 : ∀ i, i < 12 → ks' i = ks i) (e4 : ∀ i, i < 12 → ss' i = ss i) (e5 : ∀ i, i < 4 → km' i = km i) (e6 : ∀ i, i < 4 → ac' i = ac i) (e7 : ∀ i, i < 8 → ds' i = ds i) (e8 : ∀ i, i < 8 → dd' i = dd i) (e9 : ∀ i, i < 4 → dm' i = dm i) (e10 : ∀ i, i < 5 → ez' i = ez i) (e11 : ∀ i, i < 5 → ek' i = ek i) (e12 : ∀ i, i < 15 → ey' i = ey i) (e13 : ∀ i, i < 5 → jt' i = jt i) : mW rc ck ec jn' so' va' ks' ss' km' ac' ds' dd' dm' ez' ek' ey' jt' t W := by
  obtain ⟨⟨lm, hp, hm⟩, hK, hD, hA, hc, hE⟩ := h
  have hl := hp.length_eq
  have h24 := hO.1.1
  have hE4 := hO.2.2.2.2.1
  refine ⟨⟨lm, hp, hm.1, fun i hi => ?_⟩, fun z hz => ⟨?_, fun i hi => ?_⟩, fun z hz => ⟨?_, fun i hi => ?_⟩, fun z hz => ?_, hc, hE.1, fun i hi => ?_⟩
  · rw [e0 i (by omega), e1 i (by omega), e2 i (by omega)]; exact hm.2 i hi
  · rw [e5 z hz]; exact (hK z hz).1
  · have := hO.2.1 z hz
    rw [e3 _ (by omega), e4 _ (by omega)]; exact (hK z hz).2 i hi
  · rw [e9 z hz]; exact (hD z hz).1
  · have := hO.2.2.1 z hz
    rw [e7 _ (by omega), e8 _ (by omega)]; exact (hD z hz).2 i hi
  · rw [e6 z (by omega)]; exact hA z hz
  · rw [e10 i (by omega), e11 i (by omega), e12 _ (by omega), e12 _ (by omega), e12 _ (by omega), e13 i (by omega)]; exact hE.2 i hi
def setM (s : zS) (q : Nat) (o : Option zW) : zS := (s.1, s.2.1, s.2.2.1, s.2.2.2.1, s.2.2.2.2.1, s.2.2.2.2.2.1, s.2.2.2.2.2.2.1, cond (Nat.beq q 0) o s.2.2.2.2.2.2.2.1, cond (Nat.beq q 0) s.2.2.2.2.2.2.2.2 o)
def fKee (s : zS) (k x : Int32) (s' : zS) : Prop := pif (inZ 2 k) (∃ q, q < 2 ∧ k = nI q ∧ x = bI (cond (Nat.beq q 0) s.2.2.2.2.2.2.2.1 s.2.2.2.2.2.2.2.2).isSome ∧ s' = setM s q (some s.2.2.2.1)) (x = -1 ∧ s' = s)
theorem upd_ne {F : Nat → Int32} {z j : Nat} {n : Int32} (h : ¬ j = z) : upd F z n j = F j := if_neg h
theorem m1_m1 {α : Type} {I : Nat → α} {a : Nat} {A B : α} : m1 (m1 I a A) a B = m1 I a B := by
  funext o
  by_cases h : o = a
  · subst h; rw [m1_b, m1_b]
  · rw [m1_n h, m1_n h, m1_n h]
theorem m_keepsM {d a m t la : Nat} {A : Nat → Int32} {I : Nat → Nat → Int32} {J : Nat → Nat → Int64} {P : Nat → Nat} (ha : SH[a]? = some (.inr (0, la))) (hm : m ≤ la) (hla : la ≤ 260) (ht : t + m ≤ 260) (hne : ¬ a = 212) : gTM d 273 [.ref 171, .ref a, .int (nI m), .int (nI t)] (gST (m1 I 212 A) J P) (fun r u => r = none ∧ u = gST (m1 I 212 (cpo (I a) A t m)) J P) := by
  refine gTM.use (m_keeps (I := m1 I 212 A) (J := J) (P := P) ha hm hla ht hne) (Nat.le_refl _) (fun r u hq => ?_)
  obtain ⟨rfl, rfl⟩ := hq
  exact ⟨rfl, by rw [m1_m1, m1_b, m1_n hne]⟩
theorem mW_cc {rc ck ec rc2 ck2 ec2 : Int32} {jn : Nat → Int64} {so va ks ss km ac ds dd dm ez ek ey : Nat → Int32} {jt : Nat → Int64} {t : zT} {W : zW} (a : rc2 = rc) (b : ck2 = ck) (c : ec2 = ec) (h : mW rc ck ec jn so va ks ss km ac ds dd dm ez ek ey jt t W) : mW rc2 ck2 ec2 jn so va ks ss km ac ds dd dm ez ek ey jt t W := by
  subst a b c; exact h
theorem gT_m1L {d y pc a n : Nat} {L : gL} {st : List Value} {cu : Nat × Nat} {I : Nat → Nat → Int32} {J : Nat → Nat → Int64} {P : Nat → Nat} {A : Nat → Int64} {Q : Option Value → gW → Prop} {T : Int32} {x X : Int64} (e : T = nI n) (hn : n < 2 ^ 31) (ev : x = X) (h : gT d y pc L st cu (gST I (m1 J a (vp_updL A n X)) P) Q) : gT d y pc L st cu ((gST I (m1 J a A) P).1, (gST I (m1 J a A) P).2.1, gupL (gST I (m1 J a A) P).2.2.1 a T.toNatClampNeg x, (gST I (m1 J a A) P).2.2.2) Q := by
  subst ev
  rw [e, nI_clamp hn]
  show gT d y pc L st cu (gST I (gupL (m1 J a A) a n x) P) Q
  rw [gup_m1L]; exact h
set_option maxHeartbeats 4000000 in
theorem m_keepT0 {d : Nat} {x : Int32} {tp : Nat × (Nat → Nat)} {fn : Int32} {t : zT} {W : zW} {nm : Nat} {pr : Option zP} {ch : Option (Int32 × Nat × Int32)} {i0 i1 : Option zW} {I : Nat → Nat → Int32} {J : Nat → Nat → Int64} {P : Nat → Nat} (hO : sOK (tp, fn, t, W, nm, pr, ch, i0, i1)) (hC : RC (tp, fn, t, W, nm, pr, ch, some W, i1) I J P) (hM : RM (tp, fn, t, W, nm, pr, ch, i0, i1) I J) : gT (d + 14) 275 43 [(4, .int 0), (3, .int 0), (2, .int x), (0, .ref 171), (1, .int 0)] [] (0, 0) (gST (gupI I 209 0 1) J P) (pM x (tp, fn, t, W, nm, pr, ch, some W, i1)) := by
  obtain ⟨oTp, oT, oW, oN, oP, oI0, oI1⟩ := hO
  obtain ⟨jTp, jF, jT, jSp, jW, jN, jP, jC, jI0, jI1, jB, jL⟩ := hM
  dsimp only at oTp oT oW oN oP oI0 oI1 jTp jF jT jSp jW jN jP jC jI0 jI1
  have tail : gT (d + 14) 275 108 [(3, .int 0), (2, .int x), (0, .ref 171), (1, .int 0)] [] (0, 0) (gST (m1 (gupI I 209 0 1) 212 (I 212)) (m1 (m1 J 210 (cpo (J 174) (J 210) 0 25)) 211 (cpo (J 205) (J 211) 0 5)) P) (pM x (tp, fn, t, W, nm, pr, ch, some W, i1)) := by
    refine gT_n 6 ?_
    refine ⟨rfl, rfl, rfl, gTM.use (m_keepsM (a := 175) (m := 25) (t := 0) (la := 25) rfl (by omega) (by omega) (by omega) (by omega)) (Nat.le_refl _) (fun r u hq => ?_)⟩
    obtain ⟨rfl, rfl⟩ := hq  -- X12_keepsPart[R171, R175, K25, K0]
    refine gT_n 8 ?_
    refine ⟨rfl, rfl, rfl, gTM.use (m_keepsM (a := 176) (m := 25) (t := 25) (la := 25) rfl (by omega) (by omega) (by omega) (by omega)) (Nat.le_refl _) (fun r u hq => ?_)⟩
    obtain ⟨rfl, rfl⟩ := hq  -- X12_keepsPart[R171, R176, K25, K25]
    refine gT_n 8 ?_
    refine ⟨rfl, rfl, rfl, gTM.use (m_keepsM (a := 177) (m := 12) (t := 50) (la := 12) rfl (by omega) (by omega) (by omega) (by omega)) (Nat.le_refl _) (fun r u hq => ?_)⟩
    obtain ⟨rfl, rfl⟩ := hq  -- X12_keepsPart[R171, R177, K12, K50]
    refine gT_n 8 ?_
    refine ⟨rfl, rfl, rfl, gTM.use (m_keepsM (a := 178) (m := 12) (t := 62) (la := 12) rfl (by omega) (by omega) (by omega) (by omega)) (Nat.le_refl _) (fun r u hq => ?_)⟩
    obtain ⟨rfl, rfl⟩ := hq  -- X12_keepsPart[R171, R178, K12, K62]
    refine gT_n 8 ?_
    refine ⟨rfl, rfl, rfl, gTM.use (m_keepsM (a := 179) (m := 4) (t := 74) (la := 4) rfl (by omega) (by omega) (by omega) (by omega)) (Nat.le_refl _) (fun r u hq => ?_)⟩
    obtain ⟨rfl, rfl⟩ := hq  -- X12_keepsPart[R171, R179, K4, K74]
    refine gT_n 8 ?_
    refine ⟨rfl, rfl, rfl, gTM.use (m_keepsM (a := 180) (m := 4) (t := 78) (la := 4) rfl (by omega) (by omega) (by omega) (by omega)) (Nat.le_refl _) (fun r u hq => ?_)⟩
    obtain ⟨rfl, rfl⟩ := hq  -- X12_keepsPart[R171, R180, K4, K78]
    refine gT_n 8 ?_
    refine ⟨rfl, rfl, rfl, gTM.use (m_keepsM (a := 181) (m := 8) (t := 82) (la := 8) rfl (by omega) (by omega) (by omega) (by omega)) (Nat.le_refl _) (fun r u hq => ?_)⟩
    obtain ⟨rfl, rfl⟩ := hq  -- X12_keepsPart[R171, R181, K8, K82]
    refine gT_n 8 ?_
    refine ⟨rfl, rfl, rfl, gTM.use (m_keepsM (a := 182) (m := 8) (t := 90) (la := 8) rfl (by omega) (by omega) (by omega) (by omega)) (Nat.le_refl _) (fun r u hq => ?_)⟩
    obtain ⟨rfl, rfl⟩ := hq  -- X12_keepsPart[R171, R182, K8, K90]
    refine gT_n 8 ?_
    refine ⟨rfl, rfl, rfl, gTM.use (m_keepsM (a := 183) (m := 4) (t := 98) (la := 4) rfl (by omega) (by omega) (by omega) (by omega)) (Nat.le_refl _) (fun r u hq => ?_)⟩
    obtain ⟨rfl, rfl⟩ := hq  -- X12_keepsPart[R171, R183, K4, K98]
    refine gT_n 8 ?_
    refine ⟨rfl, rfl, rfl, gTM.use (m_keepsM (a := 202) (m := 5) (t := 102) (la := 5) rfl (by omega) (by omega) (by omega) (by omega)) (Nat.le_refl _) (fun r u hq => ?_)⟩
    obtain ⟨rfl, rfl⟩ := hq  -- X12_keepsPart[R171, R202, K5, K102]
    refine gT_n 8 ?_
    refine ⟨rfl, rfl, rfl, gTM.use (m_keepsM (a := 203) (m := 5) (t := 107) (la := 5) rfl (by omega) (by omega) (by omega) (by omega)) (Nat.le_refl _) (fun r u hq => ?_)⟩
    obtain ⟨rfl, rfl⟩ := hq  -- X12_keepsPart[R171, R203, K5, K107]
    refine gT_n 8 ?_
    refine ⟨rfl, rfl, rfl, gTM.use (m_keepsM (a := 204) (m := 15) (t := 112) (la := 15) rfl (by omega) (by omega) (by omega) (by omega)) (Nat.le_refl _) (fun r u hq => ?_)⟩
    obtain ⟨rfl, rfl⟩ := hq  -- X12_keepsPart[R171, R204, K15, K112]
    refine gT_n 8 ?_
    refine ⟨rfl, rfl, rfl, (pk_inS (m := 260) (k := 127) (rfl) (by decide) (rfl)), ?_⟩
    refine gT_m1 (a := 212) (n := 127) (X := (I 171 7)) (rfl) (by omega) (rfl) ?_
    refine gT_n 8 ?_
    refine ⟨rfl, rfl, rfl, (pk_inS (m := 260) (k := 128) (rfl) (by decide) (rfl)), ?_⟩
    refine gT_m1 (a := 212) (n := 128) (X := (I 171 15)) (rfl) (by omega) (rfl) ?_
    refine gT_n 8 ?_
    refine ⟨rfl, rfl, rfl, (pk_inS (m := 260) (k := 129) (rfl) (by decide) (rfl)), ?_⟩
    refine gT_m1 (a := 212) (n := 129) (X := (I 171 56)) (rfl) (by omega) (rfl) ?_
    refine gT_n 2 ?_
    exact ⟨_, _, P, rfl, rfl, hC, ⟨jTp, jF, jT, jSp, jW, jN, jP, jC, ⟨rfl, fun W2 hW => by
        cases hW
        exact mW_cc (show _ = I 171 7 from rfl) (show _ = I 171 15 from rfl) (show _ = I 171 56 from rfl) (mW_congr jW oT.2.1 oW (fun i hi => (congrArg _ (show 25 * 0 + i = 0 + i by omega)).trans (cpo_in hi)) (fun i hi => (congrArg _ (show 130 * 0 + i = 0 + i by omega)).trans ((upd_ne (by omega)).trans ((upd_ne (by omega)).trans ((upd_ne (by omega)).trans ((cpo_out (by omega)).trans ((cpo_out (by omega)).trans ((cpo_out (by omega)).trans ((cpo_out (by omega)).trans ((cpo_out (by omega)).trans ((cpo_out (by omega)).trans ((cpo_out (by omega)).trans ((cpo_out (by omega)).trans ((cpo_out (by omega)).trans ((cpo_out (by omega)).trans ((cpo_out (by omega)).trans (cpo_in (hi))))))))))))))))) (fun i hi => (congrArg _ (show 130 * 0 + (25 + i) = 25 + i by omega)).trans ((upd_ne (by omega)).trans ((upd_ne (by omega)).trans ((upd_ne (by omega)).trans ((cpo_out (by omega)).trans ((cpo_out (by omega)).trans ((cpo_out (by omega)).trans ((cpo_out (by omega)).trans ((cpo_out (by omega)).trans ((cpo_out (by omega)).trans ((cpo_out (by omega)).trans ((cpo_out (by omega)).trans ((cpo_out (by omega)).trans ((cpo_out (by omega)).trans (cpo_in (hi)))))))))))))))) (fun i hi => (congrArg _ (show 130 * 0 + (50 + i) = 50 + i by omega)).trans ((upd_ne (by omega)).trans ((upd_ne (by omega)).trans ((upd_ne (by omega)).trans ((cpo_out (by omega)).trans ((cpo_out (by omega)).trans ((cpo_out (by omega)).trans ((cpo_out (by omega)).trans ((cpo_out (by omega)).trans ((cpo_out (by omega)).trans ((cpo_out (by omega)).trans ((cpo_out (by omega)).trans ((cpo_out (by omega)).trans (cpo_in (hi))))))))))))))) (fun i hi => (congrArg _ (show 130 * 0 + (62 + i) = 62 + i by omega)).trans ((upd_ne (by omega)).trans ((upd_ne (by omega)).trans ((upd_ne (by omega)).trans ((cpo_out (by omega)).trans ((cpo_out (by omega)).trans ((cpo_out (by omega)).trans ((cpo_out (by omega)).trans ((cpo_out (by omega)).trans ((cpo_out (by omega)).trans ((cpo_out (by omega)).trans ((cpo_out (by omega)).trans (cpo_in (hi)))))))))))))) (fun i hi => (congrArg _ (show 130 * 0 + (74 + i) = 74 + i by omega)).trans ((upd_ne (by omega)).trans ((upd_ne (by omega)).trans ((upd_ne (by omega)).trans ((cpo_out (by omega)).trans ((cpo_out (by omega)).trans ((cpo_out (by omega)).trans ((cpo_out (by omega)).trans ((cpo_out (by omega)).trans ((cpo_out (by omega)).trans ((cpo_out (by omega)).trans (cpo_in (hi))))))))))))) (fun i hi => (congrArg _ (show 130 * 0 + (78 + i) = 78 + i by omega)).trans ((upd_ne (by omega)).trans ((upd_ne (by omega)).trans ((upd_ne (by omega)).trans ((cpo_out (by omega)).trans ((cpo_out (by omega)).trans ((cpo_out (by omega)).trans ((cpo_out (by omega)).trans ((cpo_out (by omega)).trans ((cpo_out (by omega)).trans (cpo_in (hi)))))))))))) (fun i hi => (congrArg _ (show 130 * 0 + (82 + i) = 82 + i by omega)).trans ((upd_ne (by omega)).trans ((upd_ne (by omega)).trans ((upd_ne (by omega)).trans ((cpo_out (by omega)).trans ((cpo_out (by omega)).trans ((cpo_out (by omega)).trans ((cpo_out (by omega)).trans ((cpo_out (by omega)).trans (cpo_in (hi))))))))))) (fun i hi => (congrArg _ (show 130 * 0 + (90 + i) = 90 + i by omega)).trans ((upd_ne (by omega)).trans ((upd_ne (by omega)).trans ((upd_ne (by omega)).trans ((cpo_out (by omega)).trans ((cpo_out (by omega)).trans ((cpo_out (by omega)).trans ((cpo_out (by omega)).trans (cpo_in (hi)))))))))) (fun i hi => (congrArg _ (show 130 * 0 + (98 + i) = 98 + i by omega)).trans ((upd_ne (by omega)).trans ((upd_ne (by omega)).trans ((upd_ne (by omega)).trans ((cpo_out (by omega)).trans ((cpo_out (by omega)).trans ((cpo_out (by omega)).trans (cpo_in (hi))))))))) (fun i hi => (congrArg _ (show 130 * 0 + (102 + i) = 102 + i by omega)).trans ((upd_ne (by omega)).trans ((upd_ne (by omega)).trans ((upd_ne (by omega)).trans ((cpo_out (by omega)).trans ((cpo_out (by omega)).trans (cpo_in (hi)))))))) (fun i hi => (congrArg _ (show 130 * 0 + (107 + i) = 107 + i by omega)).trans ((upd_ne (by omega)).trans ((upd_ne (by omega)).trans ((upd_ne (by omega)).trans ((cpo_out (by omega)).trans (cpo_in (hi))))))) (fun i hi => (congrArg _ (show 130 * 0 + (112 + i) = 112 + i by omega)).trans ((upd_ne (by omega)).trans ((upd_ne (by omega)).trans ((upd_ne (by omega)).trans (cpo_in (hi)))))) (fun i hi => (congrArg _ (show 5 * 0 + i = 0 + i by omega)).trans (cpo_in hi)))⟩, ⟨jI1.1, fun W2 hW => mW_cc (rfl) (rfl) (rfl) (mW_congr (jI1.2 W2 hW) oT.2.1 (oI1 W2 hW) (fun i hi => cpo_out (by omega)) (fun i hi => (upd_ne (by omega)).trans ((upd_ne (by omega)).trans ((upd_ne (by omega)).trans ((cpo_out (by omega)).trans ((cpo_out (by omega)).trans ((cpo_out (by omega)).trans ((cpo_out (by omega)).trans ((cpo_out (by omega)).trans ((cpo_out (by omega)).trans ((cpo_out (by omega)).trans ((cpo_out (by omega)).trans ((cpo_out (by omega)).trans ((cpo_out (by omega)).trans ((cpo_out (by omega)).trans ((cpo_out (by omega)).trans (rfl)))))))))))))))) (fun i hi => (upd_ne (by omega)).trans ((upd_ne (by omega)).trans ((upd_ne (by omega)).trans ((cpo_out (by omega)).trans ((cpo_out (by omega)).trans ((cpo_out (by omega)).trans ((cpo_out (by omega)).trans ((cpo_out (by omega)).trans ((cpo_out (by omega)).trans ((cpo_out (by omega)).trans ((cpo_out (by omega)).trans ((cpo_out (by omega)).trans ((cpo_out (by omega)).trans ((cpo_out (by omega)).trans ((cpo_out (by omega)).trans (rfl)))))))))))))))) (fun i hi => (upd_ne (by omega)).trans ((upd_ne (by omega)).trans ((upd_ne (by omega)).trans ((cpo_out (by omega)).trans ((cpo_out (by omega)).trans ((cpo_out (by omega)).trans ((cpo_out (by omega)).trans ((cpo_out (by omega)).trans ((cpo_out (by omega)).trans ((cpo_out (by omega)).trans ((cpo_out (by omega)).trans ((cpo_out (by omega)).trans ((cpo_out (by omega)).trans ((cpo_out (by omega)).trans ((cpo_out (by omega)).trans (rfl)))))))))))))))) (fun i hi => (upd_ne (by omega)).trans ((upd_ne (by omega)).trans ((upd_ne (by omega)).trans ((cpo_out (by omega)).trans ((cpo_out (by omega)).trans ((cpo_out (by omega)).trans ((cpo_out (by omega)).trans ((cpo_out (by omega)).trans ((cpo_out (by omega)).trans ((cpo_out (by omega)).trans ((cpo_out (by omega)).trans ((cpo_out (by omega)).trans ((cpo_out (by omega)).trans ((cpo_out (by omega)).trans ((cpo_out (by omega)).trans (rfl)))))))))))))))) (fun i hi => (upd_ne (by omega)).trans ((upd_ne (by omega)).trans ((upd_ne (by omega)).trans ((cpo_out (by omega)).trans ((cpo_out (by omega)).trans ((cpo_out (by omega)).trans ((cpo_out (by omega)).trans ((cpo_out (by omega)).trans ((cpo_out (by omega)).trans ((cpo_out (by omega)).trans ((cpo_out (by omega)).trans ((cpo_out (by omega)).trans ((cpo_out (by omega)).trans ((cpo_out (by omega)).trans ((cpo_out (by omega)).trans (rfl)))))))))))))))) (fun i hi => (upd_ne (by omega)).trans ((upd_ne (by omega)).trans ((upd_ne (by omega)).trans ((cpo_out (by omega)).trans ((cpo_out (by omega)).trans ((cpo_out (by omega)).trans ((cpo_out (by omega)).trans ((cpo_out (by omega)).trans ((cpo_out (by omega)).trans ((cpo_out (by omega)).trans ((cpo_out (by omega)).trans ((cpo_out (by omega)).trans ((cpo_out (by omega)).trans ((cpo_out (by omega)).trans ((cpo_out (by omega)).trans (rfl)))))))))))))))) (fun i hi => (upd_ne (by omega)).trans ((upd_ne (by omega)).trans ((upd_ne (by omega)).trans ((cpo_out (by omega)).trans ((cpo_out (by omega)).trans ((cpo_out (by omega)).trans ((cpo_out (by omega)).trans ((cpo_out (by omega)).trans ((cpo_out (by omega)).trans ((cpo_out (by omega)).trans ((cpo_out (by omega)).trans ((cpo_out (by omega)).trans ((cpo_out (by omega)).trans ((cpo_out (by omega)).trans ((cpo_out (by omega)).trans (rfl)))))))))))))))) (fun i hi => (upd_ne (by omega)).trans ((upd_ne (by omega)).trans ((upd_ne (by omega)).trans ((cpo_out (by omega)).trans ((cpo_out (by omega)).trans ((cpo_out (by omega)).trans ((cpo_out (by omega)).trans ((cpo_out (by omega)).trans ((cpo_out (by omega)).trans ((cpo_out (by omega)).trans ((cpo_out (by omega)).trans ((cpo_out (by omega)).trans ((cpo_out (by omega)).trans ((cpo_out (by omega)).trans ((cpo_out (by omega)).trans (rfl)))))))))))))))) (fun i hi => (upd_ne (by omega)).trans ((upd_ne (by omega)).trans ((upd_ne (by omega)).trans ((cpo_out (by omega)).trans ((cpo_out (by omega)).trans ((cpo_out (by omega)).trans ((cpo_out (by omega)).trans ((cpo_out (by omega)).trans ((cpo_out (by omega)).trans ((cpo_out (by omega)).trans ((cpo_out (by omega)).trans ((cpo_out (by omega)).trans ((cpo_out (by omega)).trans ((cpo_out (by omega)).trans ((cpo_out (by omega)).trans (rfl)))))))))))))))) (fun i hi => (upd_ne (by omega)).trans ((upd_ne (by omega)).trans ((upd_ne (by omega)).trans ((cpo_out (by omega)).trans ((cpo_out (by omega)).trans ((cpo_out (by omega)).trans ((cpo_out (by omega)).trans ((cpo_out (by omega)).trans ((cpo_out (by omega)).trans ((cpo_out (by omega)).trans ((cpo_out (by omega)).trans ((cpo_out (by omega)).trans ((cpo_out (by omega)).trans ((cpo_out (by omega)).trans ((cpo_out (by omega)).trans (rfl)))))))))))))))) (fun i hi => (upd_ne (by omega)).trans ((upd_ne (by omega)).trans ((upd_ne (by omega)).trans ((cpo_out (by omega)).trans ((cpo_out (by omega)).trans ((cpo_out (by omega)).trans ((cpo_out (by omega)).trans ((cpo_out (by omega)).trans ((cpo_out (by omega)).trans ((cpo_out (by omega)).trans ((cpo_out (by omega)).trans ((cpo_out (by omega)).trans ((cpo_out (by omega)).trans ((cpo_out (by omega)).trans ((cpo_out (by omega)).trans (rfl)))))))))))))))) (fun i hi => (upd_ne (by omega)).trans ((upd_ne (by omega)).trans ((upd_ne (by omega)).trans ((cpo_out (by omega)).trans ((cpo_out (by omega)).trans ((cpo_out (by omega)).trans ((cpo_out (by omega)).trans ((cpo_out (by omega)).trans ((cpo_out (by omega)).trans ((cpo_out (by omega)).trans ((cpo_out (by omega)).trans ((cpo_out (by omega)).trans ((cpo_out (by omega)).trans ((cpo_out (by omega)).trans ((cpo_out (by omega)).trans (rfl)))))))))))))))) (fun i hi => cpo_out (by omega)))⟩, jB, jL⟩⟩
  rw [show I 212 = (gupI I 209 0 1) 212 from rfl, m1_self] at tail
  have loop2 : ∀ i, i ≤ 5 → gT (d + 14) 275 78 [(4, .int (nI i)), (3, .int 0), (2, .int x), (0, .ref 171), (1, .int 0)] [] (0, 0) (gST (gupI I 209 0 1) (m1 (m1 J 210 (cpo (J 174) (J 210) 0 25)) 211 (cpo (J 205) (J 211) 0 i)) P) (pM x (tp, fn, t, W, nm, pr, ch, some W, i1)) := by
    refine loopU 5 (fun i hi ih => ?_)
    refine gT_n 3 ?_
    refine pk_le 5 i (fun κ1 => ?_) (fun κ1 => ?_) (rfl) (rfl) (by omega) (by omega)
    · obtain rfl : i = 5 := by omega
      exact gT_k tail ⟨rfl, rfl, rfl, rfl, trivial⟩ rfl
    · refine gT_n 12 ?_
      refine ⟨rfl, rfl, rfl, (pk_in i 5 (by omega) (rfl)), rfl, (pk_inS (m := 10) (k := (0 + i)) (rfl) (by omega) (pk_addE (n := 0) (k := i) (rfl) (rfl))), ?_⟩
      refine gT_m1L (a := 211) (n := (0 + i)) (X := (J 205 i)) (pk_addE (n := 0) (k := i) (rfl) (rfl)) (by omega) ((rdJ (rfl) (by omega) rfl)) ?_
      refine gT_n 2 ?_
      rw [cpo_updL]
      have e := ih (i + 1) (by omega) (by omega)
      rw [← nI_1] at e
      exact gT_k e ⟨rfl, rfl, rfl, rfl, rfl, trivial⟩ rfl
  have loop1 : ∀ i, i ≤ 25 → gT (d + 14) 275 43 [(4, .int (nI i)), (3, .int 0), (2, .int x), (0, .ref 171), (1, .int 0)] [] (0, 0) (gST (gupI I 209 0 1) (m1 J 210 (cpo (J 174) (J 210) 0 i)) P) (pM x (tp, fn, t, W, nm, pr, ch, some W, i1)) := by
    refine loopU 25 (fun i hi ih => ?_)
    refine gT_n 3 ?_
    refine pk_le 25 i (fun κ1 => ?_) (fun κ1 => ?_) (rfl) (rfl) (by omega) (by omega)
    · refine gT_n 2 ?_
      obtain rfl : i = 25 := by omega
      have e := loop2 0 (by omega)
      rw [cpo_0, show J 211 = (m1 J 210 (cpo (J 174) (J 210) 0 25)) 211 from rfl, m1_self] at e
      exact gT_k e ⟨rfl, rfl, rfl, rfl, rfl, trivial⟩ rfl
    · refine gT_n 12 ?_
      refine ⟨rfl, rfl, rfl, (pk_in i 25 (by omega) (rfl)), rfl, (pk_inS (m := 50) (k := (0 + i)) (rfl) (by omega) (pk_addE (n := 0) (k := i) (rfl) (rfl))), ?_⟩
      refine gT_m1L (a := 210) (n := 0 + i) (X := (J 174 i)) (pk_addE (n := 0) (k := i) (rfl) (rfl)) (by omega) ((rdJ (rfl) (by omega) rfl)) ?_
      refine gT_n 2 ?_
      rw [cpo_updL]
      have e := ih (i + 1) (by omega) (by omega)
      rw [← nI_1] at e
      exact gT_k e ⟨rfl, rfl, rfl, rfl, rfl, trivial⟩ rfl
  have e := loop1 0 (by omega)
  rw [cpo_0, m1_self] at e
  exact e
set_option maxHeartbeats 4000000 in
theorem m_keepT1 {d : Nat} {x : Int32} {tp : Nat × (Nat → Nat)} {fn : Int32} {t : zT} {W : zW} {nm : Nat} {pr : Option zP} {ch : Option (Int32 × Nat × Int32)} {i0 i1 : Option zW} {I : Nat → Nat → Int32} {J : Nat → Nat → Int64} {P : Nat → Nat} (hO : sOK (tp, fn, t, W, nm, pr, ch, i0, i1)) (hC : RC (tp, fn, t, W, nm, pr, ch, i0, some W) I J P) (hM : RM (tp, fn, t, W, nm, pr, ch, i0, i1) I J) : gT (d + 14) 275 43 [(4, .int 0), (3, .int 130), (2, .int x), (0, .ref 171), (1, .int 1)] [] (0, 0) (gST (gupI I 209 1 1) J P) (pM x (tp, fn, t, W, nm, pr, ch, i0, some W)) := by
  obtain ⟨oTp, oT, oW, oN, oP, oI0, oI1⟩ := hO
  obtain ⟨jTp, jF, jT, jSp, jW, jN, jP, jC, jI0, jI1, jB, jL⟩ := hM
  dsimp only at oTp oT oW oN oP oI0 oI1 jTp jF jT jSp jW jN jP jC jI0 jI1
  have tail : gT (d + 14) 275 108 [(3, .int 130), (2, .int x), (0, .ref 171), (1, .int 1)] [] (0, 0) (gST (m1 (gupI I 209 1 1) 212 (I 212)) (m1 (m1 J 210 (cpo (J 174) (J 210) 25 25)) 211 (cpo (J 205) (J 211) 5 5)) P) (pM x (tp, fn, t, W, nm, pr, ch, i0, some W)) := by
    refine gT_n 6 ?_
    refine ⟨rfl, rfl, rfl, gTM.use (m_keepsM (a := 175) (m := 25) (t := 130) (la := 25) rfl (by omega) (by omega) (by omega) (by omega)) (Nat.le_refl _) (fun r u hq => ?_)⟩
    obtain ⟨rfl, rfl⟩ := hq  -- X12_keepsPart[R171, R175, K25, K130]
    refine gT_n 8 ?_
    refine ⟨rfl, rfl, rfl, gTM.use (m_keepsM (a := 176) (m := 25) (t := 155) (la := 25) rfl (by omega) (by omega) (by omega) (by omega)) (Nat.le_refl _) (fun r u hq => ?_)⟩
    obtain ⟨rfl, rfl⟩ := hq  -- X12_keepsPart[R171, R176, K25, K155]
    refine gT_n 8 ?_
    refine ⟨rfl, rfl, rfl, gTM.use (m_keepsM (a := 177) (m := 12) (t := 180) (la := 12) rfl (by omega) (by omega) (by omega) (by omega)) (Nat.le_refl _) (fun r u hq => ?_)⟩
    obtain ⟨rfl, rfl⟩ := hq  -- X12_keepsPart[R171, R177, K12, K180]
    refine gT_n 8 ?_
    refine ⟨rfl, rfl, rfl, gTM.use (m_keepsM (a := 178) (m := 12) (t := 192) (la := 12) rfl (by omega) (by omega) (by omega) (by omega)) (Nat.le_refl _) (fun r u hq => ?_)⟩
    obtain ⟨rfl, rfl⟩ := hq  -- X12_keepsPart[R171, R178, K12, K192]
    refine gT_n 8 ?_
    refine ⟨rfl, rfl, rfl, gTM.use (m_keepsM (a := 179) (m := 4) (t := 204) (la := 4) rfl (by omega) (by omega) (by omega) (by omega)) (Nat.le_refl _) (fun r u hq => ?_)⟩
    obtain ⟨rfl, rfl⟩ := hq  -- X12_keepsPart[R171, R179, K4, K204]
    refine gT_n 8 ?_
    refine ⟨rfl, rfl, rfl, gTM.use (m_keepsM (a := 180) (m := 4) (t := 208) (la := 4) rfl (by omega) (by omega) (by omega) (by omega)) (Nat.le_refl _) (fun r u hq => ?_)⟩
    obtain ⟨rfl, rfl⟩ := hq  -- X12_keepsPart[R171, R180, K4, K208]
    refine gT_n 8 ?_
    refine ⟨rfl, rfl, rfl, gTM.use (m_keepsM (a := 181) (m := 8) (t := 212) (la := 8) rfl (by omega) (by omega) (by omega) (by omega)) (Nat.le_refl _) (fun r u hq => ?_)⟩
    obtain ⟨rfl, rfl⟩ := hq  -- X12_keepsPart[R171, R181, K8, K212]
    refine gT_n 8 ?_
    refine ⟨rfl, rfl, rfl, gTM.use (m_keepsM (a := 182) (m := 8) (t := 220) (la := 8) rfl (by omega) (by omega) (by omega) (by omega)) (Nat.le_refl _) (fun r u hq => ?_)⟩
    obtain ⟨rfl, rfl⟩ := hq  -- X12_keepsPart[R171, R182, K8, K220]
    refine gT_n 8 ?_
    refine ⟨rfl, rfl, rfl, gTM.use (m_keepsM (a := 183) (m := 4) (t := 228) (la := 4) rfl (by omega) (by omega) (by omega) (by omega)) (Nat.le_refl _) (fun r u hq => ?_)⟩
    obtain ⟨rfl, rfl⟩ := hq  -- X12_keepsPart[R171, R183, K4, K228]
    refine gT_n 8 ?_
    refine ⟨rfl, rfl, rfl, gTM.use (m_keepsM (a := 202) (m := 5) (t := 232) (la := 5) rfl (by omega) (by omega) (by omega) (by omega)) (Nat.le_refl _) (fun r u hq => ?_)⟩
    obtain ⟨rfl, rfl⟩ := hq  -- X12_keepsPart[R171, R202, K5, K232]
    refine gT_n 8 ?_
    refine ⟨rfl, rfl, rfl, gTM.use (m_keepsM (a := 203) (m := 5) (t := 237) (la := 5) rfl (by omega) (by omega) (by omega) (by omega)) (Nat.le_refl _) (fun r u hq => ?_)⟩
    obtain ⟨rfl, rfl⟩ := hq  -- X12_keepsPart[R171, R203, K5, K237]
    refine gT_n 8 ?_
    refine ⟨rfl, rfl, rfl, gTM.use (m_keepsM (a := 204) (m := 15) (t := 242) (la := 15) rfl (by omega) (by omega) (by omega) (by omega)) (Nat.le_refl _) (fun r u hq => ?_)⟩
    obtain ⟨rfl, rfl⟩ := hq  -- X12_keepsPart[R171, R204, K15, K242]
    refine gT_n 8 ?_
    refine ⟨rfl, rfl, rfl, (pk_inS (m := 260) (k := 257) (rfl) (by decide) (rfl)), ?_⟩
    refine gT_m1 (a := 212) (n := 257) (X := (I 171 7)) (rfl) (by omega) (rfl) ?_
    refine gT_n 8 ?_
    refine ⟨rfl, rfl, rfl, (pk_inS (m := 260) (k := 258) (rfl) (by decide) (rfl)), ?_⟩
    refine gT_m1 (a := 212) (n := 258) (X := (I 171 15)) (rfl) (by omega) (rfl) ?_
    refine gT_n 8 ?_
    refine ⟨rfl, rfl, rfl, (pk_inS (m := 260) (k := 259) (rfl) (by decide) (rfl)), ?_⟩
    refine gT_m1 (a := 212) (n := 259) (X := (I 171 56)) (rfl) (by omega) (rfl) ?_
    refine gT_n 2 ?_
    exact ⟨_, _, P, rfl, rfl, hC, ⟨jTp, jF, jT, jSp, jW, jN, jP, jC, ⟨jI0.1, fun W2 hW => mW_cc (rfl) (rfl) (rfl) (mW_congr (jI0.2 W2 hW) oT.2.1 (oI0 W2 hW) (fun i hi => cpo_out (by omega)) (fun i hi => (upd_ne (by omega)).trans ((upd_ne (by omega)).trans ((upd_ne (by omega)).trans ((cpo_out (by omega)).trans ((cpo_out (by omega)).trans ((cpo_out (by omega)).trans ((cpo_out (by omega)).trans ((cpo_out (by omega)).trans ((cpo_out (by omega)).trans ((cpo_out (by omega)).trans ((cpo_out (by omega)).trans ((cpo_out (by omega)).trans ((cpo_out (by omega)).trans ((cpo_out (by omega)).trans ((cpo_out (by omega)).trans (rfl)))))))))))))))) (fun i hi => (upd_ne (by omega)).trans ((upd_ne (by omega)).trans ((upd_ne (by omega)).trans ((cpo_out (by omega)).trans ((cpo_out (by omega)).trans ((cpo_out (by omega)).trans ((cpo_out (by omega)).trans ((cpo_out (by omega)).trans ((cpo_out (by omega)).trans ((cpo_out (by omega)).trans ((cpo_out (by omega)).trans ((cpo_out (by omega)).trans ((cpo_out (by omega)).trans ((cpo_out (by omega)).trans ((cpo_out (by omega)).trans (rfl)))))))))))))))) (fun i hi => (upd_ne (by omega)).trans ((upd_ne (by omega)).trans ((upd_ne (by omega)).trans ((cpo_out (by omega)).trans ((cpo_out (by omega)).trans ((cpo_out (by omega)).trans ((cpo_out (by omega)).trans ((cpo_out (by omega)).trans ((cpo_out (by omega)).trans ((cpo_out (by omega)).trans ((cpo_out (by omega)).trans ((cpo_out (by omega)).trans ((cpo_out (by omega)).trans ((cpo_out (by omega)).trans ((cpo_out (by omega)).trans (rfl)))))))))))))))) (fun i hi => (upd_ne (by omega)).trans ((upd_ne (by omega)).trans ((upd_ne (by omega)).trans ((cpo_out (by omega)).trans ((cpo_out (by omega)).trans ((cpo_out (by omega)).trans ((cpo_out (by omega)).trans ((cpo_out (by omega)).trans ((cpo_out (by omega)).trans ((cpo_out (by omega)).trans ((cpo_out (by omega)).trans ((cpo_out (by omega)).trans ((cpo_out (by omega)).trans ((cpo_out (by omega)).trans ((cpo_out (by omega)).trans (rfl)))))))))))))))) (fun i hi => (upd_ne (by omega)).trans ((upd_ne (by omega)).trans ((upd_ne (by omega)).trans ((cpo_out (by omega)).trans ((cpo_out (by omega)).trans ((cpo_out (by omega)).trans ((cpo_out (by omega)).trans ((cpo_out (by omega)).trans ((cpo_out (by omega)).trans ((cpo_out (by omega)).trans ((cpo_out (by omega)).trans ((cpo_out (by omega)).trans ((cpo_out (by omega)).trans ((cpo_out (by omega)).trans ((cpo_out (by omega)).trans (rfl)))))))))))))))) (fun i hi => (upd_ne (by omega)).trans ((upd_ne (by omega)).trans ((upd_ne (by omega)).trans ((cpo_out (by omega)).trans ((cpo_out (by omega)).trans ((cpo_out (by omega)).trans ((cpo_out (by omega)).trans ((cpo_out (by omega)).trans ((cpo_out (by omega)).trans ((cpo_out (by omega)).trans ((cpo_out (by omega)).trans ((cpo_out (by omega)).trans ((cpo_out (by omega)).trans ((cpo_out (by omega)).trans ((cpo_out (by omega)).trans (rfl)))))))))))))))) (fun i hi => (upd_ne (by omega)).trans ((upd_ne (by omega)).trans ((upd_ne (by omega)).trans ((cpo_out (by omega)).trans ((cpo_out (by omega)).trans ((cpo_out (by omega)).trans ((cpo_out (by omega)).trans ((cpo_out (by omega)).trans ((cpo_out (by omega)).trans ((cpo_out (by omega)).trans ((cpo_out (by omega)).trans ((cpo_out (by omega)).trans ((cpo_out (by omega)).trans ((cpo_out (by omega)).trans ((cpo_out (by omega)).trans (rfl)))))))))))))))) (fun i hi => (upd_ne (by omega)).trans ((upd_ne (by omega)).trans ((upd_ne (by omega)).trans ((cpo_out (by omega)).trans ((cpo_out (by omega)).trans ((cpo_out (by omega)).trans ((cpo_out (by omega)).trans ((cpo_out (by omega)).trans ((cpo_out (by omega)).trans ((cpo_out (by omega)).trans ((cpo_out (by omega)).trans ((cpo_out (by omega)).trans ((cpo_out (by omega)).trans ((cpo_out (by omega)).trans ((cpo_out (by omega)).trans (rfl)))))))))))))))) (fun i hi => (upd_ne (by omega)).trans ((upd_ne (by omega)).trans ((upd_ne (by omega)).trans ((cpo_out (by omega)).trans ((cpo_out (by omega)).trans ((cpo_out (by omega)).trans ((cpo_out (by omega)).trans ((cpo_out (by omega)).trans ((cpo_out (by omega)).trans ((cpo_out (by omega)).trans ((cpo_out (by omega)).trans ((cpo_out (by omega)).trans ((cpo_out (by omega)).trans ((cpo_out (by omega)).trans ((cpo_out (by omega)).trans (rfl)))))))))))))))) (fun i hi => (upd_ne (by omega)).trans ((upd_ne (by omega)).trans ((upd_ne (by omega)).trans ((cpo_out (by omega)).trans ((cpo_out (by omega)).trans ((cpo_out (by omega)).trans ((cpo_out (by omega)).trans ((cpo_out (by omega)).trans ((cpo_out (by omega)).trans ((cpo_out (by omega)).trans ((cpo_out (by omega)).trans ((cpo_out (by omega)).trans ((cpo_out (by omega)).trans ((cpo_out (by omega)).trans ((cpo_out (by omega)).trans (rfl)))))))))))))))) (fun i hi => (upd_ne (by omega)).trans ((upd_ne (by omega)).trans ((upd_ne (by omega)).trans ((cpo_out (by omega)).trans ((cpo_out (by omega)).trans ((cpo_out (by omega)).trans ((cpo_out (by omega)).trans ((cpo_out (by omega)).trans ((cpo_out (by omega)).trans ((cpo_out (by omega)).trans ((cpo_out (by omega)).trans ((cpo_out (by omega)).trans ((cpo_out (by omega)).trans ((cpo_out (by omega)).trans ((cpo_out (by omega)).trans (rfl)))))))))))))))) (fun i hi => (upd_ne (by omega)).trans ((upd_ne (by omega)).trans ((upd_ne (by omega)).trans ((cpo_out (by omega)).trans ((cpo_out (by omega)).trans ((cpo_out (by omega)).trans ((cpo_out (by omega)).trans ((cpo_out (by omega)).trans ((cpo_out (by omega)).trans ((cpo_out (by omega)).trans ((cpo_out (by omega)).trans ((cpo_out (by omega)).trans ((cpo_out (by omega)).trans ((cpo_out (by omega)).trans ((cpo_out (by omega)).trans (rfl)))))))))))))))) (fun i hi => cpo_out (by omega)))⟩, ⟨rfl, fun W2 hW => by
        cases hW
        exact mW_cc (show _ = I 171 7 from rfl) (show _ = I 171 15 from rfl) (show _ = I 171 56 from rfl) (mW_congr jW oT.2.1 oW (fun i hi => (congrArg _ (show 25 * 1 + i = 25 + i by omega)).trans (cpo_in hi)) (fun i hi => (congrArg _ (show 130 * 1 + i = 130 + i by omega)).trans ((upd_ne (by omega)).trans ((upd_ne (by omega)).trans ((upd_ne (by omega)).trans ((cpo_out (by omega)).trans ((cpo_out (by omega)).trans ((cpo_out (by omega)).trans ((cpo_out (by omega)).trans ((cpo_out (by omega)).trans ((cpo_out (by omega)).trans ((cpo_out (by omega)).trans ((cpo_out (by omega)).trans ((cpo_out (by omega)).trans ((cpo_out (by omega)).trans ((cpo_out (by omega)).trans (cpo_in (hi))))))))))))))))) (fun i hi => (congrArg _ (show 130 * 1 + (25 + i) = 155 + i by omega)).trans ((upd_ne (by omega)).trans ((upd_ne (by omega)).trans ((upd_ne (by omega)).trans ((cpo_out (by omega)).trans ((cpo_out (by omega)).trans ((cpo_out (by omega)).trans ((cpo_out (by omega)).trans ((cpo_out (by omega)).trans ((cpo_out (by omega)).trans ((cpo_out (by omega)).trans ((cpo_out (by omega)).trans ((cpo_out (by omega)).trans ((cpo_out (by omega)).trans (cpo_in (hi)))))))))))))))) (fun i hi => (congrArg _ (show 130 * 1 + (50 + i) = 180 + i by omega)).trans ((upd_ne (by omega)).trans ((upd_ne (by omega)).trans ((upd_ne (by omega)).trans ((cpo_out (by omega)).trans ((cpo_out (by omega)).trans ((cpo_out (by omega)).trans ((cpo_out (by omega)).trans ((cpo_out (by omega)).trans ((cpo_out (by omega)).trans ((cpo_out (by omega)).trans ((cpo_out (by omega)).trans ((cpo_out (by omega)).trans (cpo_in (hi))))))))))))))) (fun i hi => (congrArg _ (show 130 * 1 + (62 + i) = 192 + i by omega)).trans ((upd_ne (by omega)).trans ((upd_ne (by omega)).trans ((upd_ne (by omega)).trans ((cpo_out (by omega)).trans ((cpo_out (by omega)).trans ((cpo_out (by omega)).trans ((cpo_out (by omega)).trans ((cpo_out (by omega)).trans ((cpo_out (by omega)).trans ((cpo_out (by omega)).trans ((cpo_out (by omega)).trans (cpo_in (hi)))))))))))))) (fun i hi => (congrArg _ (show 130 * 1 + (74 + i) = 204 + i by omega)).trans ((upd_ne (by omega)).trans ((upd_ne (by omega)).trans ((upd_ne (by omega)).trans ((cpo_out (by omega)).trans ((cpo_out (by omega)).trans ((cpo_out (by omega)).trans ((cpo_out (by omega)).trans ((cpo_out (by omega)).trans ((cpo_out (by omega)).trans ((cpo_out (by omega)).trans (cpo_in (hi))))))))))))) (fun i hi => (congrArg _ (show 130 * 1 + (78 + i) = 208 + i by omega)).trans ((upd_ne (by omega)).trans ((upd_ne (by omega)).trans ((upd_ne (by omega)).trans ((cpo_out (by omega)).trans ((cpo_out (by omega)).trans ((cpo_out (by omega)).trans ((cpo_out (by omega)).trans ((cpo_out (by omega)).trans ((cpo_out (by omega)).trans (cpo_in (hi)))))))))))) (fun i hi => (congrArg _ (show 130 * 1 + (82 + i) = 212 + i by omega)).trans ((upd_ne (by omega)).trans ((upd_ne (by omega)).trans ((upd_ne (by omega)).trans ((cpo_out (by omega)).trans ((cpo_out (by omega)).trans ((cpo_out (by omega)).trans ((cpo_out (by omega)).trans ((cpo_out (by omega)).trans (cpo_in (hi))))))))))) (fun i hi => (congrArg _ (show 130 * 1 + (90 + i) = 220 + i by omega)).trans ((upd_ne (by omega)).trans ((upd_ne (by omega)).trans ((upd_ne (by omega)).trans ((cpo_out (by omega)).trans ((cpo_out (by omega)).trans ((cpo_out (by omega)).trans ((cpo_out (by omega)).trans (cpo_in (hi)))))))))) (fun i hi => (congrArg _ (show 130 * 1 + (98 + i) = 228 + i by omega)).trans ((upd_ne (by omega)).trans ((upd_ne (by omega)).trans ((upd_ne (by omega)).trans ((cpo_out (by omega)).trans ((cpo_out (by omega)).trans ((cpo_out (by omega)).trans (cpo_in (hi))))))))) (fun i hi => (congrArg _ (show 130 * 1 + (102 + i) = 232 + i by omega)).trans ((upd_ne (by omega)).trans ((upd_ne (by omega)).trans ((upd_ne (by omega)).trans ((cpo_out (by omega)).trans ((cpo_out (by omega)).trans (cpo_in (hi)))))))) (fun i hi => (congrArg _ (show 130 * 1 + (107 + i) = 237 + i by omega)).trans ((upd_ne (by omega)).trans ((upd_ne (by omega)).trans ((upd_ne (by omega)).trans ((cpo_out (by omega)).trans (cpo_in (hi))))))) (fun i hi => (congrArg _ (show 130 * 1 + (112 + i) = 242 + i by omega)).trans ((upd_ne (by omega)).trans ((upd_ne (by omega)).trans ((upd_ne (by omega)).trans (cpo_in (hi)))))) (fun i hi => (congrArg _ (show 5 * 1 + i = 5 + i by omega)).trans (cpo_in hi)))⟩, jB, jL⟩⟩
  rw [show I 212 = (gupI I 209 1 1) 212 from rfl, m1_self] at tail
  have loop2 : ∀ i, i ≤ 5 → gT (d + 14) 275 78 [(4, .int (nI i)), (3, .int 130), (2, .int x), (0, .ref 171), (1, .int 1)] [] (0, 0) (gST (gupI I 209 1 1) (m1 (m1 J 210 (cpo (J 174) (J 210) 25 25)) 211 (cpo (J 205) (J 211) 5 i)) P) (pM x (tp, fn, t, W, nm, pr, ch, i0, some W)) := by
    refine loopU 5 (fun i hi ih => ?_)
    refine gT_n 3 ?_
    refine pk_le 5 i (fun κ1 => ?_) (fun κ1 => ?_) (rfl) (rfl) (by omega) (by omega)
    · obtain rfl : i = 5 := by omega
      exact gT_k tail ⟨rfl, rfl, rfl, rfl, trivial⟩ rfl
    · refine gT_n 12 ?_
      refine ⟨rfl, rfl, rfl, (pk_in i 5 (by omega) (rfl)), rfl, (pk_inS (m := 10) (k := (5 + i)) (rfl) (by omega) (pk_addE (n := 5) (k := i) (rfl) (rfl))), ?_⟩
      refine gT_m1L (a := 211) (n := (5 + i)) (X := (J 205 i)) (pk_addE (n := 5) (k := i) (rfl) (rfl)) (by omega) ((rdJ (rfl) (by omega) rfl)) ?_
      refine gT_n 2 ?_
      rw [cpo_updL]
      have e := ih (i + 1) (by omega) (by omega)
      rw [← nI_1] at e
      exact gT_k e ⟨rfl, rfl, rfl, rfl, rfl, trivial⟩ rfl
  have loop1 : ∀ i, i ≤ 25 → gT (d + 14) 275 43 [(4, .int (nI i)), (3, .int 130), (2, .int x), (0, .ref 171), (1, .int 1)] [] (0, 0) (gST (gupI I 209 1 1) (m1 J 210 (cpo (J 174) (J 210) 25 i)) P) (pM x (tp, fn, t, W, nm, pr, ch, i0, some W)) := by
    refine loopU 25 (fun i hi ih => ?_)
    refine gT_n 3 ?_
    refine pk_le 25 i (fun κ1 => ?_) (fun κ1 => ?_) (rfl) (rfl) (by omega) (by omega)
    · refine gT_n 2 ?_
      obtain rfl : i = 25 := by omega
      have e := loop2 0 (by omega)
      rw [cpo_0, show J 211 = (m1 J 210 (cpo (J 174) (J 210) 25 25)) 211 from rfl, m1_self] at e
      exact gT_k e ⟨rfl, rfl, rfl, rfl, rfl, trivial⟩ rfl
    · refine gT_n 12 ?_
      refine ⟨rfl, rfl, rfl, (pk_in i 25 (by omega) (rfl)), rfl, (pk_inS (m := 50) (k := (25 + i)) (rfl) (by omega) (pk_addE (n := 25) (k := i) (rfl) (rfl))), ?_⟩
      refine gT_m1L (a := 210) (n := 25 + i) (X := (J 174 i)) (pk_addE (n := 25) (k := i) (rfl) (rfl)) (by omega) ((rdJ (rfl) (by omega) rfl)) ?_
      refine gT_n 2 ?_
      rw [cpo_updL]
      have e := ih (i + 1) (by omega) (by omega)
      rw [← nI_1] at e
      exact gT_k e ⟨rfl, rfl, rfl, rfl, rfl, trivial⟩ rfl
  have e := loop1 0 (by omega)
  rw [cpo_0, m1_self] at e
  exact e
