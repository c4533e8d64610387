/-! ask: the class's call -/
def fAsk (t : zT) (W : zW) (n s : Nat) (l : List zI) : Prop := ∃ m b l1, m ≤ 3 ∧ zc t (zof t n) m = 0 ∧ (∀ k, k < m → ¬ zc t (zof t n) k = 0) ∧ fCh t W (zof t n) m [qKey t W 0] b l1 ∧ pif (b = true) (fAn t W n s l1 l) (l = l1)
theorem zm_ex {t : zT} {w : Nat} (hz : zOK t) (hw : w < t.1) : ∃ m, m ≤ 3 ∧ zc t w m = 0 ∧ ∀ k, k < m → ¬ zc t w k = 0 := by
  by_cases h0 : zc t w 0 = 0
  · exact ⟨0, by omega, h0, fun k hk => absurd hk (by omega)⟩
  by_cases h1 : zc t w 1 = 0
  · exact ⟨1, by omega, h1, fun k hk => by obtain rfl : k = 0 := by omega
                                           exact h0⟩
  by_cases h2 : zc t w 2 = 0
  · exact ⟨2, by omega, h2, fun k hk => by
      have : k = 0 ∨ k = 1 := by omega
      rcases this with rfl | rfl
      · exact h0
      · exact h1⟩
  · exact ⟨3, by omega, zc_3 hz hw, fun k hk => by
      have : k = 0 ∨ k = 1 ∨ k = 2 := by omega
      rcases this with rfl | rfl | rfl
      · exact h0
      · exact h1
      · exact h2⟩
theorem cBs_0 {I : Nat → Nat → Int32} {J : Nat → Nat → Int64} {P : Nat → Nat} {l : List zI} (h : cB I J P l) : cBs I J P l 0 := ⟨h.1, fun k hk => by rw [if_neg (by omega)]; exact h.2 k hk⟩
theorem c_make {d : Nat} {I : Nat → Nat → Int32} {J : Nat → Nat → Int64} {P : Nat → Nat} {t : zT} {W : zW} {n s : Nat} (hz : zOK t) (oW : wOK t W) (hT : cTr I J t) (hW : cW 17 I J W) (hP : pP P) (hn : vn n) (hs : s < 3) : gTM (d + 6) 51 [.ref 145, .long (lN n), .int (nI s)] (gST (aMI I I) (aMJ J J) P) (fun r u => r = none ∧ ∃ I' J' l, u = gST (aMI I I') (aMJ J J') P ∧ (I' 145 2 = 1 ∧ I' 145 4 = nI s ∧ I' 145 5 = nI (zof t n) ∧ I' 145 6 = W.2.2.2.2.1 ∧ J' 145 3 = lN n) ∧ cB I' J' P (l.map qS) ∧ l.length ≤ 10 ∧ vIs t l ∧ fAsk t W n s l) := by
  have h4 := hz.2.1
  have hzz := zof_lt hz n
  obtain ⟨m, hm, hm0, hnz⟩ := zm_ex hz hzz
  refine gT_n 3 ?_
  refine ⟨rfl, ?_⟩
  refine gT_aPJ (b := 145) (by decide) (X := (lN n)) (rfl) ?_
  refine gT_n 3 ?_
  refine ⟨rfl, ?_⟩
  refine gT_aP (b := 145) (by decide) (X := (nI s)) (rfl) ?_
  refine gT_n 5 ?_
  refine ⟨rfl, rfl, rfl, gTM.use (c_zoneOf_12 hz hT.1 hn.lt) (Nat.le_refl _) (fun r u hq => ?_)⟩
  obtain ⟨rfl, rfl⟩ := hq  -- X8_zoneOf[R12, lN n]
  refine gT_n 1 ?_
  refine ⟨rfl, ?_⟩
  refine gT_aP (b := 145) (by decide) (X := (nI ((zof t n)))) (rfl) ?_
  refine gT_n 5 ?_
  refine ⟨rfl, rfl, rfl, ?_⟩
  refine gT_aP (b := 145) (by decide) (X := W.2.2.2.2.1) (hW.2.2.2.2.1) ?_
  refine gT_n 3 ?_
  refine ⟨rfl, (Or.inr rfl), ?_⟩
  refine gT_aP (b := 145) (by decide) (X := 1) (rfl) ?_
  refine gT_n 3 ?_
  refine ⟨rfl, ?_⟩
  refine gT_aP (b := 145) (by decide) (X := 0) (rfl) ?_
  refine gT_n 2 ?_
  refine ⟨rfl, rfl, gTM.use (c_addChain hz oW hT hW hP hzz hm hm0 hnz ⟨rfl, fun k hk => absurd hk (Nat.not_lt_zero k)⟩ rfl) (Nat.le_refl _) (fun r u hq => ?_)⟩
  obtain ⟨b, I1, J1, l1, rfl, rfl, hk1, hB1, hl8, hA1, hsg, hch⟩ := hq  -- X5_addChain[R145]
  have hbb := bI_01 b
  refine gT_n 1 ?_
  refine px_eq (X := (bI b)) (Y := (0)) (rfl) (rfl) (fun κ1 => ?_) (fun κ1 => ?_)
  · refine gT_n 2 ?_
    have hb := bI_0 κ1
    have e := c_sealLoop (d := d) (I0 := I) (J0 := J) (Ia := I1) (J := J1) hP (by omega) hA1 0 (by omega) I1 aK_self (cBs_0 hB1)
    refine gT_k (gT_mono _ _ _ _ _ _ _ _ _ (fun r u h => ?_) e) ⟨rfl, rfl, trivial⟩ rfl
    obtain ⟨h1, I3, h2, hk3, hB3⟩ := h
    exact ⟨h1, I3, J1, l1, h2, ⟨(hk3.1 2 (by decide)).trans (hk1.1 2 (by decide)), (hk3.1 4 (by decide)).trans (hk1.1 4 (by decide)), (hk3.1 5 (by decide)).trans (hk1.1 5 (by decide)), (hk3.1 6 (by decide)).trans (hk1.1 6 (by decide)), congrFun hk1.2 3⟩, hB3, by omega, hA1, m, b, l1, hm, hm0, hnz, hch, (pif_neg (by rw [hb]; decide)).mpr rfl⟩
  · refine gT_n 2 ?_
    refine ⟨rfl, rfl, gTM.use (c_addAnswer hz oW hT hW hP hB1 hl8 hA1 (hsg (bI_1 κ1)) hn hs (hk1.1 5 (by decide)) (hk1.1 4 (by decide)) (congrFun hk1.2 3)) (Nat.le_refl _) (fun r u hq => ?_)⟩
    obtain ⟨rfl, I2, J2, l2, rfl, hk2, hB2, hl10, hA2, han⟩ := hq  -- X5_addAnswer[R145]
    refine gT_n 2 ?_
    have e := c_sealLoop (d := d) (I0 := I) (J0 := J) (Ia := I2) (J := J2) hP hl10 hA2 0 (by omega) I2 aK_self (cBs_0 hB2)
    refine gT_k (gT_mono _ _ _ _ _ _ _ _ _ (fun r u h => ?_) e) ⟨rfl, rfl, trivial⟩ rfl
    obtain ⟨h1, I3, h2, hk3, hB3⟩ := h
    exact ⟨h1, I3, J2, l2, h2, ⟨(hk3.1 2 (by decide)).trans ((hk2.1 2 (by decide)).trans (hk1.1 2 (by decide))), (hk3.1 4 (by decide)).trans ((hk2.1 4 (by decide)).trans (hk1.1 4 (by decide))), (hk3.1 5 (by decide)).trans ((hk2.1 5 (by decide)).trans (hk1.1 5 (by decide))), (hk3.1 6 (by decide)).trans ((hk2.1 6 (by decide)).trans (hk1.1 6 (by decide))), (congrFun hk2.2 3).trans (congrFun hk1.2 3)⟩, hB3, hl10, hA2, m, b, l1, hm, hm0, hnz, hch, (pif_pos (bI_1 κ1)).mpr han⟩
def setQ (s : zS) (p : zP) : zS := (s.1, s.2.1, s.2.2.1, s.2.2.2.1, s.2.2.2.2.1, some p, s.2.2.2.2.2.2)
def fAskO (s : zS) (so x : Int32) (s' : zS) : Prop := pif (inZ 3 so) (∃ q l, q < 3 ∧ so = nI q ∧ fAsk s.2.2.1 s.2.2.2.1 s.2.2.2.2.1 q l ∧ l.length ≤ 10 ∧ vIs s.2.2.1 l ∧ x = nI l.length ∧ s' = setQ s (l.map qS, s.2.2.2.2.1, q, zof s.2.2.1 s.2.2.2.2.1, s.2.2.2.1.2.2.2.2.1)) (x = -1 ∧ s' = s)
theorem setQ_ok {s : zS} {l : List zI} {q : Nat} {ck : Int32} (h : sOK s) (h10 : l.length ≤ 10) (hA : vIs s.2.2.1 l) (hq : q < 3) : sOK (setQ s (l.map qS, s.2.2.2.2.1, q, zof s.2.2.1 s.2.2.2.2.1, ck)) := by
  obtain ⟨a, b, c, e, f, g⟩ := h
  refine ⟨a, b, c, e, fun p hp => ?_, g⟩
  cases hp
  refine ⟨by rw [List.length_map]; exact h10, fun r hr => ?_, e, hq, rfl⟩
  obtain ⟨r0, h0, rfl⟩ := List.mem_map.mp hr
  exact hA r0 h0
theorem cP_of {I : Nat → Nat → Int32} {J : Nat → Nat → Int64} {P : Nat → Nat} {l : List zI} {n s z : Nat} {ck : Int32} (hP : pP P) (h10 : l.length ≤ 10) (hB : cB I J P l) (h : I 145 4 = nI s ∧ I 145 5 = nI z ∧ I 145 6 = ck ∧ J 145 3 = lN n) : cP I J P (l, n, s, z, ck) := by
  refine ⟨hB.1, h.2.2.2, h.1, h.2.1, h.2.2.1, fun k hk j hj e => ?_⟩
  obtain ⟨a, b, c⟩ := iF_at (I := I) (J := J) hj
  have hk' : k < l.length := hk
  have g := hB.2 k hk'
  rw [e] at g
  rw [a, b, c]; exact g
theorem aM_P {I X : Nat → Nat → Int32} {J Y : Nat → Nat → Int64} {P : Nat → Nat} {l : List zI} (hP : pP P) (h10 : l.length ≤ 10) (h : cB X Y P l) : cB (aMI I X) (aMJ J Y) P l := by
  refine ⟨h.1, fun k hk => ?_⟩
  have hr := pP_r hP (k := k) (by omega)
  rw [aM_at (by omega), aM_at (by omega), aJ_at (by omega)]
  exact h.2 k hk
theorem o_ask_c {d : Nat} {s : zS} {I : Nat → Nat → Int32} {J : Nat → Nat → Int64} {P : Nat → Nat} {so : Int32} (hO : sOK s) (hC : RC s I J P) (hM : RM s I J) : gTM (d + 9) 130 [.ref 0, .int so] (gST I J P) (pC s (fAskO s so)) := by
  obtain ⟨tp, fn, t, W, nm, pr, ch, i0, i1⟩ := s
  have hO0 := hO
  have hC0 := hC
  have hM0 := hM
  obtain ⟨oTp, oT, oW, oN, oP, oI0, oI1⟩ := hO
  obtain ⟨kTp, kF, kT, kW, kN, kP, kC, kI0, kI1, kB, kPP⟩ := hC
  obtain ⟨jTp, jF, jT, jSp, jW, jN, jP, jC, jI0, jI1, jB, jL⟩ := hM
  dsimp only at oTp oT oW oN oP oI0 oI1 kTp kF kT kW kN kP kC kI0 kI1 jTp jF jT jSp jW jN jP jC jI0 jI1
  try dsimp only
  by_cases hh : inZ 3 so
  · obtain ⟨q, hq, rfl⟩ := hh
    have key : gTM (d + 9) 130 [.ref 0, .int (nI q)] (gST (aMI I I) (aMJ J J) P) (pC (tp, fn, t, W, nm, pr, ch, i0, i1) (fAskO (tp, fn, t, W, nm, pr, ch, i0, i1) (nI q))) := by
      refine gT_n 2 ?_
      refine ⟨rfl, gTM.use (c_isSort1 ⟨q, hq, rfl⟩) (Nat.le_refl _) (fun r u hq => ?_)⟩
      obtain ⟨rfl, rfl⟩ := hq  -- X11_isSort[nI q]
      refine gT_n 1 ?_
      refine ⟨fun _ => ?_, fun c => absurd c (by decide)⟩
      refine gT_n 6 ?_
      refine ⟨rfl, rfl, rfl, rfl, gTM.useA (c_make oT oW kT kW kPP oN hq) (Nat.le_refl _) (aR (aL (kN) (aI (rfl) (rfl)))) (fun r u hq => ?_)⟩
      obtain ⟨rfl, I1, J1, l, rfl, ⟨f2, f4, f5, f6, f3⟩, hB, hl10, hA, hAs⟩ := hq  -- X5_make[R145, lN nm, nI q]
      refine gT_n 4 ?_
      refine ⟨rfl, rfl, ?_⟩
      have e := cP_of kPP (by rw [List.length_map]; exact hl10) (aM_P (I := I) (J := J) kPP (by rw [List.length_map]; exact hl10) hB) (n := nm) (s := q) (z := zof t nm) (ck := W.2.2.2.2.1) ⟨f4, f5, f6, f3⟩
      exact ⟨_, _, aMI I I1, aMJ J J1, P, rfl, ri (hB.1.trans (congrArg nI (List.length_map qS))), ⟨(pif_pos ⟨q, hq, rfl⟩).mpr ⟨q, l, hq, rfl, hAs, hl10, hA, rfl, rfl⟩, setQ_ok hO0 hl10 hA hq⟩, ⟨kTp, kF, kT, kW, kN, ⟨f2, fun p hp => by cases hp; exact e⟩, kC, kI0, kI1, kB, kPP⟩, hM0⟩
    rw [aM_self, aJ_self] at key
    exact key
  · refine gT_n 2 ?_
    refine ⟨rfl, gTM.use (c_isSort) (Nat.le_refl _) (fun r u hq => ?_)⟩
    obtain ⟨rfl, ⟨rfl, β1⟩ | ⟨rfl, β1⟩⟩ := hq  -- X11_isSort[so]
    · refine gT_n 1 ?_
      refine ⟨fun _ => ?_, fun c => absurd c (by decide)⟩
      exact absurd β1 hh
    · refine gT_n 1 ?_
      refine ⟨fun c => absurd (by decide) c, fun _ => ?_⟩
      refine gT_n 2 ?_
      exact ⟨_, _, I, J, P, rfl, rfl, ⟨(pif_neg hh).mpr ⟨rfl, rfl⟩, hO0⟩, hC0, hM0⟩
