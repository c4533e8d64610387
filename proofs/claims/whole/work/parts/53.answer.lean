/-! answers -/
theorem rVal_one {l l' : zR} {n s : Nat} {x y : Int32} (hr : rOK l) (hp : l'.Perm l) (h : rVal l n s x) (g : rVal l' n s y) : x = y := by
  rcases h with ⟨v, hv, rfl⟩ | ⟨hn, rfl⟩
  · rcases g with ⟨w, hw, rfl⟩ | ⟨gn, rfl⟩
    · have e := (r_one hr (List.perm_cons_erase hv).symm (List.perm_cons_erase (hp.mem_iff.mp hw)).symm).1
      rw [e]
    · exact absurd (hp.mem_iff.mpr hv) (gn v)
  · rcases g with ⟨w, hw, rfl⟩ | ⟨gn, rfl⟩
    · exact absurd (hp.mem_iff.mp hw) (hn w)
    · rfl
/-- what is told of an answer -/
def aV (l : zR) (n q k : Nat) (v x : Int32) : Prop := pif (v = 0) (rVal l n q x) (pif (v = 2) (rVal l (nlon (nfst n k) 1) q x) (x = -4))
def fAns (s : zS) (so w x : Int32) : Prop := pif (inZ 3 so ∧ (0 ≤ w ∧ w ≤ 2)) (∃ q, q < 3 ∧ so = nI q ∧ pif (w = 2) (pif (aSg s.2.2.1 (zof s.2.2.1 s.2.2.2.2.1)) (x = 1) (x = 0)) (∃ os k v, oIs os (fG s.2.2.1 s.2.2.2.1.1 (zof s.2.2.1 s.2.2.2.2.1)) ∧ os.length ≤ 28 ∧ isC os s.2.2.2.2.1 k ∧ fOc (fG s.2.2.1 s.2.2.2.1.1 (zof s.2.2.1 s.2.2.2.2.1)) s.2.2.2.2.1 q k v ∧ pif (w = 0) (x = v) (aV s.2.2.2.1.1 s.2.2.2.2.1 q k v x))) (x = -1)
theorem fOc_one {f : Nat → Nat} {n s k : Nat} {x y : Int32} (h : fOc f n s k x) (g : fOc f n s k y) : x = y := by
  have P1 : ∀ {c a b a' b' : Prop}, pif c a b → pif c a' b' → (a → a' → x = y) → (b → b' → x = y) → x = y := fun {c a b a' b'} h g f1 f2 => by
    by_cases hc : c
    · exact f1 (h.1 hc) (g.1 hc)
    · exact f2 (h.2 hc) (g.2 hc)
  have E1 : ∀ {v : Int32}, x = v → y = v → x = y := fun a b => a.trans b.symm
  exact P1 h g (fun h g => P1 h g E1 E1) (fun h g => P1 h g E1 (fun h g => P1 h g (fun h g => P1 h g E1 E1) E1))
theorem fOc_f {f g : Nat → Nat} {n s k : Nat} {x : Int32} (h : fOc f n s k x) (e : ∀ m, f m = g m) : fOc g n s k x := (funext e : f = g) ▸ h
theorem rno_bit {t : zT} {l : zR} {z n s : Nat} (hs : s < 3) (h : rno l n s) : ¬ (fG t l z n).testBit s = true := fun c => by
  obtain ⟨k, hk, h1, h2, h3⟩ := (fG_bit hs).mp c
  exact h k hk ⟨h1, h3⟩
theorem rhit_bit {t : zT} {l : zR} {z n s i : Nat} (hs : s < 3) (h : rhit l n s i) (hz : zof t n = z) : (fG t l z n).testBit s = true := (fG_bit hs).mpr ⟨i, h.1, h.2.1, hz, h.2.2⟩
theorem bit_pos {a s : Nat} (h : a.testBit s = true) : 0 < a := by
  rcases Nat.eq_zero_or_pos a with e | e
  · rw [e, Nat.zero_testBit] at h; exact absurd h (by decide)
  · exact e
theorem m_answerTo {d z n s : Nat} {t : zT} {lm : zR} {I : Nat → Nat → Int32} {J : Nat → Nat → Int64} {P : Nat → Nat} (hz : zOK t) (hT : mT (I 171 2) (J 172) (I 173) t) (hr : rOK lm) (hR : mR (I 171 7) (J 174) (I 175) (I 176) lm) (hzz : z < t.1) {os : zO} (hos : oIs os (fG t lm z)) (hn : vn n) (hzn : zof t n = z) (hs : s < 3) : gTM (d + 12) 212 [.ref 171, .int (nI z), .long (lN (mo n)), .int (nI s)] (gST I J P) (fun x u => u = gST I J P ∧ ∃ k v, isC os n k ∧ fOc (fG t lm z) n s k v ∧ x = some (.int v)) := by
  have h4 := hz.2.1
  have hkn : ¬ (0 < fG t lm z n ∨ (zof t n = z ∧ ∃ i, i < os.length ∧ nab n (og os i).1)) → ∀ {k}, isC os n k → ¬ k = cnt n := by
    intro hno k hC e
    apply hno
    have := hzn
    subst this
    exact ((thr_C hz hr hn hos hC).mpr e).elim Or.inl (fun q => Or.inr ⟨rfl, q⟩)
  have hstv : ∀ {k}, isC os n k → k < 4 → vn (nlon (nfst n k) 1) := fun hC hk => vn_lon (vn_fst hn (isC_le hC)) (by rw [cnt_fk hn hC.1]; exact hk) (Or.inl (by decide)) (by decide)
  refine gT_n 4 ?_
  refine ⟨rfl, rfl, gTM.use (m_recordOf_171 hr hR hn hs) (Nat.le_refl _) (fun r u hq => ?_)⟩
  obtain ⟨rfl, ⟨i, hi, rfl⟩ | ⟨hi, rfl⟩⟩ := hq  -- X12_recordOf[R171, lN n, nI s]
  · refine gT_n 2 ?_
    refine ⟨fun c => absurd c (nI_neg (rfl) (by have := hi.1; have := hr.1; omega)), fun _ => ?_⟩
    refine gT_n 2 ?_
    obtain ⟨k, hC⟩ := isC_ex (l := os) (n := n)
    exact ⟨rfl, k, 0, hC, (pif_pos (bit_pos (rhit_bit hs hi hzn))).mpr ((pif_pos (rhit_bit hs hi hzn)).mpr rfl), rfl⟩
  · refine gT_n 2 ?_
    refine ⟨fun _ => ?_, fun c => absurd (by decide) c⟩
    refine gT_n 4 ?_
    refine ⟨rfl, rfl, gTM.use (m_isThere hz hT hr hR hzz hos hn) (Nat.le_refl _) (fun r u hq => ?_)⟩
    obtain ⟨rfl, ⟨rfl, β1⟩ | ⟨rfl, β1⟩⟩ := hq  -- X12_isThere[R171, nI z, lN n]
    · refine gT_n 1 ?_
      refine ⟨fun c => absurd c (by decide), fun _ => ?_⟩
      refine gT_n 2 ?_
      obtain ⟨k, hC⟩ := isC_ex (l := os) (n := n)
      refine ⟨rfl, k, 1, hC, ?_, rfl⟩
      by_cases g : 0 < fG t lm z n
      · exact (pif_pos g).mpr ((pif_neg (rno_bit hs hi)).mpr rfl)
      · refine (pif_neg g).mpr ((pif_pos ?_).mpr rfl)
        subst hzn
        exact (thr_C hz hr hn hos hC).mp (β1.elim Or.inl (fun q => Or.inr q.2))
    · refine gT_n 1 ?_
      refine ⟨fun _ => ?_, fun c => absurd (by decide) c⟩
      refine gT_n 4 ?_
      refine ⟨rfl, rfl, gTM.use (m_starOf hz hT hr hR hzz hos hn hzn (fun k hC => by have := hkn β1 hC; have := hC.1; have := cnt_le n; omega)) (Nat.le_refl _) (fun r u hq => ?_)⟩
      obtain ⟨rfl, k, hC, rfl⟩ := hq  -- X12_starOf[R171, nI z, lN n]
      have hst : vn (nlon (nfst n k) 1) := hstv hC (by have := hkn β1 hC; have := hC.1; have := cnt_le n; omega)
      refine gT_n 5 ?_
      refine ⟨rfl, rfl, gTM.use (m_recordOf_171 hr hR hst hs) (Nat.le_refl _) (fun r u hq => ?_)⟩
      obtain ⟨rfl, ⟨i2, hi2, rfl⟩ | ⟨hi2, rfl⟩⟩ := hq  -- X12_recordOf[R171, lN ((nlon (nfst n k) 1)), nI s]
      · refine gT_n 2 ?_
        refine ⟨fun c => absurd c (nI_neg (rfl) (by have := hi2.1; have := hr.1; omega)), fun _ => ?_⟩
        refine gT_n 3 ?_
        refine ⟨rfl, rfl, gTM.use (m_zoneIn hz hT hst) (Nat.le_refl _) (fun r u hq => ?_)⟩
        obtain ⟨rfl, rfl⟩ := hq  -- X12_zoneIn[R171, lN ((nlon (nfst n k) 1))]
        refine gT_n 2 ?_
        refine pk_ne ((zof t (nlon (nfst n k) 1))) z (fun κ2 => ?_) (fun κ2 => ?_) (rfl) (rfl) (by have := zof_lt hz (nlon (nfst n k) 1); have := hz.2.1; omega) (by omega)
        · refine gT_n 4 ?_
          refine ⟨rfl, rfl, gTM.use (m_isOwner hz hT hr hR hzz hst (fG_64 hr)) (Nat.le_refl _) (fun r u hq => ?_)⟩
          obtain ⟨rfl, ⟨rfl, β3⟩ | ⟨rfl, β3⟩⟩ := hq  -- X12_isOwner[R171, nI z, lN ((nlon (nfst n k) 1))]
          · refine gT_n 1 ?_
            refine ⟨fun c => absurd c (by decide), fun _ => ?_⟩
            refine gT_n 3 ?_
            exact ⟨rfl, k, 3, hC, (pif_neg (fun q => β1 (Or.inl q))).mpr ((pif_neg (hkn β1 hC)).mpr ((pif_pos β3).mpr ((pif_neg (fun q => κ2 ((fG_bit hs).mp q).choose_spec.2.2.1)).mpr rfl))), rfl⟩
          · refine gT_n 1 ?_
            refine ⟨fun _ => ?_, fun c => absurd (by decide) c⟩
            refine gT_n 2 ?_
            exact ⟨rfl, k, 4, hC, (pif_neg (fun q => β1 (Or.inl q))).mpr ((pif_neg (hkn β1 hC)).mpr ((pif_neg β3).mpr rfl)), rfl⟩
        · refine gT_n 2 ?_
          exact ⟨rfl, k, 2, hC, (pif_neg (fun q => β1 (Or.inl q))).mpr ((pif_neg (hkn β1 hC)).mpr ((pif_pos (bit_pos (rhit_bit hs hi2 κ2))).mpr ((pif_pos (rhit_bit hs hi2 κ2)).mpr rfl))), rfl⟩
      · refine gT_n 2 ?_
        refine ⟨fun _ => ?_, fun c => absurd (by decide) c⟩
        refine gT_n 4 ?_
        refine ⟨rfl, rfl, gTM.use (m_isOwner hz hT hr hR hzz hst (fG_64 hr)) (Nat.le_refl _) (fun r u hq => ?_)⟩
        obtain ⟨rfl, ⟨rfl, β4⟩ | ⟨rfl, β4⟩⟩ := hq  -- X12_isOwner[R171, nI z, lN ((nlon (nfst n k) 1))]
        · refine gT_n 1 ?_
          refine ⟨fun c => absurd c (by decide), fun _ => ?_⟩
          refine gT_n 3 ?_
          exact ⟨rfl, k, 3, hC, (pif_neg (fun q => β1 (Or.inl q))).mpr ((pif_neg (hkn β1 hC)).mpr ((pif_pos β4).mpr ((pif_neg (rno_bit hs hi2)).mpr rfl))), rfl⟩
        · refine gT_n 1 ?_
          refine ⟨fun _ => ?_, fun c => absurd (by decide) c⟩
          refine gT_n 2 ?_
          exact ⟨rfl, k, 4, hC, (pif_neg (fun q => β1 (Or.inl q))).mpr ((pif_neg (hkn β1 hC)).mpr ((pif_neg β4).mpr rfl)), rfl⟩
theorem fOc_2 {f : Nat → Nat} {n s k : Nat} (h : fOc f n s k 2) : ¬ k = cnt n := fun e => by
  by_cases g : 0 < f n
  · have h := (pif_pos g).mp h
    by_cases b : (f n).testBit s = true
    · exact absurd ((pif_pos b).mp h) (by decide)
    · exact absurd ((pif_neg b).mp h) (by decide)
  · exact absurd ((pif_pos e).mp ((pif_neg g).mp h)) (by decide)
theorem w2_0 : ¬ (0 : Int32) = 2 := by decide
theorem w2_1 : ¬ (1 : Int32) = 2 := by decide
theorem w0_1 : ¬ (1 : Int32) = 0 := by decide
theorem o_answer_c {d : Nat} {s : zS} {I : Nat → Nat → Int32} {J : Nat → Nat → Int64} {P : Nat → Nat} {so w : Int32} (hO : sOK s) (hC : RC s I J P) (hM : RM s I J) : gTM (d + 14) 129 [.ref 0, .int so, .int w] (gST I J P) (pC s (fun x s' => fAns s so w x ∧ s' = s)) := by
  obtain ⟨tp, fn, t, W, nm, pr, ch, i0, i1⟩ := s
  have hO0 := hO
  have hC0 := hC
  have hM0 := hM
  obtain ⟨oTp, oT, oW, oN, oP, oI0, oI1⟩ := hO
  obtain ⟨kTp, kF, kT, kW, kN, kP, kC, kI0, kI1, kB, kPP⟩ := hC
  obtain ⟨jTp, jF, jT, jSp, jW, jN, jP, jC, jI0, jI1, jB, jL⟩ := hM
  dsimp only at oTp oT oW oN oP oI0 oI1 kTp kF kT kW kN kP kC kI0 kI1 jTp jF jT jSp jW jN jP jC jI0 jI1
  try dsimp only
  have hzz := zof_lt oT nm
  have h4 := oT.2.1
  by_cases hh : inZ 3 so ∧ (0 ≤ w ∧ w ≤ 2)
  · obtain ⟨⟨q, hq, rfl⟩, hw⟩ := hh
    have hh : inZ 3 (nI q) ∧ (0 ≤ w ∧ w ≤ 2) := ⟨⟨q, hq, rfl⟩, hw⟩
    rcases rng3 hw with rfl | rfl | rfl
    · refine gT_n 2 ?_
      refine ⟨rfl, gTM.use (c_isSort1 ⟨q, hq, rfl⟩) (Nat.le_refl _) (fun r u hq => ?_)⟩
      obtain ⟨rfl, rfl⟩ := hq  -- X11_isSort[nI q]
      refine gT_n 1 ?_
      refine ⟨fun c => absurd c (by decide), fun _ => ?_⟩
      refine gT_n 2 ?_
      refine ⟨fun c => absurd c (by decide), fun _ => ?_⟩
      refine gT_n 3 ?_
      refine ⟨fun _ => ?_, fun c => absurd (by decide) c⟩
      refine gT_n 5 ?_
      refine ⟨rfl, rfl, rfl, rfl, gTM.useA (c_zoneOf_12 oT kT.1 oN.lt) (Nat.le_refl _) (aR (aL (kN) (rfl))) (fun r u hq => ?_)⟩
      obtain ⟨rfl, rfl⟩ := hq  -- X8_zoneOf[R12, lN nm]
      refine gT_n 4 ?_
      refine ⟨fun _ => ?_, fun c => absurd c (by decide)⟩
      refine gT_n 4 ?_
      refine ⟨rfl, rfl, rfl, gTM.use (c_gather oT oW.1 kT kW.1 hzz) (Nat.le_refl _) (fun r u hq => ?_)⟩
      obtain ⟨rfl, c, A, B, os, rfl, hO, hos, h28⟩ := hq  -- X4_gather[R142, nI ((zof t nm))]
      refine gT_n 6 ?_
      refine ⟨rfl, rfl, rfl, rfl, gTM.useA (c_outcome hos h28 hO oN hq) (Nat.le_refl _) (aR (aL (kN) (aI (rfl) (rfl)))) (fun r u hq => ?_)⟩
      obtain ⟨rfl, k, v, hC, hv, rfl⟩ := hq  -- X4_outcome[R142, lN nm, nI q]
      refine gT_n 3 ?_
      refine ⟨fun c => absurd (by decide) c, fun _ => ?_⟩
      refine gT_n 2 ?_
      exact ⟨_, _, oMI I c B, oMJ J A, P, rfl, rfl, ⟨⟨(pif_pos hh).mpr ⟨q, hq, rfl, (pif_neg w2_0).mpr ⟨os, k, v, hos, h28, hC, hv, (pif_pos rfl).mpr rfl⟩⟩, rfl⟩, hO0⟩, hC0, hM0⟩
    · refine gT_n 2 ?_
      refine ⟨rfl, gTM.use (c_isSort1 ⟨q, hq, rfl⟩) (Nat.le_refl _) (fun r u hq => ?_)⟩
      obtain ⟨rfl, rfl⟩ := hq  -- X11_isSort[nI q]
      refine gT_n 1 ?_
      refine ⟨fun c => absurd c (by decide), fun _ => ?_⟩
      refine gT_n 2 ?_
      refine ⟨fun c => absurd c (by decide), fun _ => ?_⟩
      refine gT_n 3 ?_
      refine ⟨fun _ => ?_, fun c => absurd (by decide) c⟩
      refine gT_n 5 ?_
      refine ⟨rfl, rfl, rfl, rfl, gTM.useA (c_zoneOf_12 oT kT.1 oN.lt) (Nat.le_refl _) (aR (aL (kN) (rfl))) (fun r u hq => ?_)⟩
      obtain ⟨rfl, rfl⟩ := hq  -- X8_zoneOf[R12, lN nm]
      refine gT_n 4 ?_
      refine ⟨fun _ => ?_, fun c => absurd c (by decide)⟩
      refine gT_n 4 ?_
      refine ⟨rfl, rfl, rfl, gTM.use (c_gather oT oW.1 kT kW.1 hzz) (Nat.le_refl _) (fun r u hq => ?_)⟩
      obtain ⟨rfl, c, A, B, os, rfl, hO, hos, h28⟩ := hq  -- X4_gather[R142, nI ((zof t nm))]
      refine gT_n 6 ?_
      refine ⟨rfl, rfl, rfl, rfl, gTM.useA (c_outcome hos h28 hO oN hq) (Nat.le_refl _) (aR (aL (kN) (aI (rfl) (rfl)))) (fun r u hq => ?_)⟩
      obtain ⟨rfl, k, v, hC, hv, rfl⟩ := hq  -- X4_outcome[R142, lN nm, nI q]
      refine gT_n 3 ?_
      refine ⟨fun _ => ?_, fun c => absurd c (by decide)⟩
      refine gT_n 2 ?_
      refine px_ne (X := v) (Y := (0)) (rfl) (rfl) (fun κ1 => ?_) (fun κ1 => ?_)
      · refine gT_n 3 ?_
        refine px_ne (X := v) (Y := (2)) (rfl) (rfl) (fun κ2 => ?_) (fun κ2 => ?_)
        · refine gT_n 2 ?_
          exact ⟨_, _, oMI I c B, oMJ J A, P, rfl, rfl, ⟨⟨(pif_pos hh).mpr ⟨q, hq, rfl, (pif_neg w2_1).mpr ⟨os, k, v, hos, h28, hC, hv, (pif_neg w0_1).mpr ((pif_neg κ1).mpr ((pif_neg κ2).mpr rfl))⟩⟩, rfl⟩, hO0⟩, hC0, hM0⟩
        · refine gT_n 8 ?_
          refine ⟨rfl, rfl, rfl, rfl, rfl, rfl, gTM.useA (c_starFor hos h28 hO oN) (Nat.le_refl _) (aR (aL (kN) (rfl))) (fun r u hq => ?_)⟩
          obtain ⟨rfl, k2, hC2, rfl⟩ := hq  -- X4_starFor[R142, lN nm]
          refine gT_n 2 ?_
          refine ⟨rfl, rfl, gTM.use (c_valueOf oW.1 kW.1 (stf_vn oN hC2) hq) (Nat.le_refl _) (fun r u hq => ?_)⟩
          obtain ⟨rfl, x1, hx1, rfl⟩ := hq  -- X7_valueOf[R18, lN ((stf nm k2)), nI q]
          refine gT_n 2 ?_
          obtain rfl := isC_one hC hC2
          have est : stf nm k = nlon (nfst nm k) 1 := if_pos (by have h := fOc_2 (κ2 ▸ hv); have := hC.1; have := cnt_le nm; omega)
          rw [est] at hx1
          exact ⟨_, _, oMI I c B, oMJ J A, P, rfl, rfl, ⟨⟨(pif_pos hh).mpr ⟨q, hq, rfl, (pif_neg w2_1).mpr ⟨os, k, v, hos, h28, hC, hv, (pif_neg w0_1).mpr ((pif_neg κ1).mpr ((pif_pos κ2).mpr hx1))⟩⟩, rfl⟩, hO0⟩, hC0, hM0⟩
      · refine gT_n 7 ?_
        refine ⟨rfl, rfl, rfl, rfl, rfl, gTM.useA (c_valueOf oW.1 kW.1 oN hq) (Nat.le_refl _) (aR (aL (kN) (aI (rfl) (rfl)))) (fun r u hq => ?_)⟩
        obtain ⟨rfl, x1, hx1, rfl⟩ := hq  -- X7_valueOf[R18, lN nm, nI q]
        refine gT_n 1 ?_
        exact ⟨_, _, oMI I c B, oMJ J A, P, rfl, rfl, ⟨⟨(pif_pos hh).mpr ⟨q, hq, rfl, (pif_neg w2_1).mpr ⟨os, k, v, hos, h28, hC, hv, (pif_neg w0_1).mpr ((pif_pos κ1).mpr hx1)⟩⟩, rfl⟩, hO0⟩, hC0, hM0⟩
    · refine gT_n 2 ?_
      refine ⟨rfl, gTM.use (c_isSort1 ⟨q, hq, rfl⟩) (Nat.le_refl _) (fun r u hq => ?_)⟩
      obtain ⟨rfl, rfl⟩ := hq  -- X11_isSort[nI q]
      refine gT_n 1 ?_
      refine ⟨fun c => absurd c (by decide), fun _ => ?_⟩
      refine gT_n 2 ?_
      refine ⟨fun c => absurd c (by decide), fun _ => ?_⟩
      refine gT_n 3 ?_
      refine ⟨fun _ => ?_, fun c => absurd (by decide) c⟩
      refine gT_n 5 ?_
      refine ⟨rfl, rfl, rfl, rfl, gTM.useA (c_zoneOf_12 oT kT.1 oN.lt) (Nat.le_refl _) (aR (aL (kN) (rfl))) (fun r u hq => ?_)⟩
      obtain ⟨rfl, rfl⟩ := hq  -- X8_zoneOf[R12, lN nm]
      refine gT_n 4 ?_
      refine ⟨fun c => absurd (by decide) c, fun _ => ?_⟩
      refine gT_n 4 ?_
      refine ⟨rfl, rfl, rfl, gTM.use (c_sgDown oT kT hzz) (Nat.le_refl _) (fun r u hq => ?_)⟩
      obtain ⟨rfl, ⟨rfl, β1⟩ | ⟨rfl, β1⟩⟩ := hq  -- X8_isSignedDownTo[R12, nI ((zof t nm))]
      · refine gT_n 1 ?_
        refine ⟨fun c => absurd c (by decide), fun _ => ?_⟩
        refine gT_n 3 ?_
        exact ⟨_, _, I, J, P, rfl, rfl, ⟨⟨(pif_pos hh).mpr ⟨q, hq, rfl, (pif_pos rfl).mpr ((pif_pos β1).mpr rfl)⟩, rfl⟩, hO0⟩, hC0, hM0⟩
      · refine gT_n 1 ?_
        refine ⟨fun _ => ?_, fun c => absurd (by decide) c⟩
        refine gT_n 2 ?_
        exact ⟨_, _, I, J, P, rfl, rfl, ⟨⟨(pif_pos hh).mpr ⟨q, hq, rfl, (pif_pos rfl).mpr ((pif_neg β1).mpr rfl)⟩, rfl⟩, hO0⟩, hC0, hM0⟩
  · refine gT_n 2 ?_
    refine ⟨rfl, gTM.use (c_isSort) (Nat.le_refl _) (fun r u hq => ?_)⟩
    obtain ⟨rfl, ⟨rfl, β1⟩ | ⟨rfl, β1⟩⟩ := hq  -- X11_isSort[so]
    · refine gT_n 1 ?_
      refine ⟨fun c => absurd c (by decide), fun _ => ?_⟩
      refine gT_n 2 ?_
      refine px_lt (X := w) (Y := (0)) (rfl) (rfl) (fun κ2 => ?_) (fun κ2 => ?_)
      · refine gT_n 2 ?_
        exact ⟨_, _, I, J, P, rfl, rfl, ⟨⟨(pif_neg hh).mpr rfl, rfl⟩, hO0⟩, hC0, hM0⟩
      · refine gT_n 3 ?_
        refine px_le (X := w) (Y := (2)) (rfl) (rfl) (fun κ3 => ?_) (fun κ3 => ?_)
        · exact absurd ⟨β1, Int32.not_lt.mp κ2, κ3⟩ hh
        · refine gT_n 2 ?_
          exact ⟨_, _, I, J, P, rfl, rfl, ⟨⟨(pif_neg hh).mpr rfl, rfl⟩, hO0⟩, hC0, hM0⟩
    · refine gT_n 1 ?_
      refine ⟨fun _ => ?_, fun c => absurd (by decide) c⟩
      refine gT_n 2 ?_
      exact ⟨_, _, I, J, P, rfl, rfl, ⟨⟨(pif_neg hh).mpr rfl, rfl⟩, hO0⟩, hC0, hM0⟩
theorem m_valueBy {d z n s k : Nat} {v : Int32} {t : zT} {lm : zR} {I : Nat → Nat → Int32} {J : Nat → Nat → Int64} {P : Nat → Nat} (hz : zOK t) (hT : mT (I 171 2) (J 172) (I 173) t) (hr : rOK lm) (hR : mR (I 171 7) (J 174) (I 175) (I 176) lm) (hzz : z < t.1) {os : zO} (hos : oIs os (fG t lm z)) (hn : vn n) (hzn : zof t n = z) (hs : s < 3) (hN : J 171 16 = lN (mo n)) (hC : isC os n k) (hk4 : v = 2 → k < 4) : gTM (d + 12) 213 [.ref 171, .int (nI z), .int v, .int (nI s)] (gST I J P) (fun x u => u = gST I J P ∧ ∃ y, aV lm n s k v y ∧ x = some (.int y)) := by
  have h24 := hr.1
  refine gT_n 2 ?_
  refine px_ne (X := v) (Y := (0)) (rfl) (rfl) (fun κ1 => ?_) (fun κ1 => ?_)
  · refine gT_n 3 ?_
    refine px_ne (X := v) (Y := (2)) (rfl) (rfl) (fun κ2 => ?_) (fun κ2 => ?_)
    · refine gT_n 5 ?_
      refine ⟨fun c => absurd (by decide) c, fun _ => ?_⟩
      refine gT_n 3 ?_
      exact ⟨rfl, _, (pif_neg κ1).mpr ((pif_neg κ2).mpr rfl), rfl⟩
    · refine gT_n 6 ?_
      refine ⟨rfl, rfl, rfl, gTM.useA (m_starOf hz hT hr hR hzz hos hn hzn (fun k hC2 => by rw [isC_one hC2 hC]; exact hk4 κ2)) (Nat.le_refl _) (aR (aI (rfl) (aL (hN) (rfl)))) (fun r u hq => ?_)⟩
      obtain ⟨rfl, k2, hC2, rfl⟩ := hq  -- X12_starOf[R171, nI z, lN n]
      have hst : vn (nlon (nfst n k) 1) := vn_lon (vn_fst hn (isC_le hC)) (by rw [cnt_fk hn hC.1]; exact hk4 κ2) (Or.inl (by decide)) (by decide)
      refine gT_n 2 ?_
      refine ⟨rfl, rfl, gTM.useA (m_recordOf_171 hr hR hst hs) (Nat.le_refl _) (aR (aL (by rw [isC_one hC2 hC]) (aI (rfl) (rfl)))) (fun r u hq => ?_)⟩
      obtain ⟨rfl, ⟨i, ⟨hi1, hi2⟩, rfl⟩ | ⟨hi, rfl⟩⟩ := hq  -- X12_recordOf[R171, lN ((nlon (nfst n k) 1)), nI s]
      · refine gT_n 5 ?_
        refine ⟨fun _ => ?_, fun c => absurd c (nI_neg (rfl) (by have := hr.1; omega))⟩
        refine gT_n 5 ?_
        refine ⟨rfl, rfl, (pk_in i 25 (by omega) (rfl)), ?_⟩
        exact ⟨rfl, _, (pif_neg κ1).mpr ((pif_pos κ2).mpr (Or.inl ⟨_, rhit_mem ⟨hi1, hi2⟩, rfl⟩)), ri ((rdI (rfl) (by omega) (hR.2 i (by omega)).2.2))⟩
      · refine gT_n 5 ?_
        refine ⟨fun c => absurd (by decide) c, fun _ => ?_⟩
        refine gT_n 3 ?_
        exact ⟨rfl, _, (pif_neg κ1).mpr ((pif_pos κ2).mpr (Or.inr ⟨rno_mem.mp hi, rfl⟩)), rfl⟩
  · refine gT_n 5 ?_
    refine ⟨rfl, rfl, rfl, gTM.useA (m_recordOf_171 hr hR hn hs) (Nat.le_refl _) (aR (aL (hN) (aI (rfl) (rfl)))) (fun r u hq => ?_)⟩
    obtain ⟨rfl, ⟨i, ⟨hi1, hi2⟩, rfl⟩ | ⟨hi, rfl⟩⟩ := hq  -- X12_recordOf[R171, lN n, nI s]
    · refine gT_n 5 ?_
      refine ⟨fun _ => ?_, fun c => absurd c (nI_neg (rfl) (by have := hr.1; omega))⟩
      refine gT_n 5 ?_
      refine ⟨rfl, rfl, (pk_in i 25 (by omega) (rfl)), ?_⟩
      exact ⟨rfl, _, (pif_pos κ1).mpr (Or.inl ⟨_, rhit_mem ⟨hi1, hi2⟩, rfl⟩), ri ((rdI (rfl) (by omega) (hR.2 i (by omega)).2.2))⟩
    · refine gT_n 5 ?_
      refine ⟨fun c => absurd (by decide) c, fun _ => ?_⟩
      refine gT_n 3 ?_
      exact ⟨rfl, _, (pif_pos κ1).mpr (Or.inr ⟨rno_mem.mp hi, rfl⟩), rfl⟩
theorem aV_one {l lm : zR} {n q k : Nat} {v x y : Int32} (hr : rOK l) (hp : lm.Perm l) (h : aV l n q k v x) (g : aV lm n q k v y) : x = y := by
  by_cases a : v = 0
  · exact rVal_one hr hp ((pif_pos a).mp h) ((pif_pos a).mp g)
  · have h := (pif_neg a).mp h
    have g := (pif_neg a).mp g
    by_cases b : v = 2
    · exact rVal_one hr hp ((pif_pos b).mp h) ((pif_pos b).mp g)
    · exact ((pif_neg b).mp h).trans ((pif_neg b).mp g).symm
theorem o_answer_m {d : Nat} {s s' : zS} {x : Int32} {I : Nat → Nat → Int32} {J : Nat → Nat → Int64} {P : Nat → Nat} {so w : Int32} (hO : sOK s) (hS : (fun x s' => fAns s so w x ∧ s' = s) x s') (hC : RC s' I J P) (hM : RM s I J) : gTM (d + 14) 215 [.ref 171, .int so, .int w] (gST I J P) (pM x s') := by
  obtain ⟨tp, fn, t, W, nm, pr, ch, i0, i1⟩ := s
  have hO0 := hO
  have hM0 := hM
  obtain ⟨oTp, oT, oW, oN, oP, oI0, oI1⟩ := hO
  obtain ⟨jTp, jF, jT, jSp, jW, jN, jP, jC, jI0, jI1, jB, jL⟩ := hM
  dsimp only at oTp oT oW oN oP oI0 oI1 jTp jF jT jSp jW jN jP jC jI0 jI1
  try dsimp only at hS
  have hzz := zof_lt oT nm
  have h4 := oT.2.1
  obtain ⟨hS, rfl⟩ := hS
  obtain ⟨lm, hp, hR⟩ := jW.1
  have hr := rOK_perm hp.symm oW.1
  by_cases hh : inZ 3 so ∧ (0 ≤ w ∧ w ≤ 2)
  · have hT := (pif_pos hh).mp hS
    clear hS
    obtain ⟨q, hq, rfl, hS⟩ := hT
    try dsimp only at hS
    rcases rng3 hh.2 with rfl | rfl | rfl
    · obtain ⟨os, k, v, hos, h28, hk, hv, hx⟩ := (pif_neg w2_0).mp hS
      have hom : oIs os (fG t lm (zof t nm)) := oIs_ext hos (fun n => fG_perm hp.symm)
      refine gT_n 5 ?_
      refine ⟨rfl, gTM.use (m_inZ1 (n := 3) (by omega) rfl rfl rfl ⟨q, hq, rfl⟩) (Nat.le_refl _) (fun r u hq => ?_)⟩
      obtain ⟨rfl, rfl⟩ := hq  -- X12_in[i2l(nI q), lN 0, lN 2]
      refine gT_n 1 ?_
      refine ⟨fun c => absurd c (by decide), fun _ => ?_⟩
      refine gT_n 5 ?_
      refine ⟨rfl, gTM.use (m_in1 (x := 0) (z := 2) rfl rfl (by decide)) (Nat.le_refl _) (fun r u hq => ?_)⟩
      obtain ⟨rfl, rfl⟩ := hq  -- X12_in[i2l(K0), lN 0, lN 2]
      refine gT_n 1 ?_
      refine ⟨fun _ => ?_, fun c => absurd c (by decide)⟩
      refine gT_n 4 ?_
      refine ⟨rfl, rfl, rfl, gTM.useA (m_zoneIn oT jT oN) (Nat.le_refl _) (aR (aL (jN) (rfl))) (fun r u hq => ?_)⟩
      obtain ⟨rfl, rfl⟩ := hq  -- X12_zoneIn[R171, lN nm]
      refine gT_n 7 ?_
      refine ⟨rfl, rfl, rfl, gTM.useA (m_answerTo oT jT hr hR hzz hom oN rfl hq) (Nat.le_refl _) (aR (aI (rfl) (aL (jN) (aI (rfl) (rfl))))) (fun r u hq => ?_)⟩
      obtain ⟨rfl, k2, v2, hC2, hv2, rfl⟩ := hq  -- X12_answerTo[R171, nI ((zof t nm)), lN nm, nI q]
      refine gT_n 3 ?_
      refine ⟨fun c => absurd (by decide) c, fun _ => ?_⟩
      refine gT_n 3 ?_
      exact ⟨I, J, P, rfl, ri (Eq.trans (fOc_one (fOc_f hv2 (fun m => fG_perm hp)) (isC_one hk hC2 ▸ hv)) ((pif_pos rfl).mp hx).symm), hC, hM0⟩
    · obtain ⟨os, k, v, hos, h28, hk, hv, hx⟩ := (pif_neg w2_1).mp hS
      have hom : oIs os (fG t lm (zof t nm)) := oIs_ext hos (fun n => fG_perm hp.symm)
      refine gT_n 5 ?_
      refine ⟨rfl, gTM.use (m_inZ1 (n := 3) (by omega) rfl rfl rfl ⟨q, hq, rfl⟩) (Nat.le_refl _) (fun r u hq => ?_)⟩
      obtain ⟨rfl, rfl⟩ := hq  -- X12_in[i2l(nI q), lN 0, lN 2]
      refine gT_n 1 ?_
      refine ⟨fun c => absurd c (by decide), fun _ => ?_⟩
      refine gT_n 5 ?_
      refine ⟨rfl, gTM.use (m_in1 (x := 0) (z := 2) rfl rfl (by decide)) (Nat.le_refl _) (fun r u hq => ?_)⟩
      obtain ⟨rfl, rfl⟩ := hq  -- X12_in[i2l(K1), lN 0, lN 2]
      refine gT_n 1 ?_
      refine ⟨fun _ => ?_, fun c => absurd c (by decide)⟩
      refine gT_n 4 ?_
      refine ⟨rfl, rfl, rfl, gTM.useA (m_zoneIn oT jT oN) (Nat.le_refl _) (aR (aL (jN) (rfl))) (fun r u hq => ?_)⟩
      obtain ⟨rfl, rfl⟩ := hq  -- X12_zoneIn[R171, lN nm]
      refine gT_n 7 ?_
      refine ⟨rfl, rfl, rfl, gTM.useA (m_answerTo oT jT hr hR hzz hom oN rfl hq) (Nat.le_refl _) (aR (aI (rfl) (aL (jN) (aI (rfl) (rfl))))) (fun r u hq => ?_)⟩
      obtain ⟨rfl, k2, v2, hC2, hv2, rfl⟩ := hq  -- X12_answerTo[R171, nI ((zof t nm)), lN nm, nI q]
      refine gT_n 3 ?_
      refine ⟨fun _ => ?_, fun c => absurd c (by decide)⟩
      refine gT_n 3 ?_
      refine ⟨fun c => absurd (by decide) c, fun _ => ?_⟩
      refine gT_n 5 ?_
      refine ⟨rfl, rfl, gTM.use (m_valueBy oT jT hr hR hzz hom oN rfl hq jN hC2 (fun e => by have h := fOc_2 (e ▸ hv2); have := hC2.1; have := cnt_le nm; omega)) (Nat.le_refl _) (fun r u hq => ?_)⟩
      obtain ⟨rfl, x1, hx1, rfl⟩ := hq  -- X12_valueBy[R171, nI ((zof t nm)), v2, nI q]
      refine gT_n 2 ?_
      obtain rfl := isC_one hk hC2
      obtain rfl := fOc_one hv (fOc_f hv2 (fun m => fG_perm hp))
      exact ⟨I, J, P, rfl, ri (aV_one oW.1 hp ((pif_neg w0_1).mp hx) hx1).symm, hC, hM0⟩
    · replace hS := (pif_pos rfl).mp hS
      have hom := (o_ex oT hr hzz).choose_spec.1
      refine gT_n 5 ?_
      refine ⟨rfl, gTM.use (m_inZ1 (n := 3) (by omega) rfl rfl rfl ⟨q, hq, rfl⟩) (Nat.le_refl _) (fun r u hq => ?_)⟩
      obtain ⟨rfl, rfl⟩ := hq  -- X12_in[i2l(nI q), lN 0, lN 2]
      refine gT_n 1 ?_
      refine ⟨fun c => absurd c (by decide), fun _ => ?_⟩
      refine gT_n 5 ?_
      refine ⟨rfl, gTM.use (m_in1 (x := 0) (z := 2) rfl rfl (by decide)) (Nat.le_refl _) (fun r u hq => ?_)⟩
      obtain ⟨rfl, rfl⟩ := hq  -- X12_in[i2l(K2), lN 0, lN 2]
      refine gT_n 1 ?_
      refine ⟨fun _ => ?_, fun c => absurd c (by decide)⟩
      refine gT_n 4 ?_
      refine ⟨rfl, rfl, rfl, gTM.useA (m_zoneIn oT jT oN) (Nat.le_refl _) (aR (aL (jN) (rfl))) (fun r u hq => ?_)⟩
      obtain ⟨rfl, rfl⟩ := hq  -- X12_zoneIn[R171, lN nm]
      refine gT_n 7 ?_
      refine ⟨rfl, rfl, rfl, gTM.useA (m_answerTo oT jT hr hR hzz hom oN rfl hq) (Nat.le_refl _) (aR (aI (rfl) (aL (jN) (aI (rfl) (rfl))))) (fun r u hq => ?_)⟩
      obtain ⟨rfl, k2, v2, hC2, hv2, rfl⟩ := hq  -- X12_answerTo[R171, nI ((zof t nm)), lN nm, nI q]
      refine gT_n 3 ?_
      refine ⟨fun _ => ?_, fun c => absurd c (by decide)⟩
      refine gT_n 3 ?_
      refine ⟨fun _ => ?_, fun c => absurd c (by decide)⟩
      refine gT_n 3 ?_
      refine ⟨rfl, rfl, gTM.use (m_areSigned oT jT hzz) (Nat.le_refl _) (fun r u hq => ?_)⟩
      obtain ⟨rfl, ⟨rfl, β1⟩ | ⟨rfl, β1⟩⟩ := hq  -- X12_areSigned[R171, nI ((zof t nm))]
      · refine gT_n 1 ?_
        refine ⟨fun c => absurd c (by decide), fun _ => ?_⟩
        refine gT_n 3 ?_
        exact ⟨I, J, P, rfl, ri ((pif_pos β1).mp hS).symm, hC, hM0⟩
      · refine gT_n 1 ?_
        refine ⟨fun _ => ?_, fun c => absurd (by decide) c⟩
        refine gT_n 2 ?_
        exact ⟨I, J, P, rfl, ri ((pif_neg β1).mp hS).symm, hC, hM0⟩
  · have e := (pif_neg hh).mp hS
    subst e
    refine gT_n 5 ?_
    refine ⟨rfl, gTM.use (m_inZ (n := 3) (by omega) rfl rfl rfl) (Nat.le_refl _) (fun r u hq => ?_)⟩
    obtain ⟨rfl, ⟨rfl, β1⟩ | ⟨rfl, β1⟩⟩ := hq  -- X12_in[L(so).toInt64, lN 0, lN 2]
    · refine gT_n 1 ?_
      refine ⟨fun c => absurd c (by decide), fun _ => ?_⟩
      refine gT_n 5 ?_
      refine ⟨rfl, gTM.use (m_inI (x := 0) (z := 2) rfl rfl) (Nat.le_refl _) (fun r u hq => ?_)⟩
      obtain ⟨rfl, ⟨rfl, β2⟩ | ⟨rfl, β2⟩⟩ := hq  -- X12_in[L(w).toInt64, lN 0, lN 2]
      · refine gT_n 1 ?_
        refine ⟨fun _ => ?_, fun c => absurd c (by decide)⟩
        exact absurd ⟨β1, β2⟩ hh
      · refine gT_n 1 ?_
        refine ⟨fun c => absurd (by decide) c, fun _ => ?_⟩
        refine gT_n 2 ?_
        exact ⟨I, J, P, rfl, rfl, hC, hM0⟩
    · refine gT_n 1 ?_
      refine ⟨fun _ => ?_, fun c => absurd (by decide) c⟩
      refine gT_n 2 ?_
      exact ⟨I, J, P, rfl, rfl, hC, hM0⟩
