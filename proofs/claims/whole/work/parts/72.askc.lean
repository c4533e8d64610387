/-! the answer's items; ask: the class -/
theorem nI_m1 {a : Nat} (h : 1 ≤ a) : nI a - 1 = nI (a - 1) := pk_subE rfl rfl h
theorem star_gt {t : zT} {l : zR} {n k : Nat} {os : zO} (hz : zOK t) (hr : rOK l) (hn : vn n) (ho : oIs os (fG t l (zof t n))) (hC : isC os n k) : t.2.1 (zof t n) < nlon (nfst n k) 1 := by
  have h1 := rch_apex hz hr hn ho
  have h2 := zof_pre hz hn.lt
  have c4 := cnt_le n
  have h3 : cnt (t.2.1 (zof t n)) ≤ cnt n := by
    have e := congrArg cnt h2
    rw [nfst_cnt hn.1 (cnt_le _)] at e
    omega
  have h4 : cnt (t.2.1 (zof t n)) ≤ k := by
    rcases Nat.lt_or_ge k (cnt (t.2.1 (zof t n))) with g | g
    · exact absurd h1 (hC.2.2 _ g h3)
    · exact g
  have h5 := nfst_le (nfst n k) (cnt (t.2.1 (zof t n)))
  have hk := hC.1
  rw [nfst_fst hn.lt (by omega) (by omega), Nat.min_eq_right h4, h2] at h5
  have : 0 < 1 * 2 ^ (15 * (3 - cnt (nfst n k))) := by rw [Nat.one_mul]; exact Nat.two_pow_pos _
  unfold nlon
  omega
theorem isA_1 {t : zT} {l : zR} {z n a : Nat} {os : zO} (hz : zOK t) (hr : rOK l) (ho : oIs os (fG t l z)) (h : t.2.1 z < n) (hA : isA os n a) : 1 ≤ a := by
  obtain ⟨h1, h2⟩ := own_0 hz hr ho
  rcases Nat.eq_zero_or_pos a with e | e
  · subst e
    have := hA.2.2 0 (Nat.le_refl _) h1
    omega
  · exact e
theorem apex_lt {t : zT} {l : zR} {n : Nat} (hz : zOK t) (hn : vn n) (h : ¬ 0 < fG t l (zof t n) n) : t.2.1 (zof t n) < n := by
  have h1 := zof_le hz hn.lt
  rcases Nat.lt_or_ge (t.2.1 (zof t n)) n with g | g
  · exact g
  · exact absurd (fG_pos.mpr (Or.inl (by omega))) h
theorem fOc_5 {f : Nat → Nat} {n s k : Nat} {v : Int32} (h : fOc f n s k v) : v = 0 ∨ v = 1 ∨ v = 2 ∨ v = 3 ∨ v = 4 := by
  by_cases g : 0 < f n
  · have h := (pif_pos g).mp h
    by_cases b : (f n).testBit s = true
    · exact Or.inl ((pif_pos b).mp h)
    · exact Or.inr (Or.inl ((pif_neg b).mp h))
  · have h := (pif_neg g).mp h
    by_cases e : k = cnt n
    · exact Or.inr (Or.inl ((pif_pos e).mp h))
    · have h := (pif_neg e).mp h
      by_cases a : 0 < f (nlon (nfst n k) 1)
      · have h := (pif_pos a).mp h
        by_cases b : (f (nlon (nfst n k) 1)).testBit s = true
        · exact Or.inr (Or.inr (Or.inl ((pif_pos b).mp h)))
        · exact Or.inr (Or.inr (Or.inr (Or.inl ((pif_neg b).mp h))))
      · exact Or.inr (Or.inr (Or.inr (Or.inr ((pif_neg a).mp h))))
theorem fOc_ge {f : Nat → Nat} {n s k : Nat} {v : Int32} (h : fOc f n s k v) (h0 : ¬ v = 0) (h1 : ¬ v = 1) : ¬ 0 < f n ∧ ¬ k = cnt n := by
  refine ⟨fun g => ?_, fun e => ?_⟩
  · have h := (pif_pos g).mp h
    by_cases b : (f n).testBit s = true
    · exact h0 ((pif_pos b).mp h)
    · exact h1 ((pif_neg b).mp h)
  · by_cases g : 0 < f n
    · have h := (pif_pos g).mp h
      by_cases b : (f n).testBit s = true
      · exact h0 ((pif_pos b).mp h)
      · exact h1 ((pif_neg b).mp h)
    · exact h1 ((pif_pos e).mp ((pif_neg g).mp h))
theorem fOc_3 {f : Nat → Nat} {n s k : Nat} (h : fOc f n s k 3) : 0 < f (nlon (nfst n k) 1) := by
  obtain ⟨a, b⟩ := fOc_ge h (by decide) (by decide)
  have h := (pif_neg b).mp ((pif_neg a).mp h)
  by_cases c : 0 < f (nlon (nfst n k) 1)
  · exact c
  · exact absurd ((pif_neg c).mp h) (by decide)
theorem c_outcome5 {d n s : Nat} {I : Nat → Nat → Int32} {J : Nat → Nat → Int64} {P : Nat → Nat} {l : zO} {f : Nat → Nat} (hf : oIs l f) (h28 : l.length ≤ 28) (hO : cO (I 142 2) (J 143) (I 144) l) (hn : vn n) (hs : s < 3) : gTM (d + 4) 47 [.ref 142, .long (lN n), .int (nI s)] (gST I J P) (fun x u => u = gST I J P ∧ ∃ k, isC l n k ∧ ((fOc f n s k 0 ∧ x = some (.int 0)) ∨ (fOc f n s k 1 ∧ x = some (.int 1)) ∨ (fOc f n s k 2 ∧ x = some (.int 2)) ∨ (fOc f n s k 3 ∧ x = some (.int 3)) ∨ (fOc f n s k 4 ∧ x = some (.int 4)))) := by
  refine gTM.use (c_outcome hf h28 hO hn hs) (Nat.le_refl _) (fun r u h => ?_)
  obtain ⟨h1, k, v, h2, h3, h4⟩ := h
  refine ⟨h1, k, h2, ?_⟩
  rcases fOc_5 h3 with rfl | rfl | rfl | rfl | rfl
  · exact Or.inl ⟨h3, h4⟩
  · exact Or.inr (Or.inl ⟨h3, h4⟩)
  · exact Or.inr (Or.inr (Or.inl ⟨h3, h4⟩))
  · exact Or.inr (Or.inr (Or.inr (Or.inl ⟨h3, h4⟩)))
  · exact Or.inr (Or.inr (Or.inr (Or.inr ⟨h3, h4⟩)))
theorem c_coverOf {d n : Nat} {I : Nat → Nat → Int32} {J : Nat → Nat → Int64} {P : Nat → Nat} {l : zO} {f : Nat → Nat} (hf : oIs l f) (h28 : l.length ≤ 28) (hO : cO (I 142 2) (J 143) (I 144) l) (hn : n < 2 ^ 60) : gTM (d + 1) 43 [.ref 142, .long (lN n)] (gST I J P) (fun r u => u = gST I J P ∧ ∃ a, isA l n a ∧ r = some (.int (nI a - 1))) := by
  refine gT_n 3 ?_
  refine ⟨rfl, rfl, gTM.use (c_ahead hf h28 hO hn) (Nat.le_refl _) (fun r u hq => ?_)⟩
  obtain ⟨rfl, a, ha, rfl⟩ := hq  -- X4_howManyAhead[R142, lN n]
  refine gT_n 3 ?_
  exact ⟨rfl, a, ha, rfl⟩
/-- the items of the answer -/
def fAn (t : zT) (W : zW) (n s : Nat) (l l' : List zI) : Prop := ∃ os k v a, oIs os (fG t W.1 (zof t n)) ∧ os.length ≤ 28 ∧ isC os n k ∧ isA os n a ∧ fOc (fG t W.1 (zof t n)) n s k v ∧
  pif (v = 0) (∃ x, rVal W.1 n s x ∧ l' = l ++ [qRec W (zof t n) n s x])
  (pif (v = 1) (pif (0 < fG t W.1 (zof t n) n) (∃ i, i < os.length ∧ (og os i).1 = n ∧ l' = l ++ [qLnk W (zof t n) os i]) (l' = l ++ [qLnk W (zof t n) os (a - 1)]))
  (pif (v = 2) (∃ x, rVal W.1 (nlon (nfst n k) 1) s x ∧ l' = (l ++ [qRec W (zof t n) (nlon (nfst n k) 1) s x]) ++ [qLnk W (zof t n) os (a - 1)])
  (pif (v = 3) (∃ i, i < os.length ∧ (og os i).1 = nlon (nfst n k) 1 ∧ l' = (l ++ [qLnk W (zof t n) os i]) ++ [qLnk W (zof t n) os (a - 1)])
  (∃ b, isA os (nlon (nfst n k) 1) b ∧ pif (a = b) (l' = l ++ [qLnk W (zof t n) os (a - 1)]) (l' = (l ++ [qLnk W (zof t n) os (a - 1)]) ++ [qLnk W (zof t n) os (b - 1)])))))
theorem c_addAnswer {d : Nat} {I0 I : Nat → Nat → Int32} {J0 J : Nat → Nat → Int64} {P : Nat → Nat} {l : List zI} {t : zT} {W : zW} {n s : Nat} (hz : zOK t) (oW : wOK t W) (hT : cTr I0 J0 t) (hW : cW 17 I0 J0 W) (hP : pP P) (hB : cB I J P l) (hl8 : l.length ≤ 8) (hA : vIs t l) (hsg : t.2.2.1 (zof t n) = true) (hn : vn n) (hs : s < 3) (h5 : I 145 5 = nI (zof t n)) (h4s : I 145 4 = nI s) (h3n : J 145 3 = lN n) : gTM (d + 5) 53 [.ref 145] (gST (aMI I0 I) (aMJ J0 J) P) (fun r u => r = none ∧ ∃ I' J' l', u = gST (aMI I0 I') (aMJ J0 J') P ∧ aK I J I' J' ∧ cB I' J' P l' ∧ l'.length ≤ 10 ∧ vIs t l' ∧ fAn t W n s l l') := by
  have h4 := hz.2.1
  have hzz := zof_lt hz n
  refine gT_n 5 ?_
  refine ⟨rfl, rfl, rfl, rfl, gTM.useA (c_gatherA hz oW.1 hT hW hzz) (Nat.le_refl _) (aR (aI (h5) (rfl))) (fun r u hq => ?_)⟩
  obtain ⟨rfl, I1, J1, os, rfl, hG, hO1, hos, h28⟩ := hq  -- X4_gather[R142, nI ((zof t n))]
  have hB1 := cB_G hP (by omega) hG hB
  replace h5 := ((aK_G hG).1 5 (by decide)).trans h5
  replace h4s := ((aK_G hG).1 4 (by decide)).trans h4s
  replace h3n := (congrFun (aK_G hG).2 3).trans h3n
  refine gT_n 5 ?_
  refine ⟨rfl, rfl, rfl, rfl, gTM.useA (c_starFor (I := aMI I0 I1) (J := aMJ J0 J1) hos h28 hO1 hn) (Nat.le_refl _) (aR (aL (h3n) (rfl))) (fun r u hq => ?_)⟩
  obtain ⟨rfl, k2, hC2, rfl⟩ := hq  -- X4_starFor[R142, lN n]
  have hst : ∀ {k}, isC os n k → ¬ k = cnt n → stf n k2 = nlon (nfst n k) 1 := fun {k} hC hk => by
    obtain rfl := isC_one hC hC2
    exact if_pos (by have := hC.1; have := cnt_le n; omega)
  refine gT_n 6 ?_
  refine ⟨rfl, rfl, rfl, rfl, gTM.useA (c_coverOf (I := aMI I0 I1) (J := aMJ J0 J1) hos h28 hO1 hn.lt) (Nat.le_refl _) (aR (aL (h3n) (rfl))) (fun r u hq => ?_)⟩
  obtain ⟨rfl, a, ha, rfl⟩ := hq  -- X4_coverOf[R142, lN n]
  have ha1 : ¬ 0 < fG t W.1 (zof t n) n → 1 ≤ a := fun h => isA_1 hz oW.1 hos (apex_lt hz hn h) ha
  have hb1 : ∀ {k b}, fOc (fG t W.1 (zof t n)) n s k 4 → isA os (stf n k2) b → isC os n k → 1 ≤ b := fun {k b} hv hb hC => isA_1 hz oW.1 hos (by rw [hst hC (fOc_ge hv (by decide) (by decide)).2]; exact star_gt hz oW.1 hn hos hC) hb
  have hab : ∀ {k b}, fOc (fG t W.1 (zof t n)) n s k 4 → isA os (stf n k2) b → isC os n k → nI b - 1 = nI a - 1 → a = b := fun {k b} hv hb hC e => by
    have h1 := hb1 hv hb hC
    have h2 := ha1 (fOc_ge hv (by decide) (by decide)).1
    rw [nI_m1 h1, nI_m1 h2] at e
    have h3 := ha.1
    have h4 := hb.1
    have := (nI_eq (a := b - 1) (b := a - 1) (by omega) (by omega)).mp e
    omega
  refine gT_n 8 ?_
  refine ⟨rfl, rfl, rfl, rfl, rfl, gTM.useA (c_outcome5 (I := aMI I0 I1) (J := aMJ J0 J1) hos h28 hO1 hn hs) (Nat.le_refl _) (aR (aL (h3n) (aI (h4s) (rfl)))) (fun r u hq => ?_)⟩
  obtain ⟨rfl, k, hC, ⟨hv, rfl⟩ | ⟨hv, rfl⟩ | ⟨hv, rfl⟩ | ⟨hv, rfl⟩ | ⟨hv, rfl⟩⟩ := hq  -- X4_outcome[R142, lN n, nI s]
  · refine gT_n 1 ?_
    refine ⟨fun _ => ?_, fun c => absurd rfl c⟩
    refine gT_n 4 ?_
    refine ⟨rfl, rfl, rfl, gTM.useA (c_addRecord hz hW hT hP hB1 (by omega) hzz oW.1 hn hs h5 h4s) (Nat.le_refl _) (aR (aL (h3n) (rfl))) (fun r u hq => ?_)⟩
    obtain ⟨rfl, x, hx, I2, J2, rfl, hN2⟩ := hq  -- X5_addRecord[R145, lN n]
    have hB2 := aN_B hP (by omega) hB1 hN2
    have hO2 := aN_O hP (by omega) hN2 hO1
    replace h5 := (hN2.2.1 5 (by decide)).trans h5
    replace h4s := (hN2.2.1 4 (by decide)).trans h4s
    replace h3n := (congrFun (aN_I hP (by omega) hN2).2.2.2 3).trans h3n
    refine gT_n 2 ?_
    refine ⟨rfl, ?_⟩
    exact ⟨rfl, I2, J2, _, rfl, (aK_T (aK_G hG) (aK_N hP (by omega) hN2)), hB2, by simp only [List.length_append, List.length_singleton]; omega, (vIs_app hA (iOK_rec hz oW hzz hsg hn hs)), os, k, 0, a, hos, h28, hC, ha, hv, (pif_pos rfl).mpr (⟨x, hx, rfl⟩)⟩
  · refine gT_n 1 ?_
    refine ⟨fun c => absurd c (by decide), fun _ => ⟨fun _ => ?_, fun c => absurd rfl c⟩⟩
    refine gT_n 5 ?_
    refine ⟨rfl, rfl, rfl, rfl, gTM.useA (c_oix (I := aMI I0 I1) (J := aMJ J0 J1) hos h28 hO1 hn.lt) (Nat.le_refl _) (aR (aL (h3n) (rfl))) (fun r u hq => ?_)⟩
    obtain ⟨rfl, ⟨i, hi, ei, rfl⟩ | ⟨rfl, hno⟩⟩ := hq  -- X4_indexOf[R142, lN n]
    · refine gT_n 6 ?_
      refine ⟨rfl, fun c => absurd c (nI_pos (by omega)), fun _ => ?_⟩
      refine gT_n 3 ?_
      refine ⟨rfl, rfl, gTM.useA (c_addLink hz hW hT hP hB1 (by omega) h28 hO1 hi hzz) (Nat.le_refl _) (aR (aI (h5) (aI (rfl) (rfl)))) (fun r u hq => ?_)⟩
      obtain ⟨rfl, I2, J2, rfl, hN2⟩ := hq  -- X5_addLink[R145, nI (((zof t n))), nI i]
      have hB2 := aN_B hP (by omega) hB1 hN2
      have hO2 := aN_O hP (by omega) hN2 hO1
      replace h5 := (hN2.2.1 5 (by decide)).trans h5
      replace h4s := (hN2.2.1 4 (by decide)).trans h4s
      replace h3n := (congrFun (aN_I hP (by omega) hN2).2.2.2 3).trans h3n
      refine gT_n 2 ?_
      refine ⟨rfl, ?_⟩
      exact ⟨rfl, I2, J2, _, rfl, (aK_T (aK_G hG) (aK_N hP (by omega) hN2)), hB2, by simp only [List.length_append, List.length_singleton]; omega, (vIs_app hA (iOK_lnk hz oW hzz hsg hos hi)), os, k, 1, a, hos, h28, hC, ha, hv, (pif_neg (by decide : ¬ (1 : Int32) = 0)).mpr ((pif_pos rfl).mpr ((pif_pos (oIs_ye hos hi ei)).mpr ⟨i, hi, ei, rfl⟩))⟩
    · refine gT_n 6 ?_
      refine ⟨rfl, fun _ => ?_, fun c => absurd (by decide) c⟩
      refine gT_n 2 ?_
      refine ⟨rfl, rfl, gTM.useA (c_addLink hz hW hT hP hB1 (by omega) h28 hO1 (by have := ha.1; have := ha1 (oIs_no hos hno); omega) hzz) (Nat.le_refl _) (aR (aI (h5) (aI (nI_m1 (ha1 (oIs_no hos hno))) (rfl)))) (fun r u hq => ?_)⟩
      obtain ⟨rfl, I2, J2, rfl, hN2⟩ := hq  -- X5_addLink[R145, nI (((zof t n))), nI ((a - 1))]
      have hB2 := aN_B hP (by omega) hB1 hN2
      have hO2 := aN_O hP (by omega) hN2 hO1
      replace h5 := (hN2.2.1 5 (by decide)).trans h5
      replace h4s := (hN2.2.1 4 (by decide)).trans h4s
      replace h3n := (congrFun (aN_I hP (by omega) hN2).2.2.2 3).trans h3n
      refine gT_n 2 ?_
      refine ⟨rfl, ?_⟩
      exact ⟨rfl, I2, J2, _, rfl, (aK_T (aK_G hG) (aK_N hP (by omega) hN2)), hB2, by simp only [List.length_append, List.length_singleton]; omega, (vIs_app hA (iOK_lnk hz oW hzz hsg hos (by have := ha.1; have := ha1 (oIs_no hos hno); omega))), os, k, 1, a, hos, h28, hC, ha, hv, (pif_neg (by decide : ¬ (1 : Int32) = 0)).mpr ((pif_pos rfl).mpr ((pif_neg (oIs_no hos hno)).mpr rfl))⟩
  · refine gT_n 1 ?_
    refine ⟨fun c => absurd c (by decide), fun _ => ⟨fun c => absurd c (by decide), fun _ => ⟨fun _ => ?_, fun c => absurd rfl c⟩⟩⟩
    refine gT_n 3 ?_
    refine ⟨rfl, rfl, gTM.use (c_addRecord hz hW hT hP hB1 (by omega) hzz oW.1 (stf_vn hn hC2) hs h5 h4s) (Nat.le_refl _) (fun r u hq => ?_)⟩
    obtain ⟨rfl, x, hx, I2, J2, rfl, hN2⟩ := hq  -- X5_addRecord[R145, lN ((stf n k2))]
    have hB2 := aN_B hP (by omega) hB1 hN2
    have hO2 := aN_O hP (by omega) hN2 hO1
    replace h5 := (hN2.2.1 5 (by decide)).trans h5
    replace h4s := (hN2.2.1 4 (by decide)).trans h4s
    replace h3n := (congrFun (aN_I hP (by omega) hN2).2.2.2 3).trans h3n
    refine gT_n 5 ?_
    refine ⟨rfl, rfl, rfl, gTM.useA (c_addLink hz hW hT hP hB2 (by rw [List.length_append]; show l.length + 1 < 10; omega) h28 hO2 (by have := ha.1; have := ha1 (fOc_ge hv (by decide) (by decide)).1; omega) hzz) (Nat.le_refl _) (aR (aI (h5) (aI (nI_m1 (ha1 (fOc_ge hv (by decide) (by decide)).1)) (rfl)))) (fun r u hq => ?_)⟩
    obtain ⟨rfl, I3, J3, rfl, hN3⟩ := hq  -- X5_addLink[R145, nI (((zof t n))), nI ((a - 1))]
    have hB3 := aN_B hP (by rw [List.length_append]; show l.length + 1 < 10; omega) hB2 hN3
    have hO3 := aN_O hP (by rw [List.length_append]; show l.length + 1 < 10; omega) hN3 hO2
    replace h5 := (hN3.2.1 5 (by decide)).trans h5
    replace h4s := (hN3.2.1 4 (by decide)).trans h4s
    replace h3n := (congrFun (aN_I hP (by rw [List.length_append]; show l.length + 1 < 10; omega) hN3).2.2.2 3).trans h3n
    refine gT_n 2 ?_
    refine ⟨rfl, ?_⟩
    have est := hst hC (fOc_ge hv (by decide) (by decide)).2
    exact ⟨rfl, I3, J3, _, rfl, (aK_T (aK_T (aK_G hG) (aK_N hP (by omega) hN2)) (aK_N hP (by rw [List.length_append]; show l.length + 1 < 10; omega) hN3)), hB3, by simp only [List.length_append, List.length_singleton]; omega, (vIs_app (vIs_app hA (iOK_rec hz oW hzz hsg (stf_vn hn hC2) hs)) (iOK_lnk hz oW hzz hsg hos (by have := ha.1; have := ha1 (fOc_ge hv (by decide) (by decide)).1; omega))), os, k, 2, a, hos, h28, hC, ha, hv, (pif_neg (by decide : ¬ (2 : Int32) = 0)).mpr ((pif_neg (by decide : ¬ (2 : Int32) = 1)).mpr ((pif_pos rfl).mpr (⟨x, by rw [← est]; exact hx, by rw [← est]⟩)))⟩
  · refine gT_n 1 ?_
    refine ⟨fun c => absurd c (by decide), fun _ => ⟨fun c => absurd c (by decide), fun _ => ⟨fun c => absurd c (by decide), fun _ => ⟨fun _ => ?_, fun c => absurd rfl c⟩⟩⟩⟩
    refine gT_n 7 ?_
    refine ⟨rfl, rfl, rfl, rfl, gTM.use (c_oixY (I := aMI I0 I1) (J := aMJ J0 J1) hos h28 hO1 (stf_vn hn hC2).lt (by rw [hst hC (fOc_ge hv (by decide) (by decide)).2]; exact fOc_3 hv)) (Nat.le_refl _) (fun r u hq => ?_)⟩
    obtain ⟨rfl, i, hi, ei, rfl⟩ := hq  -- X4_indexOf[R142, lN ((stf n k2))]
    refine gT_n 1 ?_
    refine ⟨rfl, rfl, gTM.useA (c_addLink hz hW hT hP hB1 (by omega) h28 hO1 hi hzz) (Nat.le_refl _) (aR (aI (h5) (aI (rfl) (rfl)))) (fun r u hq => ?_)⟩
    obtain ⟨rfl, I2, J2, rfl, hN2⟩ := hq  -- X5_addLink[R145, nI (((zof t n))), nI i]
    have hB2 := aN_B hP (by omega) hB1 hN2
    have hO2 := aN_O hP (by omega) hN2 hO1
    replace h5 := (hN2.2.1 5 (by decide)).trans h5
    replace h4s := (hN2.2.1 4 (by decide)).trans h4s
    replace h3n := (congrFun (aN_I hP (by omega) hN2).2.2.2 3).trans h3n
    refine gT_n 5 ?_
    refine ⟨rfl, rfl, rfl, gTM.useA (c_addLink hz hW hT hP hB2 (by rw [List.length_append]; show l.length + 1 < 10; omega) h28 hO2 (by have := ha.1; have := ha1 (fOc_ge hv (by decide) (by decide)).1; omega) hzz) (Nat.le_refl _) (aR (aI (h5) (aI (nI_m1 (ha1 (fOc_ge hv (by decide) (by decide)).1)) (rfl)))) (fun r u hq => ?_)⟩
    obtain ⟨rfl, I3, J3, rfl, hN3⟩ := hq  -- X5_addLink[R145, nI (((zof t n))), nI ((a - 1))]
    have hB3 := aN_B hP (by rw [List.length_append]; show l.length + 1 < 10; omega) hB2 hN3
    have hO3 := aN_O hP (by rw [List.length_append]; show l.length + 1 < 10; omega) hN3 hO2
    replace h5 := (hN3.2.1 5 (by decide)).trans h5
    replace h4s := (hN3.2.1 4 (by decide)).trans h4s
    replace h3n := (congrFun (aN_I hP (by rw [List.length_append]; show l.length + 1 < 10; omega) hN3).2.2.2 3).trans h3n
    refine gT_n 2 ?_
    refine ⟨rfl, ?_⟩
    have est := hst hC (fOc_ge hv (by decide) (by decide)).2
    exact ⟨rfl, I3, J3, _, rfl, (aK_T (aK_T (aK_G hG) (aK_N hP (by omega) hN2)) (aK_N hP (by rw [List.length_append]; show l.length + 1 < 10; omega) hN3)), hB3, by simp only [List.length_append, List.length_singleton]; omega, (vIs_app (vIs_app hA (iOK_lnk hz oW hzz hsg hos hi)) (iOK_lnk hz oW hzz hsg hos (by have := ha.1; have := ha1 (fOc_ge hv (by decide) (by decide)).1; omega))), os, k, 3, a, hos, h28, hC, ha, hv, (pif_neg (by decide : ¬ (3 : Int32) = 0)).mpr ((pif_neg (by decide : ¬ (3 : Int32) = 1)).mpr ((pif_neg (by decide : ¬ (3 : Int32) = 2)).mpr ((pif_pos rfl).mpr (⟨i, hi, ei.trans est, rfl⟩))))⟩
  · refine gT_n 1 ?_
    refine ⟨fun c => absurd c (by decide), fun _ => ⟨fun c => absurd c (by decide), fun _ => ⟨fun c => absurd c (by decide), fun _ => ⟨fun c => absurd c (by decide), fun _ => ?_⟩⟩⟩⟩
    refine gT_n 4 ?_
    refine ⟨rfl, rfl, rfl, gTM.use (c_coverOf (I := aMI I0 I1) (J := aMJ J0 J1) hos h28 hO1 (stf_vn hn hC2).lt) (Nat.le_refl _) (fun r u hq => ?_)⟩
    obtain ⟨rfl, b, hb, rfl⟩ := hq  -- X4_coverOf[R142, lN ((stf n k2))]
    refine gT_n 6 ?_
    refine ⟨rfl, rfl, rfl, gTM.useA (c_addLink hz hW hT hP hB1 (by omega) h28 hO1 (by have := ha.1; have := ha1 (fOc_ge hv (by decide) (by decide)).1; omega) hzz) (Nat.le_refl _) (aR (aI (h5) (aI (nI_m1 (ha1 (fOc_ge hv (by decide) (by decide)).1)) (rfl)))) (fun r u hq => ?_)⟩
    obtain ⟨rfl, I2, J2, rfl, hN2⟩ := hq  -- X5_addLink[R145, nI (((zof t n))), nI ((a - 1))]
    have hB2 := aN_B hP (by omega) hB1 hN2
    have hO2 := aN_O hP (by omega) hN2 hO1
    replace h5 := (hN2.2.1 5 (by decide)).trans h5
    replace h4s := (hN2.2.1 4 (by decide)).trans h4s
    replace h3n := (congrFun (aN_I hP (by omega) hN2).2.2.2 3).trans h3n
    refine gT_n 3 ?_
    refine px_eq (X := (nI b - 1)) (Y := (nI a - 1)) (rfl) (rfl) (fun κ1 => ?_) (fun κ1 => ?_)
    · refine gT_n 1 ?_
      refine ⟨rfl, ?_⟩
      have est := hst hC (fOc_ge hv (by decide) (by decide)).2
      exact ⟨rfl, I2, J2, _, rfl, (aK_T (aK_G hG) (aK_N hP (by omega) hN2)), hB2, by simp only [List.length_append, List.length_singleton]; omega, (vIs_app hA (iOK_lnk hz oW hzz hsg hos (by have := ha.1; have := ha1 (fOc_ge hv (by decide) (by decide)).1; omega))), os, k, 4, a, hos, h28, hC, ha, hv, (pif_neg (by decide : ¬ (4 : Int32) = 0)).mpr ((pif_neg (by decide : ¬ (4 : Int32) = 1)).mpr ((pif_neg (by decide : ¬ (4 : Int32) = 2)).mpr ((pif_neg (by decide : ¬ (4 : Int32) = 3)).mpr (⟨b, by rw [← est]; exact hb, (pif_pos (hab hv hb hC κ1)).mpr rfl⟩))))⟩
    · refine gT_n 5 ?_
      refine ⟨rfl, rfl, rfl, gTM.useA (c_addLink hz hW hT hP hB2 (by rw [List.length_append]; show l.length + 1 < 10; omega) h28 hO2 (by have := hb.1; have := hb1 hv hb hC; omega) hzz) (Nat.le_refl _) (aR (aI (h5) (aI (nI_m1 (hb1 hv hb hC)) (rfl)))) (fun r u hq => ?_)⟩
      obtain ⟨rfl, I3, J3, rfl, hN3⟩ := hq  -- X5_addLink[R145, nI (((zof t n))), nI ((b - 1))]
      have hB3 := aN_B hP (by rw [List.length_append]; show l.length + 1 < 10; omega) hB2 hN3
      have hO3 := aN_O hP (by rw [List.length_append]; show l.length + 1 < 10; omega) hN3 hO2
      replace h5 := (hN3.2.1 5 (by decide)).trans h5
      replace h4s := (hN3.2.1 4 (by decide)).trans h4s
      replace h3n := (congrFun (aN_I hP (by rw [List.length_append]; show l.length + 1 < 10; omega) hN3).2.2.2 3).trans h3n
      refine gT_n 1 ?_
      refine ⟨rfl, ?_⟩
      have est := hst hC (fOc_ge hv (by decide) (by decide)).2
      exact ⟨rfl, I3, J3, _, rfl, (aK_T (aK_T (aK_G hG) (aK_N hP (by omega) hN2)) (aK_N hP (by rw [List.length_append]; show l.length + 1 < 10; omega) hN3)), hB3, by simp only [List.length_append, List.length_singleton]; omega, (vIs_app (vIs_app hA (iOK_lnk hz oW hzz hsg hos (by have := ha.1; have := ha1 (fOc_ge hv (by decide) (by decide)).1; omega))) (iOK_lnk hz oW hzz hsg hos (by have := hb.1; have := hb1 hv hb hC; omega))), os, k, 4, a, hos, h28, hC, ha, hv, (pif_neg (by decide : ¬ (4 : Int32) = 0)).mpr ((pif_neg (by decide : ¬ (4 : Int32) = 1)).mpr ((pif_neg (by decide : ¬ (4 : Int32) = 2)).mpr ((pif_neg (by decide : ¬ (4 : Int32) = 3)).mpr (⟨b, by rw [← est]; exact hb, (pif_neg (fun e => κ1 (by rw [e]))).mpr rfl⟩))))⟩
def qS (q : zI) : zI := qMk q (imrk q q.2.2.2.2.2.2.1)
def cBs (I : Nat → Nat → Int32) (J : Nat → Nat → Int64) (P : Nat → Nat) (l : List zI) (i : Nat) : Prop := I 145 1 = nI l.length ∧ ∀ k, k < l.length → cI (I (P k)) (I (P k + 1)) (J (P k)) (if k < i then qS (ig l k) else ig l k)
theorem ig_map {l : List zI} {f : zI → zI} {k : Nat} (h : k < l.length) : ig (l.map f) k = f (ig l k) := by
  unfold ig
  rw [List.getD_eq_getElem?_getD, List.getD_eq_getElem?_getD, List.getElem?_map, List.getElem?_eq_getElem h]; rfl
theorem c_sealLoop {d : Nat} {I0 Ia : Nat → Nat → Int32} {J0 J : Nat → Nat → Int64} {P : Nat → Nat} {t : zT} {l : List zI} (hP : pP P) (h10 : l.length ≤ 10) (hA : vIs t l) : ∀ i, i ≤ l.length → ∀ I, aK Ia J I J → cBs I J P l i → gT (d + 6) 51 57 [(4, .int (nI i)), (0, .ref 145)] [] (0, 0) (gST (aMI I0 I) (aMJ J0 J) P) (fun r u => r = none ∧ ∃ I', u = gST (aMI I0 I') (aMJ J0 J) P ∧ aK Ia J I' J ∧ cB I' J P (l.map qS)) := by
  refine loopU l.length (fun i hi ih => ?_)
  intro I hk hB
  by_cases hin : i < l.length
  · have hr := pP_r hP (k := i) (by omega)
    obtain ⟨jj, hjj, eP⟩ := pP_at hP (k := i) (by omega)
    have hb : iCell P (P i) := by rw [eP]; exact iCell_at hjj
    have hbb : 142 ≤ P i ∧ P i ≤ 166 := by omega
    have hq := hA _ (ig_mem hin)
    have hI : cI (aMI I0 I (P i)) (aMI I0 I (P i + 1)) (aMJ J0 J (P i)) (ig l i) := by
      have h := hB.2 i hin
      rw [if_neg (by omega)] at h
      rw [aM_at hbb, aM_at (by omega), aJ_at hbb]; exact h
    refine gT_n 4 ?_
    refine ⟨rfl, pk_le l.length i (fun κ1 => ?_) (fun κ1 => ?_) (hB.1) (rfl) (by omega) (by omega)⟩
    · refine gT_n 1 ?_
      refine ⟨rfl, ?_⟩
      obtain rfl : i = l.length := by omega
      exact ⟨rfl, I, rfl, hk, by rw [List.length_map]; exact hB.1, fun k hk => by rw [List.length_map] at hk; rw [ig_map hk]; have h := hB.2 k hk; rw [if_pos hk] at h; exact h⟩
    · refine gT_n 4 ?_
      refine ⟨rfl, rfl, (pk_in i 10 (by omega) (rfl)), ?_⟩
      refine gT_top (aa_ref (b := P i) (rfl) (by omega) rfl) ?_
      refine gT_n 1 ?_
      refine ⟨hb.ob, rfl, ?_⟩
      refine gT_n 3 ?_
      refine ⟨hb.ob, rfl, gTM.use (c_rightMark (I := aMI I0 I) (J := aMJ J0 J) hb hI hq) (Nat.le_refl _) (fun r u hq => ?_)⟩
      obtain ⟨rfl, rfl⟩ := hq  -- X1_rightMark[Rb]
      refine gT_n 1 ?_
      refine ⟨hb.ob, ?_⟩
      refine gT_aP hbb (X := (imrk (ig l i) (ig l i).2.2.2.2.2.2.1)) (rfl) ?_
      refine gT_n 1 ?_
      refine ⟨rfl, ?_⟩
      show gT _ 51 76 _ _ _ _ _
      refine gT_n 2 ?_
      have e := ih (i + 1) (by omega) (by omega) (gupI I (P i) 7 (imrk (ig l i) (ig l i).2.2.2.2.2.2.1)) ⟨fun f hf => by rw [gupI_n (by omega)]; exact hk.1 f hf, hk.2⟩ ⟨by rw [gupI_n (by omega)]; exact hB.1, fun k hk => ?_⟩
      · rw [← nI_1 i] at e
        exact gT_k e ⟨rfl, rfl, trivial⟩ rfl
      obtain ⟨p, hp, inj⟩ := hP
      have a1 := (hp k (by omega)).2
      have a2 := (hp i (by omega)).2
      have h := hB.2 k hk
      by_cases g : k = i
      · subst g
        rw [if_neg (by omega)] at h
        rw [if_pos (by omega), gupI_b, gupI_n (by omega)]
        exact ⟨⟨h.1.1, h.1.2.1, h.1.2.2.1, h.1.2.2.2.1, rfl⟩, h.2⟩
      · have ne : ¬ p k = p i := fun c => g (inj k i (by omega) (by omega) c)
        rw [gupI_n (by omega), gupI_n (by omega)]
        have e1 : (k < i + 1) = (k < i) := propext ⟨fun _ => by omega, fun _ => by omega⟩
        simp only [e1]; exact h
  · refine gT_n 4 ?_
    refine ⟨rfl, pk_le l.length i (fun κ1 => ?_) (fun κ1 => ?_) (hB.1) (rfl) (by omega) (by omega)⟩
    · refine gT_n 1 ?_
      refine ⟨rfl, ?_⟩
      obtain rfl : i = l.length := by omega
      exact ⟨rfl, I, rfl, hk, by rw [List.length_map]; exact hB.1, fun k hk => by rw [List.length_map] at hk; rw [ig_map hk]; have h := hB.2 k hk; rw [if_pos hk] at h; exact h⟩
    · exact absurd hin (by omega)
