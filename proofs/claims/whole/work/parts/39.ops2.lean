/-! CALLS: tick, label, up, letter, checked -/
theorem o_tick_c {d : Nat} {s : zS} {I : Nat → Nat → Int32} {J : Nat → Nat → Int64} {P : Nat → Nat} {n : Int32} (hO : sOK s) (hC : RC s I J P) (hM : RM s I J) : gTM (d + 9) 140 [.ref 0, .int n] (gST I J P) (pC s (fun x s' => (¬ (1 ≤ n ∧ n ≤ 1000000000) ∧ x = -1 ∧ s' = s) ∨ ((1 ≤ n ∧ n ≤ 1000000000) ∧ ¬ lg_cmp (s.2.2.2.1.2.2.2.2.1.toInt64 + n.toInt64) 2147483647 ≤ 0 ∧ x = -3 ∧ s' = s) ∨ ((1 ≤ n ∧ n ≤ 1000000000) ∧ lg_cmp (s.2.2.2.1.2.2.2.2.1.toInt64 + n.toInt64) 2147483647 ≤ 0 ∧ x = s.2.2.2.1.2.2.2.2.1 + n ∧ s' = (s.1, s.2.1, s.2.2.1, (s.2.2.2.1.1, s.2.2.2.1.2.1, s.2.2.2.1.2.2.1, s.2.2.2.1.2.2.2.1, s.2.2.2.1.2.2.2.2.1 + n, s.2.2.2.1.2.2.2.2.2), s.2.2.2.2)))) := by
  obtain ⟨tp, fn, t, W, nm, pr, ch, i0, i1⟩ := s
  have hO0 := hO
  have hC0 := hC
  have hM0 := hM
  obtain ⟨oTp, oT, oW, oN, oP, oI0, oI1⟩ := hO
  obtain ⟨kTp, kF, kT, kW, kN, kP, kC, kI0, kI1, kB, kPP⟩ := hC
  obtain ⟨jTp, jF, jT, jSp, jW, jN, jP, jC, jI0, jI1, jB, jL⟩ := hM
  dsimp only at oTp oT oW oN oP oI0 oI1 kTp kF kT kW kN kP kC kI0 kI1 jTp jF jT jSp jW jN jP jC jI0 jI1
  try dsimp only
  obtain ⟨kW1, kW2, kW3, kW4, kCk, kW6⟩ := kW
  have kCk : I 17 5 = W.2.2.2.2.1 := kCk
  refine gT_n 3 ?_
  refine ⟨fun c1 => ?_, fun c1 => ?_⟩
  · refine gT_n 2 ?_
    exact ⟨_, _, I, J, P, rfl, rfl, ⟨Or.inl ⟨by first | exact rng_lo c1 | exact rng_hi c2, rfl, rfl⟩, hO0⟩, hC0, hM0⟩
  · refine gT_n 3 ?_
    refine ⟨fun c2 => ?_, fun c2 => ?_⟩
    · refine gT_n 10 ?_
      refine ⟨rfl, rfl, fun c3 => ?_, fun c3 => ?_⟩
      · refine gT_n 11 ?_
        refine ⟨rfl, rfl, rfl, rfl, rfl, ?_⟩
        exact ⟨_, _, _, _, P, rfl, rfl, ⟨Or.inr (Or.inr ⟨rng_in c1 c2, by rw [← kCk]; exact c3, by rw [← kCk]; rfl, rfl⟩), oTp, oT, oW, oN, oP, oI0, oI1⟩, ⟨kTp, kF, kT, ⟨kW1, kW2, kW3, kW4, by dsimp only; rw [← kCk]; rfl, kW6⟩, kN, kP, kC, kI0, kI1, kB, kPP⟩, hM0⟩
      · refine gT_n 2 ?_
        exact ⟨_, _, I, J, P, rfl, rfl, ⟨Or.inr (Or.inl ⟨rng_in c1 c2, by rw [← kCk]; exact c3, rfl, rfl⟩), hO0⟩, hC0, hM0⟩
    · refine gT_n 2 ?_
      exact ⟨_, _, I, J, P, rfl, rfl, ⟨Or.inl ⟨by first | exact rng_lo c1 | exact rng_hi c2, rfl, rfl⟩, hO0⟩, hC0, hM0⟩
theorem o_tick_m {d : Nat} {s s' : zS} {x : Int32} {I : Nat → Nat → Int32} {J : Nat → Nat → Int64} {P : Nat → Nat} {n : Int32} (hO : sOK s) (hS : (fun x s' => (¬ (1 ≤ n ∧ n ≤ 1000000000) ∧ x = -1 ∧ s' = s) ∨ ((1 ≤ n ∧ n ≤ 1000000000) ∧ ¬ lg_cmp (s.2.2.2.1.2.2.2.2.1.toInt64 + n.toInt64) 2147483647 ≤ 0 ∧ x = -3 ∧ s' = s) ∨ ((1 ≤ n ∧ n ≤ 1000000000) ∧ lg_cmp (s.2.2.2.1.2.2.2.2.1.toInt64 + n.toInt64) 2147483647 ≤ 0 ∧ x = s.2.2.2.1.2.2.2.2.1 + n ∧ s' = (s.1, s.2.1, s.2.2.1, (s.2.2.2.1.1, s.2.2.2.1.2.1, s.2.2.2.1.2.2.1, s.2.2.2.1.2.2.2.1, s.2.2.2.1.2.2.2.2.1 + n, s.2.2.2.1.2.2.2.2.2), s.2.2.2.2))) x s') (hC : RC s' I J P) (hM : RM s I J) : gTM (d + 9) 260 [.ref 171, .int n] (gST I J P) (pM x s') := by
  obtain ⟨tp, fn, t, W, nm, pr, ch, i0, i1⟩ := s
  have hO0 := hO
  have hM0 := hM
  obtain ⟨oTp, oT, oW, oN, oP, oI0, oI1⟩ := hO
  obtain ⟨jTp, jF, jT, jSp, jW, jN, jP, jC, jI0, jI1, jB, jL⟩ := hM
  dsimp only at oTp oT oW oN oP oI0 oI1 jTp jF jT jSp jW jN jP jC jI0 jI1
  try dsimp only at hS
  obtain ⟨jW1, jW2, jW3, jW4, jCk, jW6⟩ := jW
  refine gT_n 5 ?_
  refine ⟨rfl, gTM.use (m_inI (x := 1) (z := 1000000000) rfl rfl) (Nat.le_refl _) (fun r u hq => ?_)⟩
  obtain ⟨rfl, ⟨rfl, b1⟩ | ⟨rfl, b1⟩⟩ := hq  -- X12_in[i2l(n), lN 1, lN 1000000000]
  · refine gT_n 1 ?_
    refine ⟨fun _ => ?_, fun c => absurd c (by decide)⟩
    refine gT_n 9 ?_
    refine ⟨rfl, fun c2 => ?_, fun c2 => ?_⟩
    · refine gT_n 9 ?_
      refine ⟨rfl, rfl, rfl, ?_⟩
      rcases hS with ⟨h, -⟩ | ⟨h, h2, -⟩ | ⟨h, h2, rfl, rfl⟩
      · exact absurd b1 h
      · exact absurd c2 (by rw [← jCk] at h2; exact h2)
      · exact ⟨_, _, P, rfl, by rw [← jCk]; rfl, hC, ⟨jTp, jF, jT, jSp, ⟨jW1, jW2, jW3, jW4, by dsimp only; rw [← jCk]; rfl, jW6⟩, jN, jP, jC, jI0, jI1, jB, jL⟩⟩
    · refine gT_n 2 ?_
      rcases hS with ⟨h, -⟩ | ⟨h, h2, rfl, rfl⟩ | ⟨h, h2, -⟩
      · exact absurd b1 h
      · exact ⟨I, J, P, rfl, rfl, hC, hM0⟩
      · exact absurd (by rw [← jCk] at h2; exact h2) c2
  · refine gT_n 1 ?_
    refine ⟨fun c => absurd (by decide) c, fun _ => ?_⟩
    refine gT_n 2 ?_
    rcases hS with ⟨h, rfl, rfl⟩ | ⟨h, -⟩ | ⟨h, -⟩
    · exact ⟨I, J, P, rfl, rfl, hC, hM0⟩
    · exact absurd h b1
    · exact absurd h b1
/-- letters, the class's label, the reference's -/
def LB (a b c : Int32) (x y : Nat) : Prop := (a = 27 ∧ x = 1 ∧ y = 1) ∨ (¬ a = 27 ∧ ∃ i j k, 1 ≤ i ∧ i ≤ 26 ∧ j ≤ 26 ∧ k ≤ 26 ∧ (j = 0 → k = 0) ∧ a = nI i ∧ b = nI j ∧ c = nI k ∧ x = 1024 * i + 32 * j + k ∧ y = 729 * i + 27 * j + k)
theorem isL_of {a : Int32} (h : isL a) : ∃ i, 1 ≤ i ∧ i ≤ 26 ∧ a = nI i := by
  obtain ⟨k, hk, e⟩ := rngN (n := 26) (by omega) ⟨Int32.le_trans (show (0 : Int32) ≤ 1 by decide) h.1, h.2⟩
  refine ⟨k, ?_, hk, e⟩
  rcases Nat.eq_zero_or_pos k with z | z
  · rw [e, z] at h; exact absurd h.1 (by decide)
  · exact z
theorem isL0_of {a : Int32} (h : a = 0 ∨ isL a) : ∃ i, i ≤ 26 ∧ a = nI i := by
  rcases h with h | h
  · exact ⟨0, by omega, h⟩
  · obtain ⟨i, -, h2, h3⟩ := isL_of h
    exact ⟨i, h2, h3⟩
theorem LB_of {a b c : Int32} (h : okL a b c) : ∃ x y, LB a b c x y ∧ (if a = 27 then (1 : Int32) else ((a <<< (10 &&& 31)) ||| (b <<< (5 &&& 31))) ||| c) = nI x ∧ vl x ∧ x ≠ 0 ∧ y = ml x := by
  rcases h with ⟨rfl, rfl, rfl⟩ | ⟨h27, ha, hb, hc, h0⟩
  · exact ⟨1, 1, Or.inl ⟨rfl, rfl, rfl⟩, rfl, Or.inl (by omega), by omega, rfl⟩
  · obtain ⟨i, i1, i2, rfl⟩ := isL_of ha
    obtain ⟨j, j2, rfl⟩ := isL0_of hb
    obtain ⟨k, k2, rfl⟩ := isL0_of hc
    have hjk : j = 0 → k = 0 := fun z => (nI_eq (a := k) (b := 0) (by omega) (by omega)).mp (h0 (by rw [z]; rfl))
    refine ⟨1024 * i + 32 * j + k, 729 * i + 27 * j + k, Or.inr ⟨h27, i, j, k, i1, i2, j2, k2, hjk, rfl, rfl, rfl, rfl, rfl⟩, ?_, Or.inr ⟨i, j, k, i1, i2, j2, k2, hjk, rfl⟩, by omega, (ml_of i1 j2 k2).symm⟩
    rw [if_neg h27, pk_shlN _ 10 (by decide) (by omega), pk_shlN _ 5 (by decide) (by omega)]
    have e1 := fa_or_sum (a := j * 2 ^ 5) (k := 10) i (by omega)
    have e2 := fa_or_sum (a := k) (k := 5) (32 * i + j) (by omega)
    rw [show i * 2 ^ 10 = 2 ^ 10 * i by omega, e1, show 2 ^ 10 * i + j * 2 ^ 5 = 2 ^ 5 * (32 * i + j) by omega, e2]
    congr 1
    omega
theorem LB_y {a b c : Int32} {x y : Nat} (h : LB a b c x y) (h27 : ¬ a = 27) : 729 * a + 27 * b + c = nI y := by
  rcases h with ⟨e, -⟩ | ⟨-, i, j, k, -, -, -, -, -, rfl, rfl, rfl, -, rfl⟩
  · exact absurd e h27
  · exact pk_addE (pk_addE (pk_mulE (y := nI i) (n := 729) rfl rfl) (pk_mulE (y := nI j) (n := 27) rfl rfl)) rfl
theorem c_labelOf {d : Nat} {a b c : Int32} {w : gW} : gTM (d + 1) 34 [.int a, .int b, .int c] w (fun r u => u = w ∧ ((∃ y z, LB a b c y z ∧ vl y ∧ y ≠ 0 ∧ z = ml y ∧ okL a b c ∧ r = some (.int (nI y))) ∨ (r = some (.int 0) ∧ ¬ okL a b c))) := by
  refine gTM.use c_labelOf0 (Nat.le_refl _) (fun r u hq => ?_)
  obtain ⟨rfl, ⟨rfl, ok⟩ | ⟨rfl, ok⟩⟩ := hq
  · obtain ⟨y, z, h1, h2, h3, h4, h5⟩ := LB_of ok
    exact ⟨rfl, Or.inl ⟨y, z, h1, h3, h4, h5, ok, ri h2⟩⟩
  · exact ⟨rfl, Or.inr ⟨rfl, ok⟩⟩
theorem c_longer4 {d n x : Nat} {w : gW} (h : nwf n) (hx : x < 32768) (hc : cnt n < 4) : gTM (d + 2) 32 [.long (lN n), .int (nI x)] w (fun r u => u = w ∧ r = some (.long (lN (nlon n x)))) := by
  have h2 := c_longer (d := d) (w := w) h hx
  rw [if_pos hc] at h2
  exact h2
theorem o_label_c {d : Nat} {s : zS} {I : Nat → Nat → Int32} {J : Nat → Nat → Int64} {P : Nat → Nat} {a b c : Int32} (hO : sOK s) (hC : RC s I J P) (hM : RM s I J) : gTM (d + 9) 120 [.ref 0, .int a, .int b, .int c] (gST I J P) (pC s (fun x s' => (¬ okL a b c ∧ x = -1 ∧ s' = s) ∨ (okL a b c ∧ cnt s.2.2.2.2.1 = 4 ∧ x = -3 ∧ s' = s) ∨ (okL a b c ∧ cnt s.2.2.2.2.1 < 4 ∧ x = nI (cnt s.2.2.2.2.1 + 1) ∧ ∃ y, ∃ z, LB a b c y z ∧ vl y ∧ y ≠ 0 ∧ z = ml y ∧ s' = (s.1, s.2.1, s.2.2.1, s.2.2.2.1, nlon s.2.2.2.2.1 y, s.2.2.2.2.2)))) := by
  obtain ⟨tp, fn, t, W, nm, pr, ch, i0, i1⟩ := s
  have hO0 := hO
  have hC0 := hC
  have hM0 := hM
  obtain ⟨oTp, oT, oW, oN, oP, oI0, oI1⟩ := hO
  obtain ⟨kTp, kF, kT, kW, kN, kP, kC, kI0, kI1, kB, kPP⟩ := hC
  obtain ⟨jTp, jF, jT, jSp, jW, jN, jP, jC, jI0, jI1, jB, jL⟩ := hM
  dsimp only at oTp oT oW oN oP oI0 oI1 kTp kF kT kW kN kP kC kI0 kI1 jTp jF jT jSp jW jN jP jC jI0 jI1
  try dsimp only
  refine gT_n 4 ?_
  refine ⟨rfl, gTM.use (c_labelOf) (Nat.le_refl _) (fun r u hq => ?_)⟩
  obtain ⟨rfl, ⟨y, z, hLB, hv, h0, hz, ok, rfl⟩ | ⟨rfl, ok⟩⟩ := hq  -- X3_labelOf[a, b, c]
  · refine gT_n 3 ?_
    refine pk_ne y 0 (fun c1 => ?_) (fun c1 => ?_) (rfl) (rfl) (by have := vl_lt hv; omega) (by omega)
    · refine gT_n 3 ?_
      refine ⟨rfl, rfl, gTM.useA (c_count oN.lt) (Nat.le_refl _) (aL (kN) (rfl)) (fun r u hq => ?_)⟩
      obtain ⟨rfl, rfl⟩ := hq  -- X3_count[lN nm]
      refine gT_n 2 ?_
      refine pk_lt ((cnt nm)) 4 (fun c2 => ?_) (fun c2 => ?_) (rfl) (rfl) (by have := cnt_le nm; omega) (by omega)
      · refine gT_n 5 ?_
        refine ⟨rfl, rfl, gTM.useA (c_longer4 oN.1 (vl_lt hv) c2) (Nat.le_refl _) (aL (kN) (aI (rfl) (rfl))) (fun r u hq => ?_)⟩
        obtain ⟨rfl, rfl⟩ := hq  -- X3_longer[lN nm, nI y]
        refine gT_n 4 ?_
        refine ⟨rfl, rfl, rfl, gTM.use (c_count (nlon_lt oN.1 c2 (vl_lt hv))) (Nat.le_refl _) (fun r u hq => ?_)⟩
        obtain ⟨rfl, rfl⟩ := hq  -- X3_count[lN ((nlon nm y))]
        refine gT_n 1 ?_
        exact ⟨_, (tp, fn, t, W, nlon nm y, pr, ch, i0, i1), _, _, P, rfl, rfl, ⟨Or.inr (Or.inr ⟨ok, c2, by rw [nlon_cnt oN.1 c2 (vl_lt hv) h0], y, z, hLB, hv, h0, hz, rfl⟩), oTp, oT, oW, vn_lon oN c2 hv h0, oP, oI0, oI1⟩, ⟨kTp, kF, kT, kW, rfl, kP, kC, kI0, kI1, kB, kPP⟩, hM0⟩
      · refine gT_n 2 ?_
        exact ⟨_, _, I, J, P, rfl, rfl, ⟨Or.inr (Or.inl ⟨ok, by have := cnt_le nm; show cnt nm = 4; omega, rfl, rfl⟩), hO0⟩, hC0, hM0⟩
    · refine gT_n 2 ?_
      first | exact absurd c1 h0 | exact ⟨_, _, I, J, P, rfl, rfl, ⟨Or.inl ⟨ok, rfl, rfl⟩, hO0⟩, hC0, hM0⟩
  · refine gT_n 3 ?_
    refine ⟨fun c => absurd (by decide) c, fun _ => ?_⟩
    refine gT_n 2 ?_
    first | exact absurd c1 h0 | exact ⟨_, _, I, J, P, rfl, rfl, ⟨Or.inl ⟨ok, rfl, rfl⟩, hO0⟩, hC0, hM0⟩
theorem LB_1 {a b c : Int32} {x y : Nat} (h : LB a b c x y) (h27 : a = 27) : (1 : Int32) = nI y := by
  rcases h with ⟨-, -, rfl⟩ | ⟨e, -⟩
  · rfl
  · exact absurd h27 e
theorem o_label_m {d : Nat} {s s' : zS} {x : Int32} {I : Nat → Nat → Int32} {J : Nat → Nat → Int64} {P : Nat → Nat} {a b c : Int32} (hO : sOK s) (hS : (fun x s' => (¬ okL a b c ∧ x = -1 ∧ s' = s) ∨ (okL a b c ∧ cnt s.2.2.2.2.1 = 4 ∧ x = -3 ∧ s' = s) ∨ (okL a b c ∧ cnt s.2.2.2.2.1 < 4 ∧ x = nI (cnt s.2.2.2.2.1 + 1) ∧ ∃ y, ∃ z, LB a b c y z ∧ vl y ∧ y ≠ 0 ∧ z = ml y ∧ s' = (s.1, s.2.1, s.2.2.1, s.2.2.2.1, nlon s.2.2.2.2.1 y, s.2.2.2.2.2))) x s') (hC : RC s' I J P) (hM : RM s I J) : gTM (d + 9) 200 [.ref 171, .int a, .int b, .int c] (gST I J P) (pM x s') := by
  obtain ⟨tp, fn, t, W, nm, pr, ch, i0, i1⟩ := s
  have hO0 := hO
  have hM0 := hM
  obtain ⟨oTp, oT, oW, oN, oP, oI0, oI1⟩ := hO
  obtain ⟨jTp, jF, jT, jSp, jW, jN, jP, jC, jI0, jI1, jB, jL⟩ := hM
  dsimp only at oTp oT oW oN oP oI0 oI1 jTp jF jT jSp jW jN jP jC jI0 jI1
  try dsimp only at hS
  refine gT_n 4 ?_
  refine ⟨rfl, gTM.use (m_isLetters) (Nat.le_refl _) (fun r u hq => ?_)⟩
  obtain ⟨rfl, ⟨rfl, b1⟩ | ⟨rfl, b1⟩⟩ := hq  -- X12_isLetters[a, b, c]
  · refine gT_n 1 ?_
    refine ⟨fun _ => ?_, fun c => absurd c (by decide)⟩
    refine gT_n 3 ?_
    refine ⟨rfl, rfl, gTM.useA (n_labelsOf (n := nm)) (Nat.le_refl _) (aL (jN) (rfl)) (fun r u hq => ?_)⟩
    obtain ⟨rfl, rfl⟩ := hq  -- X12_labelsOf[lN nm]
    refine gT_n 2 ?_
    refine pk_ne ((cnt nm)) 4 (fun c2 => ?_) (fun c2 => ?_) (rfl) (rfl) (by have := cnt_le nm; omega) (by omega)
    · refine gT_n 2 ?_
      rcases hS with ⟨h, -⟩ | ⟨-, h, -⟩ | ⟨-, hc4, rfl, y, z, hLB, hv, h0, hz, rfl⟩
      · exact absurd b1 h
      · exact absurd h c2
      refine gT_n 4 ?_
      refine ⟨rfl, fun c3 => ?_, fun c3 => ?_⟩
      · refine gT_n 10 ?_
        refine ⟨rfl, gTM.useA (n_withLabel oN.1 hc4 (vl_lt hv)) (Nat.le_refl _) (aL (jN) (aI (show 729 * a + 27 * b + c = _ by rw [← hz]; exact LB_y hLB c3) (rfl))) (fun r u hq => ?_)⟩
        obtain ⟨rfl, rfl⟩ := hq  -- X12_withLabel[lN nm, (((K729*a)+(K27*b))+c)]
        refine gT_n 4 ?_
        refine ⟨rfl, rfl, rfl, gTM.use (n_labelsOf (n := ((nlon nm y)))) (Nat.le_refl _) (fun r u hq => ?_)⟩
        obtain ⟨rfl, rfl⟩ := hq  -- X12_labelsOf[lN ((nlon nm y))]
        refine gT_n 1 ?_
        exact ⟨_, _, P, rfl, ri (by rw [nlon_cnt oN.1 hc4 (vl_lt hv) h0]), hC, ⟨jTp, jF, jT, jSp, jW, rfl, jP, jC, jI0, jI1, jB, jL⟩⟩
      · refine gT_n 3 ?_
        refine ⟨rfl, gTM.useA (n_withLabel oN.1 hc4 (vl_lt hv)) (Nat.le_refl _) (aL (jN) (aI (show (1 : Int32) = _ by rw [← hz]; exact LB_1 hLB c3) (rfl))) (fun r u hq => ?_)⟩
        obtain ⟨rfl, rfl⟩ := hq  -- X12_withLabel[lN nm, K1]
        refine gT_n 4 ?_
        refine ⟨rfl, rfl, rfl, gTM.use (n_labelsOf (n := ((nlon nm y)))) (Nat.le_refl _) (fun r u hq => ?_)⟩
        obtain ⟨rfl, rfl⟩ := hq  -- X12_labelsOf[lN ((nlon nm y))]
        refine gT_n 1 ?_
        exact ⟨_, _, P, rfl, ri (by rw [nlon_cnt oN.1 hc4 (vl_lt hv) h0]), hC, ⟨jTp, jF, jT, jSp, jW, rfl, jP, jC, jI0, jI1, jB, jL⟩⟩
    · refine gT_n 2 ?_
      rcases hS with ⟨h, -⟩ | ⟨h, h2, rfl, rfl⟩ | ⟨h, h2, -⟩
      · exact absurd b1 h
      · exact ⟨I, J, P, rfl, rfl, hC, hM0⟩
      · exact absurd h2 (by omega)
  · refine gT_n 1 ?_
    refine ⟨fun c => absurd (by decide) c, fun _ => ?_⟩
    refine gT_n 2 ?_
    rcases hS with ⟨h, rfl, rfl⟩ | ⟨h, -⟩ | ⟨h, -⟩
    · exact ⟨I, J, P, rfl, rfl, hC, hM0⟩
    · exact absurd h b1
    · exact absurd h b1
theorem o_up_c {d : Nat} {s : zS} {I : Nat → Nat → Int32} {J : Nat → Nat → Int64} {P : Nat → Nat} {n : Int32} (hO : sOK s) (hC : RC s I J P) (hM : RM s I J) : gTM (d + 9) 121 [.ref 0, .int n] (gST I J P) (pC s (fun x s' => (¬ (0 ≤ n ∧ n ≤ nI (cnt s.2.2.2.2.1)) ∧ x = -1 ∧ s' = s) ∨ ∃ k, k ≤ cnt s.2.2.2.2.1 ∧ n = nI k ∧ x = nI (cnt s.2.2.2.2.1 - k) ∧ s' = (s.1, s.2.1, s.2.2.1, s.2.2.2.1, nfst s.2.2.2.2.1 (cnt s.2.2.2.2.1 - k), s.2.2.2.2.2))) := by
  obtain ⟨tp, fn, t, W, nm, pr, ch, i0, i1⟩ := s
  have hO0 := hO
  have hC0 := hC
  have hM0 := hM
  obtain ⟨oTp, oT, oW, oN, oP, oI0, oI1⟩ := hO
  obtain ⟨kTp, kF, kT, kW, kN, kP, kC, kI0, kI1, kB, kPP⟩ := hC
  obtain ⟨jTp, jF, jT, jSp, jW, jN, jP, jC, jI0, jI1, jB, jL⟩ := hM
  dsimp only at oTp oT oW oN oP oI0 oI1 kTp kF kT kW kN kP kC kI0 kI1 jTp jF jT jSp jW jN jP jC jI0 jI1
  try dsimp only
  have h4 := cnt_le nm
  refine gT_n 3 ?_
  refine ⟨rfl, rfl, gTM.useA (c_count oN.lt) (Nat.le_refl _) (aL (kN) (rfl)) (fun r u hq => ?_)⟩
  obtain ⟨rfl, rfl⟩ := hq  -- X3_count[lN nm]
  refine gT_n 3 ?_
  refine ⟨fun c1 => ?_, fun c1 => ?_⟩
  · refine gT_n 2 ?_
    exact ⟨_, _, I, J, P, rfl, rfl, ⟨Or.inl ⟨by first | exact rng_lo c1 | exact rng_hi c2, rfl, rfl⟩, hO0⟩, hC0, hM0⟩
  · refine gT_n 3 ?_
    refine ⟨fun c2 => ?_, fun c2 => ?_⟩
    · obtain ⟨k, hk, rfl⟩ := rngN (n := cnt nm) (by omega) (rng_in c1 c2)
      refine gT_n 7 ?_
      refine ⟨rfl, rfl, gTM.useA (c_first oN.lt (by omega)) (Nat.le_refl _) (aL (kN) (aI (pk_subE (rfl) (rfl) (by omega)) (rfl))) (fun r u hq => ?_)⟩
      obtain ⟨rfl, rfl⟩ := hq  -- X3_first[lN nm, nI (((cnt nm)) - k)]
      refine gT_n 5 ?_
      refine ⟨rfl, ?_⟩
      exact ⟨_, (tp, fn, t, W, nfst nm (cnt nm - k), pr, ch, i0, i1), _, _, P, rfl, rfl, ⟨Or.inr ⟨k, hk, rfl, pk_sub hk, rfl⟩, oTp, oT, oW, vn_fst oN (by omega), oP, oI0, oI1⟩, ⟨kTp, kF, kT, kW, rfl, kP, kC, kI0, kI1, kB, kPP⟩, hM0⟩
    · refine gT_n 2 ?_
      exact ⟨_, _, I, J, P, rfl, rfl, ⟨Or.inl ⟨by first | exact rng_lo c1 | exact rng_hi c2, rfl, rfl⟩, hO0⟩, hC0, hM0⟩
theorem o_up_m {d : Nat} {s s' : zS} {x : Int32} {I : Nat → Nat → Int32} {J : Nat → Nat → Int64} {P : Nat → Nat} {n : Int32} (hO : sOK s) (hS : (fun x s' => (¬ (0 ≤ n ∧ n ≤ nI (cnt s.2.2.2.2.1)) ∧ x = -1 ∧ s' = s) ∨ ∃ k, k ≤ cnt s.2.2.2.2.1 ∧ n = nI k ∧ x = nI (cnt s.2.2.2.2.1 - k) ∧ s' = (s.1, s.2.1, s.2.2.1, s.2.2.2.1, nfst s.2.2.2.2.1 (cnt s.2.2.2.2.1 - k), s.2.2.2.2.2)) x s') (hC : RC s' I J P) (hM : RM s I J) : gTM (d + 9) 201 [.ref 171, .int n] (gST I J P) (pM x s') := by
  obtain ⟨tp, fn, t, W, nm, pr, ch, i0, i1⟩ := s
  have hO0 := hO
  have hM0 := hM
  obtain ⟨oTp, oT, oW, oN, oP, oI0, oI1⟩ := hO
  obtain ⟨jTp, jF, jT, jSp, jW, jN, jP, jC, jI0, jI1, jB, jL⟩ := hM
  dsimp only at oTp oT oW oN oP oI0 oI1 jTp jF jT jSp jW jN jP jC jI0 jI1
  try dsimp only at hS
  have h4 := cnt_le nm
  refine gT_n 3 ?_
  refine ⟨rfl, rfl, gTM.useA (n_labelsOf (n := nm)) (Nat.le_refl _) (aL (jN) (rfl)) (fun r u hq => ?_)⟩
  obtain ⟨rfl, rfl⟩ := hq  -- X12_labelsOf[lN nm]
  refine gT_n 7 ?_
  refine ⟨rfl, gTM.use (m_inI (x := 0) (z := nI (cnt nm)) rfl rfl) (Nat.le_refl _) (fun r u hq => ?_)⟩
  obtain ⟨rfl, ⟨rfl, b1⟩ | ⟨rfl, b1⟩⟩ := hq  -- X12_in[i2l(n), lN 0, i2l(nI ((cnt nm)))]
  · refine gT_n 1 ?_
    refine ⟨fun _ => ?_, fun c => absurd c (by decide)⟩
    rcases hS with ⟨h, -⟩ | ⟨k, hk, rfl, rfl, rfl⟩
    · exact absurd b1 h
    refine gT_n 7 ?_
    refine ⟨rfl, rfl, gTM.useA (n_firstOf oN.lt (by omega)) (Nat.le_refl _) (aL (jN) (aI (pk_subE (rfl) (rfl) (by omega)) (rfl))) (fun r u hq => ?_)⟩
    obtain ⟨rfl, rfl⟩ := hq  -- X12_firstOf[lN nm, nI (((cnt nm)) - k)]
    refine gT_n 5 ?_
    refine ⟨rfl, ?_⟩
    exact ⟨_, _, P, rfl, ri (pk_sub hk), hC, ⟨jTp, jF, jT, jSp, jW, rfl, jP, jC, jI0, jI1, jB, jL⟩⟩
  · refine gT_n 1 ?_
    refine ⟨fun c => absurd (by decide) c, fun _ => ?_⟩
    refine gT_n 2 ?_
    rcases hS with ⟨h, rfl, rfl⟩ | ⟨k, hk, rfl, -⟩
    · exact ⟨I, J, P, rfl, rfl, hC, hM0⟩
    · exact absurd (rngN' hk (by omega)) b1
theorem o_letter_c {d : Nat} {s : zS} {I : Nat → Nat → Int32} {J : Nat → Nat → Int64} {P : Nat → Nat} {i k : Int32} (hO : sOK s) (hC : RC s I J P) (hM : RM s I J) : gTM (d + 9) 124 [.ref 0, .int i, .int k] (gST I J P) (pC s (fun x s' => s' = s ∧ ((¬ inZ (cnt s.2.2.2.2.1) i ∧ x = -1) ∨ (¬ inZ 3 k ∧ x = -1) ∨ ∃ a b, a < cnt s.2.2.2.2.1 ∧ b < 3 ∧ i = nI a ∧ k = nI b ∧ x = nI (ltr (lab s.2.2.2.2.1 a) b)))) := by
  obtain ⟨tp, fn, t, W, nm, pr, ch, i0, i1⟩ := s
  have hO0 := hO
  have hC0 := hC
  have hM0 := hM
  obtain ⟨oTp, oT, oW, oN, oP, oI0, oI1⟩ := hO
  obtain ⟨kTp, kF, kT, kW, kN, kP, kC, kI0, kI1, kB, kPP⟩ := hC
  obtain ⟨jTp, jF, jT, jSp, jW, jN, jP, jC, jI0, jI1, jB, jL⟩ := hM
  dsimp only at oTp oT oW oN oP oI0 oI1 kTp kF kT kW kN kP kC kI0 kI1 jTp jF jT jSp jW jN jP jC jI0 jI1
  try dsimp only
  have h4 := cnt_le nm
  refine gT_n 2 ?_
  refine ⟨fun c1 => ?_, fun c1 => ?_⟩
  · refine gT_n 2 ?_
    exact ⟨_, _, I, J, P, rfl, rfl, ⟨⟨rfl, by first | exact Or.inl ⟨inZ_lo (by omega) c1, rfl⟩ | exact Or.inl ⟨inZ_hi (by omega) c2, rfl⟩ | exact Or.inr (Or.inl ⟨inZ_lo (by omega) c3, rfl⟩) | exact Or.inr (Or.inl ⟨inZ_hi (by omega) (Int32.not_lt.mp c4), rfl⟩)⟩, hO0⟩, hC0, hM0⟩
  · refine gT_n 4 ?_
    refine ⟨rfl, rfl, gTM.useA (c_count oN.lt) (Nat.le_refl _) (aL (kN) (rfl)) (fun r u hq => ?_)⟩
    obtain ⟨rfl, rfl⟩ := hq  -- X3_count[lN nm]
    refine gT_n 1 ?_
    refine ⟨fun c2 => ?_, fun c2 => ?_⟩
    · refine gT_n 2 ?_
      exact ⟨_, _, I, J, P, rfl, rfl, ⟨⟨rfl, by first | exact Or.inl ⟨inZ_lo (by omega) c1, rfl⟩ | exact Or.inl ⟨inZ_hi (by omega) c2, rfl⟩ | exact Or.inr (Or.inl ⟨inZ_lo (by omega) c3, rfl⟩) | exact Or.inr (Or.inl ⟨inZ_hi (by omega) (Int32.not_lt.mp c4), rfl⟩)⟩, hO0⟩, hC0, hM0⟩
    · refine gT_n 2 ?_
      refine ⟨fun c3 => ?_, fun c3 => ?_⟩
      · refine gT_n 2 ?_
        exact ⟨_, _, I, J, P, rfl, rfl, ⟨⟨rfl, by first | exact Or.inl ⟨inZ_lo (by omega) c1, rfl⟩ | exact Or.inl ⟨inZ_hi (by omega) c2, rfl⟩ | exact Or.inr (Or.inl ⟨inZ_lo (by omega) c3, rfl⟩) | exact Or.inr (Or.inl ⟨inZ_hi (by omega) (Int32.not_lt.mp c4), rfl⟩)⟩, hO0⟩, hC0, hM0⟩
      · refine gT_n 3 ?_
        refine ⟨fun c4 => ?_, fun c4 => ?_⟩
        · obtain ⟨a, ha, rfl⟩ := inZ_of (n := cnt nm) (by omega) c1 c2
          obtain ⟨b, hb, rfl⟩ := inZ_of (n := 3) (by omega) c3 (fun z => absurd c4 (Int32.not_lt.mpr z))
          refine gT_n 4 ?_
          refine ⟨rfl, rfl, gTM.useA (c_labelAt oN.lt (by omega)) (Nat.le_refl _) (aL (kN) (aI (rfl) (rfl))) (fun r u hq => ?_)⟩
          obtain ⟨rfl, rfl⟩ := hq  -- X3_labelAt[lN nm, nI a]
          refine gT_n 2 ?_
          refine ⟨rfl, gTM.use (c_letterAt (lab_lt _ _) hb) (Nat.le_refl _) (fun r u hq => ?_)⟩
          obtain ⟨rfl, rfl⟩ := hq  -- X3_letterAt[nI ((lab nm a)), nI b]
          refine gT_n 1 ?_
          exact ⟨_, _, I, J, P, rfl, rfl, ⟨⟨rfl, Or.inr (Or.inr ⟨a, b, ha, hb, rfl, rfl, rfl⟩)⟩, hO0⟩, hC0, hM0⟩
        · refine gT_n 2 ?_
          exact ⟨_, _, I, J, P, rfl, rfl, ⟨⟨rfl, by first | exact Or.inl ⟨inZ_lo (by omega) c1, rfl⟩ | exact Or.inl ⟨inZ_hi (by omega) c2, rfl⟩ | exact Or.inr (Or.inl ⟨inZ_lo (by omega) c3, rfl⟩) | exact Or.inr (Or.inl ⟨inZ_hi (by omega) (Int32.not_lt.mp c4), rfl⟩)⟩, hO0⟩, hC0, hM0⟩
theorem inZ_rng {n : Nat} {x : Int32} (hn : n < 2 ^ 30) : (0 ≤ x ∧ x ≤ nI n - 1) ↔ inZ n x := by
  rcases Nat.eq_zero_or_pos n with e | e
  · subst e
    constructor
    · intro ⟨a, b⟩
      exact absurd (Int32.le_trans a b) (by decide)
    · rintro ⟨k, hk, -⟩
      omega
  · have e1 : nI n - 1 = nI (n - 1) := pk_sub (b := 1) e
    rw [e1]
    constructor
    · intro ⟨a, b⟩
      refine inZ_of (by omega) (Int32.not_lt.mpr a) (fun c => ?_)
      have := Int32.le_trans c b
      exact nI_ge (a := n - 1) (b := n) (by omega) (by omega) this
    · rintro ⟨k, hk, rfl⟩
      exact ⟨nI_pos' (by omega), nI_le (by omega) (by omega)⟩
theorem m_inZ {d n : Nat} {v : Int32} {a b : Int64} {z : Int32} {w : gW} (hn : n < 2 ^ 30) (ha : (0 : Int32).toInt64 = a) (hb : z.toInt64 = b) (hz : z = nI n - 1) : gTM d 156 [.long v.toInt64, .long a, .long b] w (gB w (inZ n v)) := by
  refine gB_iff (m_inI ha hb) ?_
  rw [hz]; exact inZ_rng hn
theorem o_letter_m {d : Nat} {s s' : zS} {x : Int32} {I : Nat → Nat → Int32} {J : Nat → Nat → Int64} {P : Nat → Nat} {i k : Int32} (hO : sOK s) (hS : (fun x s' => s' = s ∧ ((¬ inZ (cnt s.2.2.2.2.1) i ∧ x = -1) ∨ (¬ inZ 3 k ∧ x = -1) ∨ ∃ a b, a < cnt s.2.2.2.2.1 ∧ b < 3 ∧ i = nI a ∧ k = nI b ∧ x = nI (ltr (lab s.2.2.2.2.1 a) b))) x s') (hC : RC s' I J P) (hM : RM s I J) : gTM (d + 9) 205 [.ref 171, .int i, .int k] (gST I J P) (pM x s') := by
  obtain ⟨tp, fn, t, W, nm, pr, ch, i0, i1⟩ := s
  have hO0 := hO
  have hM0 := hM
  obtain ⟨oTp, oT, oW, oN, oP, oI0, oI1⟩ := hO
  obtain ⟨jTp, jF, jT, jSp, jW, jN, jP, jC, jI0, jI1, jB, jL⟩ := hM
  dsimp only at oTp oT oW oN oP oI0 oI1 jTp jF jT jSp jW jN jP jC jI0 jI1
  try dsimp only at hS
  have h4 := cnt_le nm
  refine gT_n 6 ?_
  refine ⟨rfl, rfl, gTM.useA (n_labelsOf (n := nm)) (Nat.le_refl _) (aL (jN) (rfl)) (fun r u hq => ?_)⟩
  obtain ⟨rfl, rfl⟩ := hq  -- X12_labelsOf[lN nm]
  refine gT_n 4 ?_
  refine ⟨rfl, gTM.use (m_inZ (n := cnt nm) (by omega) rfl rfl rfl) (Nat.le_refl _) (fun r u hq => ?_)⟩
  obtain ⟨rfl, ⟨rfl, b1⟩ | ⟨rfl, b1⟩⟩ := hq  -- X12_in[i2l(i), lN 0, i2l(nI (((cnt nm)) - 1))]
  · refine gT_n 1 ?_
    refine ⟨fun c => absurd c (by decide), fun _ => ?_⟩
    refine gT_n 5 ?_
    refine ⟨rfl, gTM.use (m_inZ (n := 3) (by omega) rfl rfl rfl) (Nat.le_refl _) (fun r u hq => ?_)⟩
    obtain ⟨rfl, ⟨rfl, b2⟩ | ⟨rfl, b2⟩⟩ := hq  -- X12_in[i2l(k), lN 0, lN 2]
    · refine gT_n 1 ?_
      refine ⟨fun c => absurd c (by decide), fun _ => ?_⟩
      obtain ⟨rfl, ⟨h, -⟩ | ⟨h, -⟩ | ⟨a, b, ha, hb, rfl, rfl, rfl⟩⟩ := hS
      · exact absurd b1 h
      · exact absurd b2 h
      refine gT_n 4 ?_
      refine ⟨rfl, rfl, gTM.useA (n_labelOf (by omega)) (Nat.le_refl _) (aL (jN) (aI (rfl) (rfl))) (fun r u hq => ?_)⟩
      obtain ⟨rfl, rfl⟩ := hq  -- X12_labelOf[lN nm, nI a]
      refine gT_n 2 ?_
      refine ⟨rfl, gTM.use (m_letterOf (vn_labk oN (by omega)) hb) (Nat.le_refl _) (fun r u hq => ?_)⟩
      obtain ⟨rfl, rfl⟩ := hq  -- X12_letterOf[nI ((ml (lab nm a))), nI b]
      refine gT_n 2 ?_
      exact ⟨I, J, P, rfl, rfl, hC, hM0⟩
    · refine gT_n 1 ?_
      refine ⟨fun _ => ?_, fun c => absurd (by decide) c⟩
      refine gT_n 2 ?_
      obtain ⟨rfl, ⟨h, rfl⟩ | ⟨h, rfl⟩ | ⟨a, b, ha, hb, rfl, rfl, rfl⟩⟩ := hS
      · exact ⟨I, J, P, rfl, rfl, hC, hM0⟩
      · exact ⟨I, J, P, rfl, rfl, hC, hM0⟩
      · first | exact absurd ⟨a, ha, rfl⟩ b1 | exact absurd ⟨b, hb, rfl⟩ b2
  · refine gT_n 1 ?_
    refine ⟨fun _ => ?_, fun c => absurd (by decide) c⟩
    refine gT_n 2 ?_
    obtain ⟨rfl, ⟨h, rfl⟩ | ⟨h, rfl⟩ | ⟨a, b, ha, hb, rfl, rfl, rfl⟩⟩ := hS
    · exact ⟨I, J, P, rfl, rfl, hC, hM0⟩
    · exact ⟨I, J, P, rfl, rfl, hC, hM0⟩
    · first | exact absurd ⟨a, ha, rfl⟩ b1 | exact absurd ⟨b, hb, rfl⟩ b2
theorem kpT {T n : Int32} {p : Int32 → Prop} (e : T = n) (h : p n) : p T := e ▸ h
def chF (a : Int32) (o : Option (Int32 × Nat × Int32)) : Int32 := match o with
  | none => -2
  | some q => if a = 0 then q.1 else if a = 1 then nI q.2.1 else q.2.2
theorem rng3 {a : Int32} (h : 0 ≤ a ∧ a ≤ 2) : a = 0 ∨ a = 1 ∨ a = 2 := by
  obtain ⟨k, hk, rfl⟩ := rngN (n := 2) (by omega) h
  have : k = 0 ∨ k = 1 ∨ k = 2 := by omega
  rcases this with rfl | rfl | rfl
  · exact Or.inl rfl
  · exact Or.inr (Or.inl rfl)
  · exact Or.inr (Or.inr rfl)
theorem o_checked_c {d : Nat} {s : zS} {I : Nat → Nat → Int32} {J : Nat → Nat → Int64} {P : Nat → Nat} {a : Int32} (hO : sOK s) (hC : RC s I J P) (hM : RM s I J) : gTM (d + 9) 138 [.ref 0, .int a] (gST I J P) (pC s (fun x s' => s' = s ∧ x = if 0 ≤ a ∧ a ≤ 2 then chF a s.2.2.2.2.2.2.1 else -1)) := by
  obtain ⟨tp, fn, t, W, nm, pr, ch, i0, i1⟩ := s
  have hO0 := hO
  have hC0 := hC
  have hM0 := hM
  obtain ⟨oTp, oT, oW, oN, oP, oI0, oI1⟩ := hO
  obtain ⟨kTp, kF, kT, kW, kN, kP, kC, kI0, kI1, kB, kPP⟩ := hC
  obtain ⟨jTp, jF, jT, jSp, jW, jN, jP, jC, jI0, jI1, jB, jL⟩ := hM
  dsimp only at oTp oT oW oN oP oI0 oI1 kTp kF kT kW kN kP kC kI0 kI1 jTp jF jT jSp jW jN jP jC jI0 jI1
  try dsimp only
  by_cases h : 0 ≤ a ∧ a ≤ 2
  · rw [if_pos h]
    cases ch with
    | none =>
      rcases rng3 h with rfl | rfl | rfl
      · refine gT_n 2 ?_
        refine ⟨fun c => absurd c (by decide), fun _ => ?_⟩
        refine gT_n 3 ?_
        refine ⟨fun _ => ?_, fun c => absurd (by decide) c⟩
        refine gT_n 4 ?_
        refine ⟨rfl, rfl, fun c => absurd c (kpT (p := fun z : Int32 => ¬ (¬ z = 0)) (show _ = (0 : Int32) from kC.1) (by decide)), fun _ => ?_⟩
        refine gT_n 2 ?_
        exact ⟨_, _, I, J, P, rfl, rfl, ⟨⟨rfl, rfl⟩, hO0⟩, hC0, hM0⟩
      · refine gT_n 2 ?_
        refine ⟨fun c => absurd c (by decide), fun _ => ?_⟩
        refine gT_n 3 ?_
        refine ⟨fun _ => ?_, fun c => absurd (by decide) c⟩
        refine gT_n 4 ?_
        refine ⟨rfl, rfl, fun c => absurd c (kpT (p := fun z : Int32 => ¬ (¬ z = 0)) (show _ = (0 : Int32) from kC.1) (by decide)), fun _ => ?_⟩
        refine gT_n 2 ?_
        exact ⟨_, _, I, J, P, rfl, rfl, ⟨⟨rfl, rfl⟩, hO0⟩, hC0, hM0⟩
      · refine gT_n 2 ?_
        refine ⟨fun c => absurd c (by decide), fun _ => ?_⟩
        refine gT_n 3 ?_
        refine ⟨fun _ => ?_, fun c => absurd (by decide) c⟩
        refine gT_n 4 ?_
        refine ⟨rfl, rfl, fun c => absurd c (kpT (p := fun z : Int32 => ¬ (¬ z = 0)) (show _ = (0 : Int32) from kC.1) (by decide)), fun _ => ?_⟩
        refine gT_n 2 ?_
        exact ⟨_, _, I, J, P, rfl, rfl, ⟨⟨rfl, rfl⟩, hO0⟩, hC0, hM0⟩
    | some q =>
      rcases rng3 h with rfl | rfl | rfl
      · refine gT_n 2 ?_
        refine ⟨fun c => absurd c (by decide), fun _ => ?_⟩
        refine gT_n 3 ?_
        refine ⟨fun _ => ?_, fun c => absurd (by decide) c⟩
        refine gT_n 4 ?_
        refine ⟨rfl, rfl, fun _ => ?_, fun c => absurd c (kpT (p := fun z : Int32 => ¬ z = 0) (show _ = (1 : Int32) from kC.1) (by decide))⟩
        refine gT_n 2 ?_
        refine ⟨fun _ => ?_, fun c => absurd rfl c⟩
        refine gT_n 4 ?_
        refine ⟨rfl, rfl, ?_⟩
        exact ⟨_, _, I, J, P, rfl, rfl, ⟨⟨rfl, (kC.2 q rfl).1⟩, hO0⟩, hC0, hM0⟩
      · refine gT_n 2 ?_
        refine ⟨fun c => absurd c (by decide), fun _ => ?_⟩
        refine gT_n 3 ?_
        refine ⟨fun _ => ?_, fun c => absurd (by decide) c⟩
        refine gT_n 4 ?_
        refine ⟨rfl, rfl, fun _ => ?_, fun c => absurd c (kpT (p := fun z : Int32 => ¬ z = 0) (show _ = (1 : Int32) from kC.1) (by decide))⟩
        refine gT_n 2 ?_
        refine ⟨fun c => absurd c (by decide), fun _ => ⟨fun _ => ?_, fun c => absurd rfl c⟩⟩
        refine gT_n 4 ?_
        refine ⟨rfl, rfl, ?_⟩
        exact ⟨_, _, I, J, P, rfl, rfl, ⟨⟨rfl, (kC.2 q rfl).2.1⟩, hO0⟩, hC0, hM0⟩
      · refine gT_n 2 ?_
        refine ⟨fun c => absurd c (by decide), fun _ => ?_⟩
        refine gT_n 3 ?_
        refine ⟨fun _ => ?_, fun c => absurd (by decide) c⟩
        refine gT_n 4 ?_
        refine ⟨rfl, rfl, fun _ => ?_, fun c => absurd c (kpT (p := fun z : Int32 => ¬ z = 0) (show _ = (1 : Int32) from kC.1) (by decide))⟩
        refine gT_n 2 ?_
        refine ⟨fun c => absurd c (by decide), fun _ => ⟨fun c => absurd c (by decide), fun _ => ?_⟩⟩
        refine gT_n 4 ?_
        refine ⟨rfl, rfl, ?_⟩
        exact ⟨_, _, I, J, P, rfl, rfl, ⟨⟨rfl, (kC.2 q rfl).2.2⟩, hO0⟩, hC0, hM0⟩
  · rw [if_neg h]
    refine gT_n 2 ?_
    refine ⟨fun c1 => ?_, fun c1 => ?_⟩
    · refine gT_n 2 ?_
      exact ⟨_, _, I, J, P, rfl, rfl, ⟨⟨rfl, rfl⟩, hO0⟩, hC0, hM0⟩
    · refine gT_n 3 ?_
      refine ⟨fun c2 => ?_, fun c2 => ?_⟩
      · refine gT_n 1 ?_
        exact absurd (rng_in c1 c2) h
      · refine gT_n 2 ?_
        exact ⟨_, _, I, J, P, rfl, rfl, ⟨⟨rfl, rfl⟩, hO0⟩, hC0, hM0⟩

theorem o_checked_m {d : Nat} {s s' : zS} {x : Int32} {I : Nat → Nat → Int32} {J : Nat → Nat → Int64} {P : Nat → Nat} {a : Int32} (hO : sOK s) (hS : (fun x s' => s' = s ∧ x = if 0 ≤ a ∧ a ≤ 2 then chF a s.2.2.2.2.2.2.1 else -1) x s') (hC : RC s' I J P) (hM : RM s I J) : gTM (d + 9) 258 [.ref 171, .int a] (gST I J P) (pM x s') := by
  obtain ⟨tp, fn, t, W, nm, pr, ch, i0, i1⟩ := s
  have hO0 := hO
  have hM0 := hM
  obtain ⟨oTp, oT, oW, oN, oP, oI0, oI1⟩ := hO
  obtain ⟨jTp, jF, jT, jSp, jW, jN, jP, jC, jI0, jI1, jB, jL⟩ := hM
  dsimp only at oTp oT oW oN oP oI0 oI1 jTp jF jT jSp jW jN jP jC jI0 jI1
  try dsimp only at hS
  by_cases h : 0 ≤ a ∧ a ≤ 2
  · rw [if_pos h] at hS
    obtain ⟨rfl, rfl⟩ := hS
    cases ch with
    | none =>
      rcases rng3 h with rfl | rfl | rfl
      · refine gT_n 5 ?_
        refine ⟨rfl, gTM.use (m_in1 (x := 0) (z := 2) rfl rfl (by decide)) (Nat.le_refl _) (fun r u hq => ?_)⟩
        obtain ⟨rfl, rfl⟩ := hq  -- X12_in[i2l(K0), lN 0, lN 2]
        refine gT_n 1 ?_
        refine ⟨fun _ => ?_, fun c => absurd c (by decide)⟩
        refine gT_n 3 ?_
        refine ⟨rfl, fun c => absurd c (kpT (p := fun z : Int32 => ¬ (¬ z = 0)) (show _ = (0 : Int32) from jC.1) (by decide)), fun _ => ?_⟩
        refine gT_n 2 ?_
        exact ⟨I, J, P, rfl, ri (rfl), hC, hM0⟩
      · refine gT_n 5 ?_
        refine ⟨rfl, gTM.use (m_in1 (x := 0) (z := 2) rfl rfl (by decide)) (Nat.le_refl _) (fun r u hq => ?_)⟩
        obtain ⟨rfl, rfl⟩ := hq  -- X12_in[i2l(K1), lN 0, lN 2]
        refine gT_n 1 ?_
        refine ⟨fun _ => ?_, fun c => absurd c (by decide)⟩
        refine gT_n 3 ?_
        refine ⟨rfl, fun c => absurd c (kpT (p := fun z : Int32 => ¬ (¬ z = 0)) (show _ = (0 : Int32) from jC.1) (by decide)), fun _ => ?_⟩
        refine gT_n 2 ?_
        exact ⟨I, J, P, rfl, ri (rfl), hC, hM0⟩
      · refine gT_n 5 ?_
        refine ⟨rfl, gTM.use (m_in1 (x := 0) (z := 2) rfl rfl (by decide)) (Nat.le_refl _) (fun r u hq => ?_)⟩
        obtain ⟨rfl, rfl⟩ := hq  -- X12_in[i2l(K2), lN 0, lN 2]
        refine gT_n 1 ?_
        refine ⟨fun _ => ?_, fun c => absurd c (by decide)⟩
        refine gT_n 3 ?_
        refine ⟨rfl, fun c => absurd c (kpT (p := fun z : Int32 => ¬ (¬ z = 0)) (show _ = (0 : Int32) from jC.1) (by decide)), fun _ => ?_⟩
        refine gT_n 2 ?_
        exact ⟨I, J, P, rfl, ri (rfl), hC, hM0⟩
    | some q =>
      rcases rng3 h with rfl | rfl | rfl
      · refine gT_n 5 ?_
        refine ⟨rfl, gTM.use (m_in1 (x := 0) (z := 2) rfl rfl (by decide)) (Nat.le_refl _) (fun r u hq => ?_)⟩
        obtain ⟨rfl, rfl⟩ := hq  -- X12_in[i2l(K0), lN 0, lN 2]
        refine gT_n 1 ?_
        refine ⟨fun _ => ?_, fun c => absurd c (by decide)⟩
        refine gT_n 3 ?_
        refine ⟨rfl, fun _ => ?_, fun c => absurd c (kpT (p := fun z : Int32 => ¬ z = 0) (show _ = (1 : Int32) from jC.1) (by decide))⟩
        refine gT_n 2 ?_
        refine ⟨fun c => absurd (by decide) c, fun _ => ?_⟩
        refine gT_n 4 ?_
        refine ⟨rfl, ?_⟩
        exact ⟨I, J, P, rfl, ri ((jC.2 q rfl).1), hC, hM0⟩
      · refine gT_n 5 ?_
        refine ⟨rfl, gTM.use (m_in1 (x := 0) (z := 2) rfl rfl (by decide)) (Nat.le_refl _) (fun r u hq => ?_)⟩
        obtain ⟨rfl, rfl⟩ := hq  -- X12_in[i2l(K1), lN 0, lN 2]
        refine gT_n 1 ?_
        refine ⟨fun _ => ?_, fun c => absurd c (by decide)⟩
        refine gT_n 3 ?_
        refine ⟨rfl, fun _ => ?_, fun c => absurd c (kpT (p := fun z : Int32 => ¬ z = 0) (show _ = (1 : Int32) from jC.1) (by decide))⟩
        refine gT_n 2 ?_
        refine ⟨fun _ => ?_, fun c => absurd c (by decide)⟩
        refine gT_n 3 ?_
        refine ⟨fun c => absurd (by decide) c, fun _ => ?_⟩
        refine gT_n 4 ?_
        refine ⟨rfl, ?_⟩
        exact ⟨I, J, P, rfl, ri ((jC.2 q rfl).2.1), hC, hM0⟩
      · refine gT_n 5 ?_
        refine ⟨rfl, gTM.use (m_in1 (x := 0) (z := 2) rfl rfl (by decide)) (Nat.le_refl _) (fun r u hq => ?_)⟩
        obtain ⟨rfl, rfl⟩ := hq  -- X12_in[i2l(K2), lN 0, lN 2]
        refine gT_n 1 ?_
        refine ⟨fun _ => ?_, fun c => absurd c (by decide)⟩
        refine gT_n 3 ?_
        refine ⟨rfl, fun _ => ?_, fun c => absurd c (kpT (p := fun z : Int32 => ¬ z = 0) (show _ = (1 : Int32) from jC.1) (by decide))⟩
        refine gT_n 2 ?_
        refine ⟨fun _ => ?_, fun c => absurd c (by decide)⟩
        refine gT_n 3 ?_
        refine ⟨fun _ => ?_, fun c => absurd c (by decide)⟩
        refine gT_n 3 ?_
        refine ⟨rfl, ?_⟩
        exact ⟨I, J, P, rfl, ri ((jC.2 q rfl).2.2), hC, hM0⟩
  · rw [if_neg h] at hS
    obtain ⟨rfl, rfl⟩ := hS
    refine gT_n 5 ?_
    refine ⟨rfl, gTM.use (m_in0 (x := 0) (z := 2) rfl rfl h) (Nat.le_refl _) (fun r u hq => ?_)⟩
    obtain ⟨rfl, rfl⟩ := hq  -- X12_in[i2l(a), lN 0, lN 2]
    refine gT_n 1 ?_
    refine ⟨fun c => absurd (by decide) c, fun _ => ?_⟩
    refine gT_n 2 ?_
    exact ⟨I, J, P, rfl, ri (rfl), hC, hM0⟩

