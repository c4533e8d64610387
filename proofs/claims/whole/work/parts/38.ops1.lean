/-! CALLS, the plain ones -/
theorem rng_lo {x a b : Int32} (h : x < a) : ¬ (a ≤ x ∧ x ≤ b) := fun z => absurd h (Int32.not_lt.mpr z.1)
theorem rng_hi {x a b : Int32} (h : ¬ x ≤ b) : ¬ (a ≤ x ∧ x ≤ b) := fun z => h z.2
theorem rng_in {x a b : Int32} (h : ¬ x < a) (h2 : x ≤ b) : a ≤ x ∧ x ≤ b := ⟨Int32.not_lt.mp h, h2⟩
theorem rngN {x : Int32} {n : Nat} (hn : n + 1 < 2 ^ 31) (h : 0 ≤ x ∧ x ≤ nI n) : ∃ k, k ≤ n ∧ x = nI k := by
  obtain ⟨k, hk, e⟩ := inZ_of (n := n + 1) hn (Int32.not_lt.mpr h.1) (fun c => nI_ge (a := n) (b := n + 1) (by omega) hn (Int32.le_trans c h.2))
  exact ⟨k, by omega, e⟩
theorem rngN' {k n : Nat} (hk : k ≤ n) (hn : n < 2 ^ 31) : (0 : Int32) ≤ nI k ∧ nI k ≤ nI n := ⟨nI_pos' (by omega), nI_le hk hn⟩
theorem i8k : ∀ k, k < 128 → (nI k).toInt8.toInt32 = nI k := by decide +kernel
theorem m_in1 {d : Nat} {v : Int32} {a b : Int64} {x z : Int32} {w : gW} (ha : x.toInt64 = a) (hb : z.toInt64 = b) (h : x ≤ v ∧ v ≤ z) : gTM d 156 [.long v.toInt64, .long a, .long b] w (fun r u => u = w ∧ r = some (.int 1)) := by
  refine gTM.use (m_inI ha hb) (Nat.le_refl _) (fun r u hq => ?_)
  obtain ⟨rfl, ⟨rfl, b1⟩ | ⟨rfl, b1⟩⟩ := hq
  · exact ⟨rfl, rfl⟩
  · exact absurd h b1
theorem m_in0 {d : Nat} {v : Int32} {a b : Int64} {x z : Int32} {w : gW} (ha : x.toInt64 = a) (hb : z.toInt64 = b) (h : ¬ (x ≤ v ∧ v ≤ z)) : gTM d 156 [.long v.toInt64, .long a, .long b] w (fun r u => u = w ∧ r = some (.int 0)) := by
  refine gTM.use (m_inI ha hb) (Nat.le_refl _) (fun r u hq => ?_)
  obtain ⟨rfl, ⟨rfl, b1⟩ | ⟨rfl, b1⟩⟩ := hq
  · exact absurd b1 h
  · exact ⟨rfl, rfl⟩
theorem o_fault_c {d : Nat} {s : zS} {I : Nat → Nat → Int32} {J : Nat → Nat → Int64} {P : Nat → Nat} (hO : sOK s) (hC : RC s I J P) (hM : RM s I J) : gTM (d + 9) 118 [.ref 0] (gST I J P) (pC s (fun x s' => s' = s ∧ x = s.2.1)) := by
  obtain ⟨tp, fn, t, W, nm, pr, ch, i0, i1⟩ := s
  have hO0 := hO
  have hC0 := hC
  have hM0 := hM
  obtain ⟨oTp, oT, oW, oN, oP, oI0, oI1⟩ := hO
  obtain ⟨kTp, kF, kT, kW, kN, kP, kC, kI0, kI1, kB, kPP⟩ := hC
  obtain ⟨jTp, jF, jT, jSp, jW, jN, jP, jC, jI0, jI1, jB, jL⟩ := hM
  dsimp only at oTp oT oW oN oP oI0 oI1 kTp kF kT kW kN kP kC kI0 kI1 jTp jF jT jSp jW jN jP jC jI0 jI1
  try dsimp only
  refine gT_n 4 ?_
  refine ⟨rfl, rfl, ?_⟩
  exact ⟨_, _, I, J, P, rfl, rfl, ⟨⟨rfl, kF⟩, hO0⟩, hC0, hM0⟩
theorem o_fault_m {d : Nat} {s s' : zS} {x : Int32} {I : Nat → Nat → Int32} {J : Nat → Nat → Int64} {P : Nat → Nat} (hO : sOK s) (hS : (fun x s' => s' = s ∧ x = s.2.1) x s') (hC : RC s' I J P) (hM : RM s I J) : gTM (d + 9) 198 [.ref 171] (gST I J P) (pM x s') := by
  obtain ⟨tp, fn, t, W, nm, pr, ch, i0, i1⟩ := s
  have hO0 := hO
  have hM0 := hM
  obtain ⟨oTp, oT, oW, oN, oP, oI0, oI1⟩ := hO
  obtain ⟨jTp, jF, jT, jSp, jW, jN, jP, jC, jI0, jI1, jB, jL⟩ := hM
  dsimp only at oTp oT oW oN oP oI0 oI1 jTp jF jT jSp jW jN jP jC jI0 jI1
  try dsimp only at hS
  obtain ⟨rfl, rfl⟩ := hS
  refine gT_n 3 ?_
  refine ⟨rfl, ?_⟩
  exact ⟨I, J, P, rfl, ri (jF), hC, hM0⟩
theorem o_end_c {d : Nat} {s : zS} {I : Nat → Nat → Int32} {J : Nat → Nat → Int64} {P : Nat → Nat} {n : Int32} (hO : sOK s) (hC : RC s I J P) (hM : RM s I J) : gTM (d + 9) 116 [.ref 0, .int n] (gST I J P) (pC s (fun x s' => (¬ (0 ≤ n ∧ n ≤ nI s.1.1) ∧ x = -1 ∧ s' = s) ∨ ((0 ≤ n ∧ n ≤ nI s.1.1) ∧ x = nI s.1.1 ∧ ∀ k, n = nI k → k ≤ s.1.1 → s' = ((k, s.1.2), s.2)))) := by
  obtain ⟨tp, fn, t, W, nm, pr, ch, i0, i1⟩ := s
  have hO0 := hO
  have hC0 := hC
  have hM0 := hM
  obtain ⟨oTp, oT, oW, oN, oP, oI0, oI1⟩ := hO
  obtain ⟨kTp, kF, kT, kW, kN, kP, kC, kI0, kI1, kB, kPP⟩ := hC
  obtain ⟨jTp, jF, jT, jSp, jW, jN, jP, jC, jI0, jI1, jB, jL⟩ := hM
  dsimp only at oTp oT oW oN oP oI0 oI1 kTp kF kT kW kN kP kC kI0 kI1 jTp jF jT jSp jW jN jP jC jI0 jI1
  try dsimp only
  refine gT_n 6 ?_
  refine ⟨rfl, rfl, fun c1 => ?_, fun c1 => ?_⟩
  · refine gT_n 2 ?_
    exact ⟨_, _, I, J, P, rfl, rfl, ⟨Or.inl ⟨by first | exact rng_lo c1 | exact rng_hi (by rw [← kTp.1]; exact c2), rfl, rfl⟩, hO0⟩, hC0, hM0⟩
  · refine gT_n 3 ?_
    refine ⟨fun c2 => ?_, fun c2 => ?_⟩
    · refine gT_n 6 ?_
      refine ⟨rfl, rfl, ?_⟩
      obtain ⟨k, hk, e⟩ := rngN (n := tp.1) (by omega) (rng_in c1 (by rw [← kTp.1]; exact c2))
      subst e
      exact ⟨_, ((k, tp.2), fn, t, W, nm, pr, ch, i0, i1), _, _, P, rfl, rfl, ⟨Or.inr ⟨rngN' (n := tp.1) hk (by omega), kTp.1, fun k' e' hk' => by rw [(nI_eq (a := k) (b := k') (by omega) (by omega)).mp e']⟩, ⟨by show k ≤ 200; omega, fun j hj => oTp.2 j (by have : j < k := hj; omega)⟩, oT, oW, oN, oP, oI0, oI1⟩, ⟨⟨rfl, fun j hj => kTp.2 j (by have : j < k := hj; omega)⟩, kF, kT, kW, kN, kP, kC, kI0, kI1, kB, kPP⟩, hM0⟩
    · refine gT_n 2 ?_
      exact ⟨_, _, I, J, P, rfl, rfl, ⟨Or.inl ⟨by first | exact rng_lo c1 | exact rng_hi (by rw [← kTp.1]; exact c2), rfl, rfl⟩, hO0⟩, hC0, hM0⟩
theorem o_end_m {d : Nat} {s s' : zS} {x : Int32} {I : Nat → Nat → Int32} {J : Nat → Nat → Int64} {P : Nat → Nat} {n : Int32} (hO : sOK s) (hS : (fun x s' => (¬ (0 ≤ n ∧ n ≤ nI s.1.1) ∧ x = -1 ∧ s' = s) ∨ ((0 ≤ n ∧ n ≤ nI s.1.1) ∧ x = nI s.1.1 ∧ ∀ k, n = nI k → k ≤ s.1.1 → s' = ((k, s.1.2), s.2))) x s') (hC : RC s' I J P) (hM : RM s I J) : gTM (d + 9) 180 [.ref 171, .int n] (gST I J P) (pM x s') := by
  obtain ⟨tp, fn, t, W, nm, pr, ch, i0, i1⟩ := s
  have hO0 := hO
  have hM0 := hM
  obtain ⟨oTp, oT, oW, oN, oP, oI0, oI1⟩ := hO
  obtain ⟨jTp, jF, jT, jSp, jW, jN, jP, jC, jI0, jI1, jB, jL⟩ := hM
  dsimp only at oTp oT oW oN oP oI0 oI1 jTp jF jT jSp jW jN jP jC jI0 jI1
  try dsimp only at hS
  refine gT_n 7 ?_
  refine ⟨rfl, rfl, gTM.use (m_inI (x := 0) (z := I 171 18) rfl rfl) (Nat.le_refl _) (fun r u hq => ?_)⟩
  obtain ⟨rfl, ⟨rfl, b1⟩ | ⟨rfl, b1⟩⟩ := hq  -- X12_in[i2l(n), lN 0, i2l(171.taped)]
  · refine gT_n 1 ?_
    refine ⟨fun _ => ?_, fun c => absurd c (by decide)⟩
    refine gT_n 8 ?_
    refine ⟨rfl, rfl, ?_⟩
    rw [jTp.1] at b1
    rcases hS with ⟨h, -⟩ | ⟨h, rfl, hs⟩
    · exact absurd b1 h
    · obtain ⟨k, hk, e⟩ := rngN (n := tp.1) (by omega) h
      have hs2 := hs k e hk
      subst hs2
      subst e
      exact ⟨_, _, P, rfl, ri jTp.1, hC, ⟨⟨rfl, fun j hj => jTp.2 j (by have : j < k := hj; omega)⟩, jF, jT, jSp, jW, jN, jP, jC, jI0, jI1, jB, jL⟩⟩
  · refine gT_n 1 ?_
    refine ⟨fun c => absurd (by decide) c, fun _ => ?_⟩
    refine gT_n 2 ?_
    rw [jTp.1] at b1
    rcases hS with ⟨h, rfl, rfl⟩ | ⟨h, -⟩
    · exact ⟨I, J, P, rfl, rfl, hC, hM0⟩
    · exact absurd h b1
theorem o_feed_c {d : Nat} {s : zS} {I : Nat → Nat → Int32} {J : Nat → Nat → Int64} {P : Nat → Nat} {c : Int32} (hO : sOK s) (hC : RC s I J P) (hM : RM s I J) : gTM (d + 9) 115 [.ref 0, .int c] (gST I J P) (pC s (fun x s' => (¬ (0 ≤ c ∧ c ≤ 127) ∧ x = -1 ∧ s' = s) ∨ ((0 ≤ c ∧ c ≤ 127) ∧ s.1.1 = 200 ∧ x = -3 ∧ s' = s) ∨ ((0 ≤ c ∧ c ≤ 127) ∧ s.1.1 < 200 ∧ x = nI (s.1.1 + 1) ∧ ∀ k, c = nI k → k < 128 → s' = ((s.1.1 + 1, fun i => if i = s.1.1 then k else s.1.2 i), s.2)))) := by
  obtain ⟨tp, fn, t, W, nm, pr, ch, i0, i1⟩ := s
  have hO0 := hO
  have hC0 := hC
  have hM0 := hM
  obtain ⟨oTp, oT, oW, oN, oP, oI0, oI1⟩ := hO
  obtain ⟨kTp, kF, kT, kW, kN, kP, kC, kI0, kI1, kB, kPP⟩ := hC
  obtain ⟨jTp, jF, jT, jSp, jW, jN, jP, jC, jI0, jI1, jB, jL⟩ := hM
  dsimp only at oTp oT oW oN oP oI0 oI1 kTp kF kT kW kN kP kC kI0 kI1 jTp jF jT jSp jW jN jP jC jI0 jI1
  try dsimp only
  refine gT_n 2 ?_
  refine ⟨fun c1 => ?_, fun c1 => ?_⟩
  · refine gT_n 2 ?_
    exact ⟨_, _, I, J, P, rfl, rfl, ⟨Or.inl ⟨by first | exact rng_lo c1 | exact rng_hi c2, rfl, rfl⟩, hO0⟩, hC0, hM0⟩
  · refine gT_n 3 ?_
    refine ⟨fun c2 => ?_, fun c2 => ?_⟩
    · refine gT_n 2 ?_
      refine ⟨rfl, ?_⟩
      obtain ⟨k, hk, rfl⟩ := rngN (n := 127) (by omega) (rng_in c1 c2)
      have ok := oTp.1
      refine gT_n 3 ?_
      refine ⟨rfl, pk_lt tp.1 200 (fun c3 => ?_) (fun c3 => ?_) (kTp.1) (rfl) (by omega) (by omega)⟩
      · refine gT_n 20 ?_
        refine ⟨rfl, rfl, rfl, rfl, (Or.inl rfl), (pk_in tp.1 200 (by omega) (kTp.1)), (Or.inl ⟨rfl, (i8k k (by omega)).symm ▸ i8k k (by omega)⟩), rfl, rfl, rfl, rfl, rfl, ?_⟩
        refine ⟨_, ((tp.1 + 1, fun i => if i = tp.1 then k else tp.2 i), fn, t, W, nm, pr, ch, i0, i1), _, _, P, rfl, rfl, ⟨Or.inr (Or.inr ⟨rngN' (n := 127) hk (by omega), c3, pk_addE kTp.1 rfl, fun k' e' hk' => by rw [(nI_eq (by omega) (by omega)).mp e']⟩), ⟨by show tp.1 + 1 ≤ 200; omega, fun j hj => ?_⟩, oT, oW, oN, oP, oI0, oI1⟩, ⟨⟨pk_addE kTp.1 rfl, fun j hj => ?_⟩, kF, kT, kW, kN, kP, kC, kI0, kI1, kB, kPP⟩, hM0⟩
        · show (if j = tp.1 then k else tp.2 j) < 128
          split
          · omega
          · exact oTp.2 j (by have : j < tp.1 + 1 := hj; omega)
        · show upd (I 2) (I 1 1).toNatClampNeg ((nI k).toInt8.toInt32) j = nI (if j = tp.1 then k else tp.2 j)
          rw [kTp.1, nI_clamp (by omega), i8k k (by omega)]
          by_cases e : j = tp.1
          · rw [if_pos e, e, pk_us]
          · rw [if_neg e, pk_un e]
            exact kTp.2 j (by have : j < tp.1 + 1 := hj; omega)
      · refine gT_n 2 ?_
        exact ⟨_, _, I, J, P, rfl, rfl, ⟨Or.inr (Or.inl ⟨rngN' (n := 127) hk (by omega), by show tp.1 = 200; omega, rfl, rfl⟩), hO0⟩, hC0, hM0⟩
    · refine gT_n 2 ?_
      exact ⟨_, _, I, J, P, rfl, rfl, ⟨Or.inl ⟨by first | exact rng_lo c1 | exact rng_hi c2, rfl, rfl⟩, hO0⟩, hC0, hM0⟩
theorem o_feed_m {d : Nat} {s s' : zS} {x : Int32} {I : Nat → Nat → Int32} {J : Nat → Nat → Int64} {P : Nat → Nat} {c : Int32} (hO : sOK s) (hS : (fun x s' => (¬ (0 ≤ c ∧ c ≤ 127) ∧ x = -1 ∧ s' = s) ∨ ((0 ≤ c ∧ c ≤ 127) ∧ s.1.1 = 200 ∧ x = -3 ∧ s' = s) ∨ ((0 ≤ c ∧ c ≤ 127) ∧ s.1.1 < 200 ∧ x = nI (s.1.1 + 1) ∧ ∀ k, c = nI k → k < 128 → s' = ((s.1.1 + 1, fun i => if i = s.1.1 then k else s.1.2 i), s.2))) x s') (hC : RC s' I J P) (hM : RM s I J) : gTM (d + 9) 179 [.ref 171, .int c] (gST I J P) (pM x s') := by
  obtain ⟨tp, fn, t, W, nm, pr, ch, i0, i1⟩ := s
  have hO0 := hO
  have hM0 := hM
  obtain ⟨oTp, oT, oW, oN, oP, oI0, oI1⟩ := hO
  obtain ⟨jTp, jF, jT, jSp, jW, jN, jP, jC, jI0, jI1, jB, jL⟩ := hM
  dsimp only at oTp oT oW oN oP oI0 oI1 jTp jF jT jSp jW jN jP jC jI0 jI1
  try dsimp only at hS
  have ok := oTp.1
  refine gT_n 5 ?_
  refine ⟨rfl, gTM.use (m_inI (x := 0) (z := 127) rfl rfl) (Nat.le_refl _) (fun r u hq => ?_)⟩
  obtain ⟨rfl, ⟨rfl, b1⟩ | ⟨rfl, b1⟩⟩ := hq  -- X12_in[i2l(c), lN 0, lN 127]
  · refine gT_n 1 ?_
    refine ⟨fun _ => ?_, fun c => absurd c (by decide)⟩
    refine gT_n 4 ?_
    refine ⟨rfl, pk_ne tp.1 200 (fun c2 => ?_) (fun c2 => ?_) (jTp.1) (rfl) (by omega) (by omega)⟩
    · refine gT_n 15 ?_
      refine ⟨rfl, rfl, rfl, (pk_in tp.1 200 (by omega) (jTp.1)), rfl, rfl, rfl, ?_⟩
      rcases hS with ⟨h, -⟩ | ⟨h, h2, -⟩ | ⟨h, h2, rfl, hs⟩
      · exact absurd b1 h
      · exact absurd h2 (by omega)
      · obtain ⟨k, hk, e⟩ := rngN (n := 127) (by omega) h
        have hs2 := hs k e (by omega)
        subst hs2
        subst e
        refine ⟨_, _, P, rfl, ri (pk_addE jTp.1 rfl), hC, ⟨⟨pk_addE jTp.1 rfl, fun j hj => ?_⟩, jF, jT, jSp, jW, jN, jP, jC, jI0, jI1, jB, jL⟩⟩
        show upd (I 184) (I 171 18).toNatClampNeg (nI k) j = nI (if j = tp.1 then k else tp.2 j)
        rw [jTp.1, nI_clamp (by omega)]
        by_cases e : j = tp.1
        · rw [if_pos e, e, pk_us]
        · rw [if_neg e, pk_un e]
          exact jTp.2 j (by have : j < tp.1 + 1 := hj; omega)
    · refine gT_n 2 ?_
      rcases hS with ⟨h, -⟩ | ⟨h, h2, rfl, rfl⟩ | ⟨h, h2, -⟩
      · exact absurd b1 h
      · exact ⟨I, J, P, rfl, rfl, hC, hM0⟩
      · exact absurd h2 (by omega)
  · refine gT_n 1 ?_
    refine ⟨fun c => absurd (by decide) c, fun _ => ?_⟩
    refine gT_n 2 ?_
    rcases hS with ⟨h, rfl, rfl⟩ | ⟨h, -⟩ | ⟨h, -⟩
    · exact ⟨I, J, P, rfl, rfl, hC, hM0⟩
    · exact absurd h b1
    · exact absurd h b1
