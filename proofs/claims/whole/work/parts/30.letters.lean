theorem bi {c : Prop} {a b : Prop} (h1 : c → a) (h2 : ¬ c → b) : (c → a) ∧ (¬ c → b) := ⟨h1, h2⟩
/-- Names.isLetter -/
theorem c_isLetter {d : Nat} {a : Int32} {w : gW} : gTM d 35 [.int a] w (fun r u => u = w ∧ ∃ x : Int32, r = some (.int x) ∧ ((x = 1 ∧ 1 ≤ a ∧ a ≤ 26) ∨ (x = 0 ∧ ¬ (1 ≤ a ∧ a ≤ 26)))) := by
  refine gT_n 3 ?_
  refine ⟨fun c => ?_, fun c => ?_⟩
  · refine gT_n 2 ?_
    exact ⟨Or.inl rfl, rfl, 0, rfl, Or.inr ⟨rfl, fun z => absurd c (Int32.not_lt.mpr z.1)⟩⟩
  · refine gT_n 3 ?_
    refine ⟨fun c2 => ?_, fun c2 => ?_⟩
    · refine gT_n 2 ?_
      exact ⟨Or.inl rfl, rfl, 0, rfl, Or.inr ⟨rfl, fun z => absurd c2 (Int32.not_lt.mpr z.2)⟩⟩
    · refine gT_n 3 ?_
      exact ⟨Or.inr rfl, rfl, 1, rfl, Or.inl ⟨rfl, Int32.not_lt.mp c, Int32.not_lt.mp c2⟩⟩
/-- the reference's in -/
theorem m_in {d : Nat} {v a b : Int64} {w : gW} : gTM d 156 [.long v, .long a, .long b] w (fun r u => u = w ∧ ∃ x : Int32, r = some (.int x) ∧ ((x = 1 ∧ a ≤ v ∧ v ≤ b) ∨ (x = 0 ∧ ¬ (a ≤ v ∧ v ≤ b)))) := by
  refine gT_n 4 ?_
  refine ⟨fun c => ?_, fun c => ?_⟩
  · refine gT_n 2 ?_
    exact ⟨Or.inl rfl, rfl, 0, rfl, Or.inr ⟨rfl, fun z => absurd ((lg_cmp_lt _ _).mp c) (Int64.not_lt.mpr z.1)⟩⟩
  · refine gT_n 4 ?_
    refine ⟨fun c2 => ?_, fun c2 => ?_⟩
    · refine gT_n 2 ?_
      exact ⟨Or.inl rfl, rfl, 0, rfl, Or.inr ⟨rfl, fun z => absurd ((lg_cmp_gt _ _).mp c2) (Int64.not_lt.mpr z.2)⟩⟩
    · refine gT_n 3 ?_
      exact ⟨Or.inr rfl, rfl, 1, rfl, Or.inl ⟨rfl, Int64.not_lt.mp (fun z => c ((lg_cmp_lt _ _).mpr z)), Int64.not_lt.mp (fun z => c2 ((lg_cmp_gt _ _).mpr z))⟩⟩
/-- the reference's shiftOf -/
theorem m_shiftOf {d : Nat} {i : Int32} {w : gW} : gTM d 158 [.int i] w (fun r u => u = w ∧ r = some (.int (15 * (3 - i)))) := by
  refine gT_n 6 ?_
  exact ⟨rfl, rfl⟩
/-- the reference's labelOf -/
theorem m_labelOf {d n k : Nat} {w : gW} (hn : n < 2 ^ 60) (hk : k < 4) : gTM (d + 1) 159 [.long (lN n), .int (nI k)] w (fun r u => u = w ∧ r = some (.int (nI (lab n k)))) := by
  refine gT_n 3 ?_
  refine ⟨rfl, gTM.use (m_shiftOf (d := d)) (Nat.le_refl _) (fun r u hq => ?_)⟩
  obtain ⟨rfl, rfl⟩ := hq
  refine gT_n 5 ?_
  exact ⟨rfl, ri (sh_lab hn hk)⟩
/-- the reference's labelsOf -/
theorem m_labelsOf {d n : Nat} {w : gW} (hn : n < 2 ^ 60) : gTM (d + 2) 160 [.long (lN n)] w (fun r u => u = w ∧ r = some (.int (nI (cnt n)))) := by
  have loop : ∀ f j : Nat, j + f = 4 → (∀ i, i < j → lab n i ≠ 0) → gT (d + 2) 160 2 [(2, .int (nI j)), (0, .long (lN n))] [] (0, 0) w (fun r u => u = w ∧ r = some (.int (nI (cnt n)))) := by
    intro f
    induction f with
    | zero =>
      intro j hj h
      have e : j = 4 := by omega
      subst e
      refine gT_n 3 ?_
      refine ⟨fun _ => ?_, fun c => absurd (by decide) c⟩
      refine gT_n 2 ?_
      exact ⟨rfl, ri (by rw [cnt_eq (Nat.le_refl 4) h (fun h => absurd h (by omega))])⟩
    | succ f ih =>
      intro j hj h
      refine gT_n 3 ?_
      refine ⟨fun c => absurd c (nI_ge (a := j) (b := 4) (by omega) (by omega)), fun _ => ?_⟩
      refine gT_n 3 ?_
      refine ⟨rfl, gTM.use (m_labelOf (d := d) hn (by omega)) (Nat.le_refl _) (fun r u hq => ?_)⟩
      obtain ⟨rfl, rfl⟩ := hq
      refine gT_n 1 ?_
      refine ⟨fun c => ?_, fun c => ?_⟩
      · refine gT_n 2 ?_
        have e : lab n j = 0 := by
          rcases Nat.eq_zero_or_pos (lab n j) with z | z
          · exact z
          · exact absurd c (nI_nle z (by have := lab_lt n j; omega))
        exact ⟨rfl, ri (by rw [cnt_eq (by omega) h (fun _ => e)])⟩
      · refine gT_n 2 ?_
        have e : lab n j ≠ 0 := fun z => c (by rw [z]; decide)
        show gT (d + 2) 160 2 [(2, .int (nI j + 1)), (0, .long (lN n))] [] (0, 0) u _
        rw [nI_1]
        exact ih (j + 1) (by omega) (fun i hi => by
          rcases Nat.lt_or_ge i j with z | z
          · exact h i z
          · have : i = j := by omega
            rw [this]; exact e)
  refine gT_n 2 ?_
  exact loop 4 0 rfl (fun i hi => absurd hi (by omega))
/-- the reference's withLabel, of a name that has room -/
theorem m_withLabel {d n x : Nat} {w : gW} (h : nwf n) (hc : cnt n < 4) (hx : x < 32768) : gTM (d + 3) 162 [.long (lN n), .int (nI x)] w (fun r u => u = w ∧ r = some (.long (lN (nlon n x)))) := by
  refine gT_n 5 ?_
  refine ⟨rfl, gTM.use (m_labelsOf (d := d) h.1) (Nat.le_refl _) (fun r u hq => ?_)⟩
  obtain ⟨rfl, rfl⟩ := hq
  refine gT_n 1 ?_
  refine ⟨rfl, gTM.use (m_shiftOf (d := d)) (by omega) (fun r u hq => ?_)⟩
  obtain ⟨rfl, rfl⟩ := hq
  refine gT_n 3 ?_
  exact ⟨rfl, rfl, rj (sh_lon h rfl hc hx)⟩
theorem nfst_succ {n k : Nat} (hn : n < 2 ^ 60) (hk : k < 4) : nfst n (k + 1) = nfst n k + lab n k * 2 ^ (15 * (3 - k)) := by
  unfold nfst lab
  match k, hk with
  | 0, _ => simp only [Nat.reduceAdd, Nat.reduceSub, Nat.reduceMul, Nat.reducePow]; omega
  | 1, _ => simp only [Nat.reduceAdd, Nat.reduceSub, Nat.reduceMul, Nat.reducePow]; omega
  | 2, _ => simp only [Nat.reduceAdd, Nat.reduceSub, Nat.reduceMul, Nat.reducePow]; omega
  | 3, _ => simp only [Nat.reduceAdd, Nat.reduceSub, Nat.reduceMul, Nat.reducePow]; omega
  | k + 4, h => exact absurd h (by omega)
theorem sh_or {n k : Nat} (hn : n < 2 ^ 60) (hk : k < 4) : lN (nfst n k) ||| ((nI (lab n k)).toInt64 <<< (((15 : Int32) * (3 - nI k)).toInt64 &&& 63)) = lN (nfst n (k + 1)) := by
  have hx := lab_lt n k
  rw [nI_l (by omega), nfst_succ hn hk]
  have hle := nfst_le n k
  have key : ∀ (D : Int64) (m q : Nat), m + 15 < 62 → D.toBitVec.smod 64 = BitVec.ofNat 64 m → nfst n k = q * 2 ^ (m + 15) → lN (nfst n k) ||| (lN (lab n k) <<< D) = lN (nfst n k + lab n k * 2 ^ m) := by
    intro D m q hm hD hq2
    rw [g_shl hD (by omega) rfl (by omega)]
    rw [hq2]
    have hlt : lab n k * 2 ^ m < 2 ^ (m + 15) := by
      rw [Nat.pow_add, Nat.mul_comm (2 ^ m)]
      exact Nat.mul_lt_mul_of_pos_right hx (Nat.two_pow_pos m)
    refine g_or (k := m + 15) rfl hlt ?_
    rw [← hq2]
    have : 2 ^ (m + 15) < 2 ^ 62 := Nat.pow_lt_pow_right (by omega) hm
    omega
  match k, hk with
  | 0, _ => exact key _ 45 0 (by omega) (by decide) (by rw [nfst_0 hn, Nat.zero_mul])
  | 1, _ => exact key _ 30 _ (by omega) (by decide) rfl
  | 2, _ => exact key _ 15 _ (by omega) (by decide) rfl
  | 3, _ => exact key _ 0 _ (by omega) (by decide) rfl
  | k + 4, h => exact absurd h (by omega)
/-- the reference's firstOf -/
theorem m_firstOf {d n k : Nat} {w : gW} (hn : n < 2 ^ 60) (hk : k ≤ 4) : gTM (d + 2) 161 [.long (lN n), .int (nI k)] w (fun r u => u = w ∧ r = some (.long (lN (nfst n k)))) := by
  have loop : ∀ f j : Nat, j + f = k → gT (d + 2) 161 5 [(5, .int (nI j)), (3, .long (lN (nfst n j))), (0, .long (lN n)), (2, .int (nI k))] [] (0, 0) w (fun r u => u = w ∧ r = some (.long (lN (nfst n k)))) := by
    intro f
    induction f with
    | zero =>
      intro j hj
      have e : j = k := by omega
      subst e
      refine gT_n 3 ?_
      refine ⟨fun _ => ?_, fun c => absurd (Int32.le_refl _) c⟩
      refine gT_n 2 ?_
      exact ⟨rfl, rfl, rfl⟩
    | succ f ih =>
      intro j hj
      refine gT_n 3 ?_
      refine ⟨fun c => absurd c (nI_ge (a := j) (b := k) (by omega) (by omega)), fun _ => ?_⟩
      refine gT_n 4 ?_
      refine ⟨rfl, gTM.use (m_labelOf (d := d) hn (by omega)) (Nat.le_refl _) (fun r u hq => ?_)⟩
      obtain ⟨rfl, rfl⟩ := hq
      refine gT_n 3 ?_
      refine ⟨rfl, gTM.use (m_shiftOf (d := d)) (by omega) (fun r u hq => ?_)⟩
      obtain ⟨rfl, rfl⟩ := hq
      refine gT_n 5 ?_
      show gT (d + 2) 161 5 [(5, .int (nI j + 1)), (3, .long (lN (nfst n j) ||| ((nI (lab n j)).toInt64 <<< (((15 : Int32) * (3 - nI j)).toInt64 &&& 63)))), (0, .long (lN n)), (2, .int (nI k))] [] (0, 0) u _
      rw [nI_1, sh_or hn (by omega)]
      exact ih (j + 1) (by omega)
  refine gT_n 4 ?_
  show gT (d + 2) 161 5 [(5, .int 0), (3, .long 0), (0, .long (lN n)), (2, .int (nI k))] [] (0, 0) w _
  have e0 : (0 : Int64) = lN (nfst n 0) := by rw [nfst_0 hn]; rfl
  rw [e0]
  exact loop k 0 (by omega)
