/-! NAMES, both sides: a name is a number below 2^60, four labels of 15 bits, label 0 highest, no label 0. -/
def lab (n k : Nat) : Nat := n / 2 ^ (15 * (3 - k)) % 32768
def cnt (n : Nat) : Nat := if lab n 0 = 0 then 0 else if lab n 1 = 0 then 1 else if lab n 2 = 0 then 2 else if lab n 3 = 0 then 3 else 4
/-- its first k labels -/
def nfst (n k : Nat) : Nat := n / 2 ^ (15 * (4 - k)) * 2 ^ (15 * (4 - k))
/-- with a label more -/
def nlon (n x : Nat) : Nat := n + x * 2 ^ (15 * (3 - cnt n))
def nwf (n : Nat) : Prop := n < 2 ^ 60 ∧ (lab n 0 = 0 → lab n 1 = 0) ∧ (lab n 1 = 0 → lab n 2 = 0) ∧ (lab n 2 = 0 → lab n 3 = 0)
theorem lab_lt (n k : Nat) : lab n k < 32768 := Nat.mod_lt _ (by decide)
theorem cnt_le (n : Nat) : cnt n ≤ 4 := by
  unfold cnt
  split
  · omega
  · split
    · omega
    · split
      · omega
      · split <;> omega
theorem cnt_eq {n j : Nat} (hj : j ≤ 4) (h : ∀ i, i < j → lab n i ≠ 0) (h2 : j < 4 → lab n j = 0) : cnt n = j := by
  match j, hj with
  | 0, _ => simp [cnt, h2 (by omega)]
  | 1, _ => simp [cnt, h 0 (by omega), h2 (by omega)]
  | 2, _ => simp [cnt, h 0 (by omega), h 1 (by omega), h2 (by omega)]
  | 3, _ => simp [cnt, h 0 (by omega), h 1 (by omega), h 2 (by omega), h2 (by omega)]
  | 4, _ => simp [cnt, h 0 (by omega), h 1 (by omega), h 2 (by omega), h 3 (by omega)]
  | j + 5, h => exact absurd h (by omega)
theorem sh_lab {n k : Nat} (hn : n < 2 ^ 60) (hk : k < 4) : ((lN n >>> (((15 : Int32) * (3 - nI k)).toInt64 &&& 63)) &&& 32767).toInt32 = nI (lab n k) := by
  have key : ∀ (D : Int64) (m : Nat), (D.toBitVec.smod 64).toNat = m → ((lN n >>> D) &&& 32767).toInt32 = nI (n / 2 ^ m % 32768) := by
    intro D m hD
    rw [pf_shr hD (by omega)]
    have hlt : n / 2 ^ m < 2 ^ 64 := Nat.lt_of_le_of_lt (Nat.div_le_self _ _) (by omega)
    rw [show (32767 : Int64) = lN (2 ^ 15 - 1) from rfl, wb_mask hlt (by omega), lN_i]
  match k, hk with
  | 0, _ => exact key _ 45 (by decide)
  | 1, _ => exact key _ 30 (by decide)
  | 2, _ => exact key _ 15 (by decide)
  | 3, _ => exact key _ 0 (by decide)
  | k + 4, h => exact absurd h (by omega)
theorem ri {x y : Int32} (h : x = y) : some (Value.int x) = some (Value.int y) := by rw [h]
theorem rj {x y : Int64} (h : x = y) : some (Value.long x) = some (Value.long y) := by rw [h]
theorem nlt4 {k : Nat} (h : k < 4) : nI k < 4 := nI_lt (a := k) (b := 4) h (by omega)
/-- Names.labelAt -/
theorem c_labelAt {d n k : Nat} {w : gW} (hn : n < 2 ^ 60) (hk : k < 4) : gTM d 29 [.long (lN n), .int (nI k)] w (fun r u => u = w ∧ r = some (.int (nI (lab n k)))) := by
  refine gT_n 2 ?_
  refine ⟨fun c => absurd c (nI_pos (by omega)), fun _ => ?_⟩
  refine gT_n 3 ?_
  refine ⟨fun _ => ?_, fun c => absurd (nlt4 hk) c⟩
  refine gT_n 13 ?_
  exact ⟨rfl, ri (sh_lab hn hk)⟩
/-- Names.count -/
theorem c_count {d n : Nat} {w : gW} (hn : n < 2 ^ 60) : gTM (d + 1) 30 [.long (lN n)] w (fun r u => u = w ∧ r = some (.int (nI (cnt n)))) := by
  have loop : ∀ f j : Nat, j + f = 4 → (∀ i, i < j → lab n i ≠ 0) → gT (d + 1) 30 2 [(2, .int (nI j)), (0, .long (lN n))] [] (0, 0) w (fun r u => u = w ∧ r = some (.int (nI (cnt n)))) := by
    intro f
    induction f with
    | zero =>
      intro j hj h
      have e : j = 4 := by omega
      subst e
      refine gT_n 3 ?_
      refine ⟨fun _ => ?_, fun c => absurd (by decide) c⟩
      refine gT_n 2 ?_
      exact ⟨rfl, ri (by rw [cnt_eq (Nat.le_refl 4) h (fun h => absurd h (by omega))])⟩
    | succ f ih =>
      intro j hj h
      refine gT_n 3 ?_
      refine ⟨fun c => absurd c (nI_ge (a := j) (b := 4) (by omega) (by omega)), fun _ => ?_⟩
      refine gT_n 3 ?_
      refine ⟨rfl, gTM.use (c_labelAt hn (by omega)) (Nat.le_refl _) (fun r u hq => ?_)⟩
      obtain ⟨rfl, rfl⟩ := hq
      refine gT_n 1 ?_
      refine ⟨fun c => ?_, fun c => ?_⟩
      · refine gT_n 2 ?_
        have e : lab n j = 0 := by
          rcases Nat.eq_zero_or_pos (lab n j) with z | z
          · exact z
          · exact absurd c (nI_ne0 z (by have := lab_lt n j; omega))
        exact ⟨rfl, ri (by rw [cnt_eq (by omega) h (fun _ => e)])⟩
      · refine gT_n 2 ?_
        have e : lab n j ≠ 0 := fun z => c (by rw [z]; rfl)
        show gT (d + 1) 30 2 [(2, .int (nI j + 1)), (0, .long (lN n))] [] (0, 0) u _
        rw [nI_1]
        exact ih (j + 1) (by omega) (fun i hi => by
          rcases Nat.lt_or_ge i j with z | z
          · exact h i z
          · have : i = j := by omega
            rw [this]; exact e)
  refine gT_n 2 ?_
  exact loop 4 0 rfl (fun i hi => absurd hi (by omega))
theorem sh_fst {n k : Nat} (hn : n < 2 ^ 60) (h0 : 0 < k) (hk : k < 4) : (lN n >>> (((15 : Int32) * (4 - nI k)).toInt64 &&& 63)) <<< (((15 : Int32) * (4 - nI k)).toInt64 &&& 63) = lN (nfst n k) := by
  have key : ∀ (D : Int64) (m : Nat), m < 64 → (D.toBitVec.smod 64).toNat = m → D.toBitVec.smod 64 = BitVec.ofNat 64 m → (lN n >>> D) <<< D = lN (n / 2 ^ m * 2 ^ m) := by
    intro D m hm hD hD2
    rw [pf_shr hD (by omega), g_shl hD2 hm rfl (Nat.lt_of_le_of_lt (Nat.div_le_self _ _) (by omega))]
  match k, h0, hk with
  | 1, _, _ => exact key _ 45 (by omega) (by decide) (by decide)
  | 2, _, _ => exact key _ 30 (by omega) (by decide) (by decide)
  | 3, _, _ => exact key _ 15 (by omega) (by decide) (by decide)
  | k + 4, _, h => exact absurd h (by omega)
theorem nfst_0 {n : Nat} (hn : n < 2 ^ 60) : nfst n 0 = 0 := by
  unfold nfst
  rw [Nat.div_eq_of_lt (by simpa using hn), Nat.zero_mul]
theorem nfst_4 (n : Nat) : nfst n 4 = n := by simp [nfst]
/-- Names.first -/
theorem c_first {d n k : Nat} {w : gW} (hn : n < 2 ^ 60) (hk : k ≤ 4) : gTM d 31 [.long (lN n), .int (nI k)] w (fun r u => u = w ∧ r = some (.long (lN (nfst n k)))) := by
  refine gT_n 2 ?_
  refine ⟨fun c => ?_, fun c => ?_⟩
  · refine gT_n 3 ?_
    refine ⟨fun c2 => ?_, fun c2 => ?_⟩
    · refine gT_n 12 ?_
      have h0 : 0 < k := by
        rcases Nat.eq_zero_or_pos k with z | z
        · rw [z] at c; exact absurd c (by decide)
        · exact z
      have h4 : k < 4 := by
        rcases Nat.lt_or_ge k 4 with z | z
        · exact z
        · exact absurd c2 (nI_nlt (a := k) (b := 4) z (by omega))
      exact ⟨rfl, rfl, rj (sh_fst hn h0 h4)⟩
    · refine gT_n 2 ?_
      have h4 : k = 4 := by
        rcases Nat.lt_or_ge k 4 with z | z
        · exact absurd (nlt4 z) c2
        · omega
      exact ⟨rfl, rfl, rj (by rw [h4, nfst_4])⟩
  · refine gT_n 2 ?_
    have h0 : k = 0 := by
      rcases Nat.eq_zero_or_pos k with z | z
      · exact z
      · exact absurd (nI_lt (a := 0) (b := k) z (by omega)) c
    exact ⟨rfl, rfl, rj (by rw [h0, nfst_0 hn]; rfl)⟩
