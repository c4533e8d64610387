/-! contents and marks -/
def remI (x : Int32) : Int32 := x - x / 9973 * 9973
def mixI (s n : Int32) : Int32 := remI (s * 31 + n)
def mxl (s : Int32) (x : Nat) : Nat → Int32
  | 0 => s
  | k + 1 => if ltr x k = 0 then mxl s x k else mixI (mxl s x k) (nI (ltr x k))
def mxn (s : Int32) (n : Nat) : Nat → Int32
  | 0 => mixI s (nI (cnt n))
  | i + 1 => mixI (mxl (mxn s n i) (lab n i) 3) 0
def mxN (s : Int32) (n : Nat) : Int32 := mxn s n (cnt n)
theorem ltr_lt {x k : Nat} (hx : x < 32768) (hk : k < 3) : ltr x k < 2 ^ 31 := by
  unfold ltr
  split
  · split <;> decide
  · split
    · omega
    · split <;> omega
theorem ltr_z {x k : Nat} (hx : vl x) (h0 : ¬ x = 0) (hk : k < 3) (h : ltr x k = 0) : ∀ j, k ≤ j → j < 3 → ltr x j = 0 := by
  intro j h1 h2
  rcases hx with hx | ⟨a, b, c, a1, a2, b2, c2, hbc, rfl⟩
  · have : x = 1 := by omega
    subst this
    by_cases g : k = 0
    · subst g; exact absurd h (by decide)
    · show (if j = 0 then 27 else 0) = 0
      rw [if_neg (by omega)]
  · have hx1 : ¬ 1024 * a + 32 * b + c = 1 := by omega
    unfold ltr at h ⊢
    rw [if_neg hx1] at h ⊢
    have d0 : (1024 * a + 32 * b + c) / 1024 = a := by omega
    have d1 : (1024 * a + 32 * b + c) / 32 % 32 = b := by omega
    have d2 : (1024 * a + 32 * b + c) % 32 = c := by omega
    rw [d0, d1, d2] at h ⊢
    have hk3 : k = 0 ∨ k = 1 ∨ k = 2 := by omega
    rcases hk3 with rfl | rfl | rfl
    · exact absurd h (by show ¬ a = 0; omega)
    · have hb : b = 0 := h
      have hj : j = 1 ∨ j = 2 := by omega
      rcases hj with rfl | rfl
      · exact hb
      · exact hbc hb
    · have hj : j = 2 := by omega
      subst hj; exact h
theorem mxl_z {s : Int32} {x k : Nat} (h : ∀ j, k ≤ j → j < 3 → ltr x j = 0) (hk : k ≤ 3) : mxl s x 3 = mxl s x k := by
  have st : ∀ j, ltr x j = 0 → mxl s x (j + 1) = mxl s x j := fun j e => if_pos e
  have : k = 0 ∨ k = 1 ∨ k = 2 ∨ k = 3 := by omega
  rcases this with rfl | rfl | rfl | rfl
  · rw [st 2 (h 2 (by omega) (by omega)), st 1 (h 1 (by omega) (by omega)), st 0 (h 0 (by omega) (by omega))]
  · rw [st 2 (h 2 (by omega) (by omega)), st 1 (h 1 (by omega) (by omega))]
  · rw [st 2 (h 2 (by omega) (by omega))]
  · rfl
theorem c_mix {d : Nat} {s n : Int32} {w : gW} : gTM d 13 [.int s, .int n] w (fun r u => u = w ∧ r = some (.int (mixI s n))) := by
  refine gT_n 8 ?_
  refine ⟨(by decide), ?_⟩
  exact ⟨rfl, rfl⟩
theorem m_mix {d : Nat} {s n : Int32} {w : gW} : gTM d 216 [.int s, .int n] w (fun r u => u = w ∧ r = some (.int (mixI s n))) := by
  refine gT_n 8 ?_
  refine ⟨(by decide), ?_⟩
  exact ⟨rfl, rfl⟩
theorem lab_ne0 {n i : Nat} (hn : vn n) (h : i < cnt n) : ¬ lab n i = 0 := fun e => by
  have h4 := cnt_le n
  have := (lab_cnt hn.1 (show i < 4 by omega)).mp e
  omega
theorem c_mixName {d n : Nat} {s : Int32} {I : Nat → Nat → Int32} {J : Nat → Nat → Int64} {P : Nat → Nat} (hn : vn n) : gTM (d + 2) 14 [.int s, .long (lN n)] (gST I J P) (fun r u => u = gST I J P ∧ r = some (.int (mxN s n))) := by
  have h4 := cnt_le n
  have loop : ∀ i, i ≤ cnt n → gT (d + 2) 14 15 [(5, .int (nI i)), (4, .int (mxn s n i)), (3, .int (nI ((cnt n)))), (1, .long (lN n))] [] (0, 0) (gST I J P) (fun r u => u = gST I J P ∧ r = some (.int (mxN s n))) := by
    refine loopU (cnt n) (fun i hi ih => ?_)
    refine gT_n 3 ?_
    refine pk_le ((cnt n)) i (fun κ1 => ?_) (fun κ1 => ?_) (rfl) (rfl) (by omega) (by omega)
    · refine gT_n 2 ?_
      obtain rfl : i = cnt n := by omega
      exact ⟨rfl, rfl⟩
    · refine gT_n 3 ?_
      refine ⟨rfl, gTM.use (c_labelAt hn.lt (by omega)) (Nat.le_refl _) (fun r u hq => ?_)⟩
      obtain ⟨rfl, rfl⟩ := hq  -- X3_labelAt[lN n, nI i]
      refine gT_n 3 ?_
      have hl0 : ¬ lab n i = 0 := lab_ne0 hn (by omega)
      have after : gT (d + 2) 14 68 [(4, .int (mxl (mxn s n i) (lab n i) 3)), (5, .int (nI i)), (3, .int (nI ((cnt n)))), (1, .long (lN n))] [] (0, 0) (gST I J P) (fun r u => u = gST I J P ∧ r = some (.int (mxN s n))) := by
        refine gT_n 3 ?_
        refine ⟨rfl, gTM.use (c_mix) (Nat.le_refl _) (fun r u hq => ?_)⟩
        obtain ⟨rfl, rfl⟩ := hq  -- X1_mix[(mxl (mxn s n i) (lab n i) 3), K0]
        refine gT_n 3 ?_
        have e := ih (i + 1) (by omega) (by omega)
        rw [← nI_1] at e
        exact gT_k e ⟨rfl, rfl, rfl, rfl, trivial⟩ rfl
      have inner : ∀ k, k ≤ 3 → gT (d + 2) 14 32 [(7, .int (nI k)), (6, .int (nI ((lab n i)))), (5, .int (nI i)), (4, .int (mxl (mxn s n i) (lab n i) k)), (3, .int (nI ((cnt n)))), (1, .long (lN n))] [] (0, 0) (gST I J P) (fun r u => u = gST I J P ∧ r = some (.int (mxN s n))) := by
        refine loopU 3 (fun k hk3 ih2 => ?_)
        refine gT_n 3 ?_
        refine pk_le 3 k (fun κ1 => ?_) (fun κ1 => ?_) (rfl) (rfl) (by omega) (by omega)
        · obtain rfl : k = 3 := by omega
          exact gT_k after ⟨rfl, rfl, rfl, rfl, trivial⟩ rfl
        · refine gT_n 3 ?_
          refine ⟨rfl, gTM.use (c_letterAt (lab_lt _ _) (by omega)) (Nat.le_refl _) (fun r u hq => ?_)⟩
          obtain ⟨rfl, rfl⟩ := hq  -- X3_letterAt[nI ((lab n i)), nI k]
          refine gT_n 1 ?_
          refine pk_eq ((ltr (lab n i) k)) 0 (fun κ2 => ?_) (fun κ2 => ?_) (rfl) (rfl) (ltr_lt (lab_lt _ _) (by omega)) (by omega)
          · exact gT_k after ⟨viI (mxl_z (ltr_z (vn_labk hn (by omega)) hl0 (by omega) κ2) (by omega)).symm, rfl, rfl, rfl, trivial⟩ rfl
          · refine gT_n 4 ?_
            refine ⟨rfl, gTM.use (c_letterAt (lab_lt _ _) (by omega)) (Nat.le_refl _) (fun r u hq => ?_)⟩
            obtain ⟨rfl, rfl⟩ := hq  -- X3_letterAt[nI ((lab n i)), nI k]
            refine gT_n 1 ?_
            refine ⟨rfl, gTM.use (c_mix) (Nat.le_refl _) (fun r u hq => ?_)⟩
            obtain ⟨rfl, rfl⟩ := hq  -- X1_mix[(mxl (mxn s n i) (lab n i) k), nI ((ltr (lab n i) k))]
            refine gT_n 3 ?_
            have e := ih2 (k + 1) (by omega) (by omega)
            rw [show mxl (mxn s n i) (lab n i) (k + 1) = mixI (mxl (mxn s n i) (lab n i) k) (nI (ltr (lab n i) k)) from if_neg κ2, ← nI_1] at e
            exact gT_k e ⟨rfl, rfl, rfl, rfl, rfl, rfl, trivial⟩ rfl
      exact gT_k (inner 0 (by omega)) ⟨rfl, rfl, rfl, rfl, rfl, rfl, trivial⟩ rfl
  refine gT_n 2 ?_
  refine ⟨rfl, gTM.use (c_count hn.lt) (Nat.le_refl _) (fun r u hq => ?_)⟩
  obtain ⟨rfl, rfl⟩ := hq  -- X3_count[lN n]
  refine gT_n 4 ?_
  refine ⟨rfl, gTM.use (c_mix) (Nat.le_refl _) (fun r u hq => ?_)⟩
  obtain ⟨rfl, rfl⟩ := hq  -- X1_mix[s, nI ((cnt n))]
  refine gT_n 3 ?_
  exact gT_k (loop 0 (by omega)) ⟨rfl, rfl, rfl, rfl, trivial⟩ rfl
theorem m_mixName {d n : Nat} {s : Int32} {I : Nat → Nat → Int32} {J : Nat → Nat → Int64} {P : Nat → Nat} (hn : vn n) : gTM (d + 3) 217 [.int s, .long (lN (mo n))] (gST I J P) (fun r u => u = gST I J P ∧ r = some (.int (mxN s n))) := by
  have h4 := cnt_le n
  have loop : ∀ i, i ≤ cnt n → gT (d + 3) 217 12 [(4, .int (nI i)), (3, .int (mxn s n i)), (1, .long (lN (mo n)))] [] (0, 0) (gST I J P) (fun r u => u = gST I J P ∧ r = some (.int (mxN s n))) := by
    refine loopU (cnt n) (fun i hi ih => ?_)
    refine gT_n 3 ?_
    refine ⟨rfl, gTM.use (n_labelsOf (n := n)) (Nat.le_refl _) (fun r u hq => ?_)⟩
    obtain ⟨rfl, rfl⟩ := hq  -- X12_labelsOf[lN n]
    refine gT_n 1 ?_
    refine pk_le ((cnt n)) i (fun κ1 => ?_) (fun κ1 => ?_) (rfl) (rfl) (by omega) (by omega)
    · refine gT_n 2 ?_
      obtain rfl : i = cnt n := by omega
      exact ⟨rfl, rfl⟩
    · refine gT_n 2 ?_
      have after : gT (d + 3) 217 65 [(3, .int (mxl (mxn s n i) (lab n i) 3)), (4, .int (nI i)), (1, .long (lN (mo n)))] [] (0, 0) (gST I J P) (fun r u => u = gST I J P ∧ r = some (.int (mxN s n))) := by
        refine gT_n 3 ?_
        refine ⟨rfl, gTM.use (m_mix) (Nat.le_refl _) (fun r u hq => ?_)⟩
        obtain ⟨rfl, rfl⟩ := hq  -- X12_mixed[(mxl (mxn s n i) (lab n i) 3), K0]
        refine gT_n 3 ?_
        have e := ih (i + 1) (by omega) (by omega)
        rw [← nI_1] at e
        exact gT_k e ⟨rfl, rfl, rfl, trivial⟩ rfl
      have inner : ∀ k, k ≤ 3 → gT (d + 3) 217 24 [(5, .int (nI k)), (4, .int (nI i)), (3, .int (mxl (mxn s n i) (lab n i) k)), (1, .long (lN (mo n)))] [] (0, 0) (gST I J P) (fun r u => u = gST I J P ∧ r = some (.int (mxN s n))) := by
        refine loopU 3 (fun k hk3 ih2 => ?_)
        refine gT_n 3 ?_
        refine pk_le 3 k (fun κ1 => ?_) (fun κ1 => ?_) (rfl) (rfl) (by omega) (by omega)
        · obtain rfl : k = 3 := by omega
          exact gT_k after ⟨rfl, rfl, rfl, trivial⟩ rfl
        · refine gT_n 3 ?_
          refine ⟨rfl, gTM.use (n_labelOf (by omega)) (Nat.le_refl _) (fun r u hq => ?_)⟩
          obtain ⟨rfl, rfl⟩ := hq  -- X12_labelOf[lN n, nI i]
          refine gT_n 2 ?_
          refine ⟨rfl, gTM.use (m_letterOf (vn_labk hn (by omega)) (by omega)) (Nat.le_refl _) (fun r u hq => ?_)⟩
          obtain ⟨rfl, rfl⟩ := hq  -- X12_letterOf[nI ((ml (lab n i))), nI k]
          refine gT_n 3 ?_
          refine pk_le ((ltr (lab n i) k)) 0 (fun κ2 => ?_) (fun κ2 => ?_) (rfl) (rfl) (ltr_lt (lab_lt _ _) (by omega)) (by omega)
          · refine gT_n 4 ?_
            have e := ih2 (k + 1) (by omega) (by omega)
            rw [show mxl (mxn s n i) (lab n i) (k + 1) = mxl (mxn s n i) (lab n i) k from if_pos (by omega), ← nI_1] at e
            exact gT_k e ⟨rfl, rfl, rfl, rfl, trivial⟩ rfl
          · refine gT_n 3 ?_
            refine ⟨rfl, gTM.use (m_mix) (Nat.le_refl _) (fun r u hq => ?_)⟩
            obtain ⟨rfl, rfl⟩ := hq  -- X12_mixed[(mxl (mxn s n i) (lab n i) k), nI ((ltr (lab n i) k))]
            refine gT_n 4 ?_
            have e := ih2 (k + 1) (by omega) (by omega)
            rw [show mxl (mxn s n i) (lab n i) (k + 1) = mixI (mxl (mxn s n i) (lab n i) k) (nI (ltr (lab n i) k)) from if_neg (by omega), ← nI_1] at e
            exact gT_k e ⟨rfl, rfl, rfl, rfl, trivial⟩ rfl
      exact gT_k (inner 0 (by omega)) ⟨rfl, rfl, rfl, rfl, trivial⟩ rfl
  refine gT_n 3 ?_
  refine ⟨rfl, gTM.use (n_labelsOf (n := n)) (Nat.le_refl _) (fun r u hq => ?_)⟩
  obtain ⟨rfl, rfl⟩ := hq  -- X12_labelsOf[lN n]
  refine gT_n 1 ?_
  refine ⟨rfl, gTM.use (m_mix) (Nat.le_refl _) (fun r u hq => ?_)⟩
  obtain ⟨rfl, rfl⟩ := hq  -- X12_mixed[s, nI ((cnt n))]
  refine gT_n 3 ?_
  exact gT_k (loop 0 (by omega)) ⟨rfl, rfl, rfl, trivial⟩ rfl
