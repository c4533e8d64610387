/-! copies of records, of a world's part to another's -/
theorem c_rcopy_60_18 {d n : Nat} {I : Nat → Nat → Int32} {J : Nat → Nat → Int64} {P : Nat → Nat} (hn : I 18 3 = nI n) (h24 : n ≤ 24) : gTM d 82 [.ref 60, .ref 18] (gST I J P) (fun r u => r = none ∧ u = gST (m2 (gupI I 60 3 (nI n)) 62 (cpr (I 20) (I 62) n) 63 (cpr (I 21) (I 63) n)) (m1 J 61 (cpr (J 19) (J 61) n)) P) := by
  have loop : ∀ i, i ≤ n → gT d 82 10 [(2, .int (nI i)), (0, .ref 60), (1, .ref 18)] [] (0, 0) (gST (m2 (gupI I 60 3 (nI n)) 62 (cpr (I 20) (I 62) i) 63 (cpr (I 21) (I 63) i)) (m1 J 61 (cpr (J 19) (J 61) i)) P) (fun r u => r = none ∧ u = gST (m2 (gupI I 60 3 (nI n)) 62 (cpr (I 20) (I 62) n) 63 (cpr (I 21) (I 63) n)) (m1 J 61 (cpr (J 19) (J 61) n)) P) := by
    refine loopU n (fun i hi ih => ?_)
    refine gT_n 4 ?_
    refine ⟨rfl, pk_le n i (fun κ1 => ?_) (fun κ1 => ?_) (rfl) (rfl) (by omega) (by omega)⟩
    · refine gT_n 1 ?_
      refine ⟨rfl, ?_⟩
      obtain rfl : i = n := by omega
      exact ⟨rfl, rfl⟩
    · refine gT_n 8 ?_
      refine ⟨rfl, rfl, rfl, (pk_in i 24 (by omega) (rfl)), rfl, (pk_in i 24 (by omega) (rfl)), ?_⟩
      refine gT_ivL (n := i) (X := (J 19 i)) (rfl) (by omega) ((rdJ (rfl) (by omega) rfl)) ?_
      refine gT_n 8 ?_
      refine ⟨rfl, rfl, rfl, (pk_in i 24 (by omega) (rfl)), rfl, (pk_in i 24 (by omega) (rfl)), ?_⟩
      refine gT_iv (n := i) (X := (I 20 i)) (rfl) (by omega) ((rdI (rfl) (by omega) rfl)) ?_
      refine gT_n 8 ?_
      refine ⟨rfl, rfl, rfl, (pk_in i 24 (by omega) (rfl)), rfl, (pk_in i 24 (by omega) (rfl)), ?_⟩
      refine gT_iv (n := i) (X := (I 21 i)) (rfl) (by omega) ((rdI (rfl) (by omega) rfl)) ?_
      refine gT_n 2 ?_
      refine gT_m (w' := gST (m2 (gupI I 60 3 (nI n)) 62 (cpr (I 20) (I 62) (i + 1)) 63 (cpr (I 21) (I 63) (i + 1))) (m1 J 61 (cpr (J 19) (J 61) (i + 1))) P) ?_ ?_
      · show (SH, gupI (gupI (m2 (gupI I 60 3 (nI n)) 62 (cpr (I 20) (I 62) i) 63 (cpr (I 21) (I 63) i)) 62 i (I 20 i)) 63 i (I 21 i), gupL (m1 J 61 (cpr (J 19) (J 61) i)) 61 i (J 19 i), gRf P) = gST _ _ P
        rw [gup_m2a, gup_m2b (by decide), gup_m1L, cpr_upd, cpr_upd, cpr_updL]; rfl
      have e := ih (i + 1) (by omega) (by omega)
      rw [← nI_1] at e
      exact e
  have e := loop 0 (by omega)
  rw [cpr_0, cpr_0, cpr_0, m1_self, show m2 (gupI I 60 3 (nI n)) 62 (I 62) 63 (I 63) = (gupI I 60 3 (nI n)) from m2_self] at e
  refine gT_n 6 ?_
  refine ⟨rfl, rfl, ?_⟩
  exact gT_m (by rw [← hn]; rfl) e
theorem c_rcopy_101_18 {d n : Nat} {I : Nat → Nat → Int32} {J : Nat → Nat → Int64} {P : Nat → Nat} (hn : I 18 3 = nI n) (h24 : n ≤ 24) : gTM d 82 [.ref 101, .ref 18] (gST I J P) (fun r u => r = none ∧ u = gST (m2 (gupI I 101 3 (nI n)) 103 (cpr (I 20) (I 103) n) 104 (cpr (I 21) (I 104) n)) (m1 J 102 (cpr (J 19) (J 102) n)) P) := by
  have loop : ∀ i, i ≤ n → gT d 82 10 [(2, .int (nI i)), (0, .ref 101), (1, .ref 18)] [] (0, 0) (gST (m2 (gupI I 101 3 (nI n)) 103 (cpr (I 20) (I 103) i) 104 (cpr (I 21) (I 104) i)) (m1 J 102 (cpr (J 19) (J 102) i)) P) (fun r u => r = none ∧ u = gST (m2 (gupI I 101 3 (nI n)) 103 (cpr (I 20) (I 103) n) 104 (cpr (I 21) (I 104) n)) (m1 J 102 (cpr (J 19) (J 102) n)) P) := by
    refine loopU n (fun i hi ih => ?_)
    refine gT_n 4 ?_
    refine ⟨rfl, pk_le n i (fun κ1 => ?_) (fun κ1 => ?_) (rfl) (rfl) (by omega) (by omega)⟩
    · refine gT_n 1 ?_
      refine ⟨rfl, ?_⟩
      obtain rfl : i = n := by omega
      exact ⟨rfl, rfl⟩
    · refine gT_n 8 ?_
      refine ⟨rfl, rfl, rfl, (pk_in i 24 (by omega) (rfl)), rfl, (pk_in i 24 (by omega) (rfl)), ?_⟩
      refine gT_ivL (n := i) (X := (J 19 i)) (rfl) (by omega) ((rdJ (rfl) (by omega) rfl)) ?_
      refine gT_n 8 ?_
      refine ⟨rfl, rfl, rfl, (pk_in i 24 (by omega) (rfl)), rfl, (pk_in i 24 (by omega) (rfl)), ?_⟩
      refine gT_iv (n := i) (X := (I 20 i)) (rfl) (by omega) ((rdI (rfl) (by omega) rfl)) ?_
      refine gT_n 8 ?_
      refine ⟨rfl, rfl, rfl, (pk_in i 24 (by omega) (rfl)), rfl, (pk_in i 24 (by omega) (rfl)), ?_⟩
      refine gT_iv (n := i) (X := (I 21 i)) (rfl) (by omega) ((rdI (rfl) (by omega) rfl)) ?_
      refine gT_n 2 ?_
      refine gT_m (w' := gST (m2 (gupI I 101 3 (nI n)) 103 (cpr (I 20) (I 103) (i + 1)) 104 (cpr (I 21) (I 104) (i + 1))) (m1 J 102 (cpr (J 19) (J 102) (i + 1))) P) ?_ ?_
      · show (SH, gupI (gupI (m2 (gupI I 101 3 (nI n)) 103 (cpr (I 20) (I 103) i) 104 (cpr (I 21) (I 104) i)) 103 i (I 20 i)) 104 i (I 21 i), gupL (m1 J 102 (cpr (J 19) (J 102) i)) 102 i (J 19 i), gRf P) = gST _ _ P
        rw [gup_m2a, gup_m2b (by decide), gup_m1L, cpr_upd, cpr_upd, cpr_updL]; rfl
      have e := ih (i + 1) (by omega) (by omega)
      rw [← nI_1] at e
      exact e
  have e := loop 0 (by omega)
  rw [cpr_0, cpr_0, cpr_0, m1_self, show m2 (gupI I 101 3 (nI n)) 103 (I 103) 104 (I 104) = (gupI I 101 3 (nI n)) from m2_self] at e
  refine gT_n 6 ?_
  refine ⟨rfl, rfl, ?_⟩
  exact gT_m (by rw [← hn]; rfl) e
theorem c_rcopy_18_60 {d n : Nat} {I : Nat → Nat → Int32} {J : Nat → Nat → Int64} {P : Nat → Nat} (hn : I 60 3 = nI n) (h24 : n ≤ 24) : gTM d 82 [.ref 18, .ref 60] (gST I J P) (fun r u => r = none ∧ u = gST (m2 (gupI I 18 3 (nI n)) 20 (cpr (I 62) (I 20) n) 21 (cpr (I 63) (I 21) n)) (m1 J 19 (cpr (J 61) (J 19) n)) P) := by
  have loop : ∀ i, i ≤ n → gT d 82 10 [(2, .int (nI i)), (0, .ref 18), (1, .ref 60)] [] (0, 0) (gST (m2 (gupI I 18 3 (nI n)) 20 (cpr (I 62) (I 20) i) 21 (cpr (I 63) (I 21) i)) (m1 J 19 (cpr (J 61) (J 19) i)) P) (fun r u => r = none ∧ u = gST (m2 (gupI I 18 3 (nI n)) 20 (cpr (I 62) (I 20) n) 21 (cpr (I 63) (I 21) n)) (m1 J 19 (cpr (J 61) (J 19) n)) P) := by
    refine loopU n (fun i hi ih => ?_)
    refine gT_n 4 ?_
    refine ⟨rfl, pk_le n i (fun κ1 => ?_) (fun κ1 => ?_) (rfl) (rfl) (by omega) (by omega)⟩
    · refine gT_n 1 ?_
      refine ⟨rfl, ?_⟩
      obtain rfl : i = n := by omega
      exact ⟨rfl, rfl⟩
    · refine gT_n 8 ?_
      refine ⟨rfl, rfl, rfl, (pk_in i 24 (by omega) (rfl)), rfl, (pk_in i 24 (by omega) (rfl)), ?_⟩
      refine gT_ivL (n := i) (X := (J 61 i)) (rfl) (by omega) ((rdJ (rfl) (by omega) rfl)) ?_
      refine gT_n 8 ?_
      refine ⟨rfl, rfl, rfl, (pk_in i 24 (by omega) (rfl)), rfl, (pk_in i 24 (by omega) (rfl)), ?_⟩
      refine gT_iv (n := i) (X := (I 62 i)) (rfl) (by omega) ((rdI (rfl) (by omega) rfl)) ?_
      refine gT_n 8 ?_
      refine ⟨rfl, rfl, rfl, (pk_in i 24 (by omega) (rfl)), rfl, (pk_in i 24 (by omega) (rfl)), ?_⟩
      refine gT_iv (n := i) (X := (I 63 i)) (rfl) (by omega) ((rdI (rfl) (by omega) rfl)) ?_
      refine gT_n 2 ?_
      refine gT_m (w' := gST (m2 (gupI I 18 3 (nI n)) 20 (cpr (I 62) (I 20) (i + 1)) 21 (cpr (I 63) (I 21) (i + 1))) (m1 J 19 (cpr (J 61) (J 19) (i + 1))) P) ?_ ?_
      · show (SH, gupI (gupI (m2 (gupI I 18 3 (nI n)) 20 (cpr (I 62) (I 20) i) 21 (cpr (I 63) (I 21) i)) 20 i (I 62 i)) 21 i (I 63 i), gupL (m1 J 19 (cpr (J 61) (J 19) i)) 19 i (J 61 i), gRf P) = gST _ _ P
        rw [gup_m2a, gup_m2b (by decide), gup_m1L, cpr_upd, cpr_upd, cpr_updL]; rfl
      have e := ih (i + 1) (by omega) (by omega)
      rw [← nI_1] at e
      exact e
  have e := loop 0 (by omega)
  rw [cpr_0, cpr_0, cpr_0, m1_self, show m2 (gupI I 18 3 (nI n)) 20 (I 20) 21 (I 21) = (gupI I 18 3 (nI n)) from m2_self] at e
  refine gT_n 6 ?_
  refine ⟨rfl, rfl, ?_⟩
  exact gT_m (by rw [← hn]; rfl) e
theorem c_rcopy_18_101 {d n : Nat} {I : Nat → Nat → Int32} {J : Nat → Nat → Int64} {P : Nat → Nat} (hn : I 101 3 = nI n) (h24 : n ≤ 24) : gTM d 82 [.ref 18, .ref 101] (gST I J P) (fun r u => r = none ∧ u = gST (m2 (gupI I 18 3 (nI n)) 20 (cpr (I 103) (I 20) n) 21 (cpr (I 104) (I 21) n)) (m1 J 19 (cpr (J 102) (J 19) n)) P) := by
  have loop : ∀ i, i ≤ n → gT d 82 10 [(2, .int (nI i)), (0, .ref 18), (1, .ref 101)] [] (0, 0) (gST (m2 (gupI I 18 3 (nI n)) 20 (cpr (I 103) (I 20) i) 21 (cpr (I 104) (I 21) i)) (m1 J 19 (cpr (J 102) (J 19) i)) P) (fun r u => r = none ∧ u = gST (m2 (gupI I 18 3 (nI n)) 20 (cpr (I 103) (I 20) n) 21 (cpr (I 104) (I 21) n)) (m1 J 19 (cpr (J 102) (J 19) n)) P) := by
    refine loopU n (fun i hi ih => ?_)
    refine gT_n 4 ?_
    refine ⟨rfl, pk_le n i (fun κ1 => ?_) (fun κ1 => ?_) (rfl) (rfl) (by omega) (by omega)⟩
    · refine gT_n 1 ?_
      refine ⟨rfl, ?_⟩
      obtain rfl : i = n := by omega
      exact ⟨rfl, rfl⟩
    · refine gT_n 8 ?_
      refine ⟨rfl, rfl, rfl, (pk_in i 24 (by omega) (rfl)), rfl, (pk_in i 24 (by omega) (rfl)), ?_⟩
      refine gT_ivL (n := i) (X := (J 102 i)) (rfl) (by omega) ((rdJ (rfl) (by omega) rfl)) ?_
      refine gT_n 8 ?_
      refine ⟨rfl, rfl, rfl, (pk_in i 24 (by omega) (rfl)), rfl, (pk_in i 24 (by omega) (rfl)), ?_⟩
      refine gT_iv (n := i) (X := (I 103 i)) (rfl) (by omega) ((rdI (rfl) (by omega) rfl)) ?_
      refine gT_n 8 ?_
      refine ⟨rfl, rfl, rfl, (pk_in i 24 (by omega) (rfl)), rfl, (pk_in i 24 (by omega) (rfl)), ?_⟩
      refine gT_iv (n := i) (X := (I 104 i)) (rfl) (by omega) ((rdI (rfl) (by omega) rfl)) ?_
      refine gT_n 2 ?_
      refine gT_m (w' := gST (m2 (gupI I 18 3 (nI n)) 20 (cpr (I 103) (I 20) (i + 1)) 21 (cpr (I 104) (I 21) (i + 1))) (m1 J 19 (cpr (J 102) (J 19) (i + 1))) P) ?_ ?_
      · show (SH, gupI (gupI (m2 (gupI I 18 3 (nI n)) 20 (cpr (I 103) (I 20) i) 21 (cpr (I 104) (I 21) i)) 20 i (I 103 i)) 21 i (I 104 i), gupL (m1 J 19 (cpr (J 102) (J 19) i)) 19 i (J 102 i), gRf P) = gST _ _ P
        rw [gup_m2a, gup_m2b (by decide), gup_m1L, cpr_upd, cpr_upd, cpr_updL]; rfl
      have e := ih (i + 1) (by omega) (by omega)
      rw [← nI_1] at e
      exact e
  have e := loop 0 (by omega)
  rw [cpr_0, cpr_0, cpr_0, m1_self, show m2 (gupI I 18 3 (nI n)) 20 (I 20) 21 (I 21) = (gupI I 18 3 (nI n)) from m2_self] at e
  refine gT_n 6 ?_
  refine ⟨rfl, rfl, ?_⟩
  exact gT_m (by rw [← hn]; rfl) e
