/-! caches copied -/
def kc (B I : Nat → Nat → Int32) (a c i : Nat) : Nat → Nat → Int32 := fun o => cond (Nat.ble (a + 5) o && Nat.ble o (a + 8)) (if o < a + 5 + i then va_cpy (I (o - a + c)) (I o) 0 0 3 else I o) (B o)
theorem kc_in {B I : Nat → Nat → Int32} {a c i o : Nat} (h : a + 5 ≤ o ∧ o ≤ a + 8) : kc B I a c i o = if o < a + 5 + i then va_cpy (I (o - a + c)) (I o) 0 0 3 else I o := by
  unfold kc
  rw [Nat.ble_eq_true_of_le h.1, Nat.ble_eq_true_of_le h.2]; rfl
theorem ble_f {a b : Nat} (h : ¬ a ≤ b) : Nat.ble a b = false := by
  cases e : Nat.ble a b
  · rfl
  · exact absurd (Nat.le_of_ble_eq_true e) h
theorem kc_out {B I : Nat → Nat → Int32} {a c i o : Nat} (h : ¬ (a + 5 ≤ o ∧ o ≤ a + 8)) : kc B I a c i o = B o := by
  unfold kc
  by_cases g : a + 5 ≤ o
  · rw [Nat.ble_eq_true_of_le g, ble_f (fun q => h ⟨g, q⟩)]; rfl
  · rw [ble_f g]; rfl
theorem gup_kc {B I : Nat → Nat → Int32} {a c i b k : Nat} {x : Int32} (h : ¬ (a + 5 ≤ b ∧ b ≤ a + 8)) : gupI (kc B I a c i) b k x = kc (gupI B b k x) I a c i := by
  funext o
  show (if o = b then upd (kc B I a c i b) k x else kc B I a c i o) = _
  by_cases e : o = b
  · subst e
    rw [if_pos rfl, kc_out h, kc_out h]
    exact (if_pos rfl).symm
  · rw [if_neg e]
    by_cases g : a + 5 ≤ o ∧ o ≤ a + 8
    · rw [kc_in g, kc_in g]
    · rw [kc_out g, kc_out g]
      exact (if_neg e).symm
theorem kc_0 {B I : Nat → Nat → Int32} {a c : Nat} (h : ∀ o, a + 5 ≤ o → o ≤ a + 8 → B o = I o) : kc B I a c 0 = B := by
  funext o
  by_cases g : a + 5 ≤ o ∧ o ≤ a + 8
  · rw [kc_in g, if_neg (by omega), h o g.1 g.2]
  · rw [kc_out g]
theorem kc_s {B I : Nat → Nat → Int32} {a c i : Nat} (hi : i < 4) (hc : c + 8 < a + 5 ∨ a + 8 < c + 5) (hB : B (c + 5 + i) = I (c + 5 + i)) : va_up (kc B I a c i) (a + 5 + i) (va_cpy (kc B I a c i (c + 5 + i)) (kc B I a c i (a + 5 + i)) 0 0 3) = kc B I a c (i + 1) := by
  rw [kc_out (o := c + 5 + i) (by omega), hB, kc_in (o := a + 5 + i) (by omega), if_neg (by omega)]
  funext o
  show (if o = a + 5 + i then va_cpy (I (c + 5 + i)) (I (a + 5 + i)) 0 0 3 else kc B I a c i o) = _
  by_cases e : o = a + 5 + i
  · subst e
    rw [if_pos rfl, kc_in (by omega), if_pos (by omega), show a + 5 + i - a + c = c + 5 + i by omega]
  · rw [if_neg e]
    by_cases g : a + 5 ≤ o ∧ o ≤ a + 8
    · rw [kc_in g, kc_in g]
      by_cases q : o < a + 5 + i
      · rw [if_pos q, if_pos (by omega)]
      · rw [if_neg q, if_neg (by omega)]
    · rw [kc_out g, kc_out g]
theorem rc_67_25 {i : Nat} {I : Nat → Nat → Int32} {J : Nat → Nat → Int64} {P : Nat → Nat} (hi : i < 4) : gar (gST I J P) (30 + i) = some 0 ∧ gar (gST I J P) (72 + i) = some 0 ∧ gRf P 29 i = some (30 + i) ∧ gRf P 71 i = some (72 + i) ∧ (0 : Int32).toNatClampNeg + (3 : Int32).toNatClampNeg ≤ gln (gST I J P) (30 + i) ∧ (0 : Int32).toNatClampNeg + (3 : Int32).toNatClampNeg ≤ gln (gST I J P) (72 + i) := by
  have : i = 0 ∨ i = 1 ∨ i = 2 ∨ i = 3 := by omega
  rcases this with rfl | rfl | rfl | rfl <;> exact ⟨rfl, rfl, rfl, rfl, by show 0 + 3 ≤ 3; decide, by show 0 + 3 ≤ 3; decide⟩
theorem c_ccopy_67_25 {d n : Nat} {I : Nat → Nat → Int32} {J : Nat → Nat → Int64} {P : Nat → Nat} (hn : I 25 4 = nI n) (h4 : n ≤ 4) : gTM d 9 [.ref 67, .ref 25] (gST I J P) (fun r u => r = none ∧ u = gST (kc (m2 (gupI I 67 4 (nI n)) 68 (cpr (I 26) (I 68) n) 69 (cpr (I 27) (I 69) n)) I 67 25 n) (m1 J 70 (cpr (J 28) (J 70) n)) P) := by
  have loop : ∀ i, i ≤ n → gT d 9 10 [(2, .int (nI i)), (0, .ref 67), (1, .ref 25)] [] (0, 0) (gST (kc (m2 (gupI I 67 4 (nI n)) 68 (cpr (I 26) (I 68) i) 69 (cpr (I 27) (I 69) i)) I 67 25 i) (m1 J 70 (cpr (J 28) (J 70) i)) P) (fun r u => r = none ∧ u = gST (kc (m2 (gupI I 67 4 (nI n)) 68 (cpr (I 26) (I 68) n) 69 (cpr (I 27) (I 69) n)) I 67 25 n) (m1 J 70 (cpr (J 28) (J 70) n)) P) := by
    refine loopU n (fun i hi ih => ?_)
    have hB : i < n → ∀ k, (m2 (gupI I 67 4 (nI n)) 68 (cpr (I 26) (I 68) k) 69 (cpr (I 27) (I 69) k)) (25 + 5 + i) = I (25 + 5 + i) := fun hin k => by
      have : i = 0 ∨ i = 1 ∨ i = 2 ∨ i = 3 := by omega
      rcases this with rfl | rfl | rfl | rfl <;> rfl
    refine gT_n 4 ?_
    refine ⟨rfl, pk_le n i (fun κ1 => ?_) (fun κ1 => ?_) (rfl) (rfl) (by omega) (by omega)⟩
    · refine gT_n 1 ?_
      refine ⟨rfl, ?_⟩
      obtain rfl : i = n := by omega
      exact ⟨rfl, rfl⟩
    · refine gT_n 8 ?_
      refine ⟨rfl, rfl, rfl, (pk_in i 4 (by omega) (rfl)), rfl, (pk_in i 4 (by omega) (rfl)), ?_⟩
      refine gT_iv (n := i) (X := (I 26 i)) (rfl) (by omega) ((rdI (rfl) (by omega) rfl)) ?_
      refine gT_n 8 ?_
      refine ⟨rfl, rfl, rfl, (pk_in i 4 (by omega) (rfl)), rfl, (pk_in i 4 (by omega) (rfl)), ?_⟩
      refine gT_iv (n := i) (X := (I 27 i)) (rfl) (by omega) ((rdI (rfl) (by omega) rfl)) ?_
      refine gT_n 8 ?_
      refine ⟨rfl, rfl, rfl, (pk_in i 4 (by omega) (rfl)), rfl, (pk_in i 4 (by omega) (rfl)), ?_⟩
      refine gT_ivL (n := i) (X := (J 28 i)) (rfl) (by omega) ((rdJ (rfl) (by omega) rfl)) ?_
      refine gT_n 4 ?_
      refine ⟨rfl, rfl, (pk_in i 4 (by omega) (rfl)), ?_⟩
      refine gT_top (aa_ref (b := 30 + i) (rfl) (by omega) (rc_67_25 (I := I) (J := J) (P := P) (by omega)).2.2.1) ?_
      refine gT_n 5 ?_
      refine ⟨rfl, rfl, (pk_in i 4 (by omega) (rfl)), ?_⟩
      refine gT_top (aa_ref (b := 72 + i) (rfl) (by omega) (rc_67_25 (I := I) (J := J) (P := P) (by omega)).2.2.2.1) ?_
      refine gT_n 3 ?_
      refine ⟨rfl, (rc_67_25 (I := I) (J := J) (P := P) (by omega)).1, (rc_67_25 (I := I) (J := J) (P := P) (by omega)).2.1, ⟨by decide, by decide, by decide, (rc_67_25 (I := I) (J := J) (P := P) (by omega)).2.2.2.2.1, (rc_67_25 (I := I) (J := J) (P := P) (by omega)).2.2.2.2.2⟩, ?_⟩
      refine gT_m (w' := gST (kc (m2 (gupI I 67 4 (nI n)) 68 (cpr (I 26) (I 68) (i + 1)) 69 (cpr (I 27) (I 69) (i + 1))) I 67 25 (i + 1)) (m1 J 70 (cpr (J 28) (J 70) (i + 1))) P) ?_ ?_
      · show (SH, va_up (gupI (gupI (kc (m2 (gupI I 67 4 (nI n)) 68 (cpr (I 26) (I 68) i) 69 (cpr (I 27) (I 69) i)) I 67 25 i) 68 i (I 26 i)) 69 i (I 27 i)) (72 + i) (va_cpy ((gupI (gupI (kc (m2 (gupI I 67 4 (nI n)) 68 (cpr (I 26) (I 68) i) 69 (cpr (I 27) (I 69) i)) I 67 25 i) 68 i (I 26 i)) 69 i (I 27 i)) (30 + i)) ((gupI (gupI (kc (m2 (gupI I 67 4 (nI n)) 68 (cpr (I 26) (I 68) i) 69 (cpr (I 27) (I 69) i)) I 67 25 i) 68 i (I 26 i)) 69 i (I 27 i)) (72 + i)) 0 0 3), gupL (m1 J 70 (cpr (J 28) (J 70) i)) 70 i (J 28 i), gRf P) = gST _ _ P
        rw [gup_kc (by omega), gup_kc (by omega), gup_m2a, gup_m2b (by decide), gup_m1L, cpr_upd, cpr_upd, cpr_updL, show 72 + i = 67 + 5 + i from rfl, show 30 + i = 25 + 5 + i from rfl, kc_s (by omega) (by omega) (hB (by omega) (i + 1))]; rfl
      refine gT_n 2 ?_
      have e := ih (i + 1) (by omega) (by omega)
      rw [← nI_1] at e
      exact e
  have e := loop 0 (by omega)
  rw [cpr_0, cpr_0, cpr_0, m1_self, show m2 (gupI I 67 4 (nI n)) 68 (I 68) 69 (I 69) = (gupI I 67 4 (nI n)) from m2_self, kc_0 (fun o h1 h2 => gupI_n (by omega))] at e
  refine gT_n 6 ?_
  refine ⟨rfl, rfl, ?_⟩
  exact gT_m (by rw [← hn]; rfl) e
theorem rc_108_25 {i : Nat} {I : Nat → Nat → Int32} {J : Nat → Nat → Int64} {P : Nat → Nat} (hi : i < 4) : gar (gST I J P) (30 + i) = some 0 ∧ gar (gST I J P) (113 + i) = some 0 ∧ gRf P 29 i = some (30 + i) ∧ gRf P 112 i = some (113 + i) ∧ (0 : Int32).toNatClampNeg + (3 : Int32).toNatClampNeg ≤ gln (gST I J P) (30 + i) ∧ (0 : Int32).toNatClampNeg + (3 : Int32).toNatClampNeg ≤ gln (gST I J P) (113 + i) := by
  have : i = 0 ∨ i = 1 ∨ i = 2 ∨ i = 3 := by omega
  rcases this with rfl | rfl | rfl | rfl <;> exact ⟨rfl, rfl, rfl, rfl, by show 0 + 3 ≤ 3; decide, by show 0 + 3 ≤ 3; decide⟩
theorem c_ccopy_108_25 {d n : Nat} {I : Nat → Nat → Int32} {J : Nat → Nat → Int64} {P : Nat → Nat} (hn : I 25 4 = nI n) (h4 : n ≤ 4) : gTM d 9 [.ref 108, .ref 25] (gST I J P) (fun r u => r = none ∧ u = gST (kc (m2 (gupI I 108 4 (nI n)) 109 (cpr (I 26) (I 109) n) 110 (cpr (I 27) (I 110) n)) I 108 25 n) (m1 J 111 (cpr (J 28) (J 111) n)) P) := by
  have loop : ∀ i, i ≤ n → gT d 9 10 [(2, .int (nI i)), (0, .ref 108), (1, .ref 25)] [] (0, 0) (gST (kc (m2 (gupI I 108 4 (nI n)) 109 (cpr (I 26) (I 109) i) 110 (cpr (I 27) (I 110) i)) I 108 25 i) (m1 J 111 (cpr (J 28) (J 111) i)) P) (fun r u => r = none ∧ u = gST (kc (m2 (gupI I 108 4 (nI n)) 109 (cpr (I 26) (I 109) n) 110 (cpr (I 27) (I 110) n)) I 108 25 n) (m1 J 111 (cpr (J 28) (J 111) n)) P) := by
    refine loopU n (fun i hi ih => ?_)
    have hB : i < n → ∀ k, (m2 (gupI I 108 4 (nI n)) 109 (cpr (I 26) (I 109) k) 110 (cpr (I 27) (I 110) k)) (25 + 5 + i) = I (25 + 5 + i) := fun hin k => by
      have : i = 0 ∨ i = 1 ∨ i = 2 ∨ i = 3 := by omega
      rcases this with rfl | rfl | rfl | rfl <;> rfl
    refine gT_n 4 ?_
    refine ⟨rfl, pk_le n i (fun κ1 => ?_) (fun κ1 => ?_) (rfl) (rfl) (by omega) (by omega)⟩
    · refine gT_n 1 ?_
      refine ⟨rfl, ?_⟩
      obtain rfl : i = n := by omega
      exact ⟨rfl, rfl⟩
    · refine gT_n 8 ?_
      refine ⟨rfl, rfl, rfl, (pk_in i 4 (by omega) (rfl)), rfl, (pk_in i 4 (by omega) (rfl)), ?_⟩
      refine gT_iv (n := i) (X := (I 26 i)) (rfl) (by omega) ((rdI (rfl) (by omega) rfl)) ?_
      refine gT_n 8 ?_
      refine ⟨rfl, rfl, rfl, (pk_in i 4 (by omega) (rfl)), rfl, (pk_in i 4 (by omega) (rfl)), ?_⟩
      refine gT_iv (n := i) (X := (I 27 i)) (rfl) (by omega) ((rdI (rfl) (by omega) rfl)) ?_
      refine gT_n 8 ?_
      refine ⟨rfl, rfl, rfl, (pk_in i 4 (by omega) (rfl)), rfl, (pk_in i 4 (by omega) (rfl)), ?_⟩
      refine gT_ivL (n := i) (X := (J 28 i)) (rfl) (by omega) ((rdJ (rfl) (by omega) rfl)) ?_
      refine gT_n 4 ?_
      refine ⟨rfl, rfl, (pk_in i 4 (by omega) (rfl)), ?_⟩
      refine gT_top (aa_ref (b := 30 + i) (rfl) (by omega) (rc_108_25 (I := I) (J := J) (P := P) (by omega)).2.2.1) ?_
      refine gT_n 5 ?_
      refine ⟨rfl, rfl, (pk_in i 4 (by omega) (rfl)), ?_⟩
      refine gT_top (aa_ref (b := 113 + i) (rfl) (by omega) (rc_108_25 (I := I) (J := J) (P := P) (by omega)).2.2.2.1) ?_
      refine gT_n 3 ?_
      refine ⟨rfl, (rc_108_25 (I := I) (J := J) (P := P) (by omega)).1, (rc_108_25 (I := I) (J := J) (P := P) (by omega)).2.1, ⟨by decide, by decide, by decide, (rc_108_25 (I := I) (J := J) (P := P) (by omega)).2.2.2.2.1, (rc_108_25 (I := I) (J := J) (P := P) (by omega)).2.2.2.2.2⟩, ?_⟩
      refine gT_m (w' := gST (kc (m2 (gupI I 108 4 (nI n)) 109 (cpr (I 26) (I 109) (i + 1)) 110 (cpr (I 27) (I 110) (i + 1))) I 108 25 (i + 1)) (m1 J 111 (cpr (J 28) (J 111) (i + 1))) P) ?_ ?_
      · show (SH, va_up (gupI (gupI (kc (m2 (gupI I 108 4 (nI n)) 109 (cpr (I 26) (I 109) i) 110 (cpr (I 27) (I 110) i)) I 108 25 i) 109 i (I 26 i)) 110 i (I 27 i)) (113 + i) (va_cpy ((gupI (gupI (kc (m2 (gupI I 108 4 (nI n)) 109 (cpr (I 26) (I 109) i) 110 (cpr (I 27) (I 110) i)) I 108 25 i) 109 i (I 26 i)) 110 i (I 27 i)) (30 + i)) ((gupI (gupI (kc (m2 (gupI I 108 4 (nI n)) 109 (cpr (I 26) (I 109) i) 110 (cpr (I 27) (I 110) i)) I 108 25 i) 109 i (I 26 i)) 110 i (I 27 i)) (113 + i)) 0 0 3), gupL (m1 J 111 (cpr (J 28) (J 111) i)) 111 i (J 28 i), gRf P) = gST _ _ P
        rw [gup_kc (by omega), gup_kc (by omega), gup_m2a, gup_m2b (by decide), gup_m1L, cpr_upd, cpr_upd, cpr_updL, show 113 + i = 108 + 5 + i from rfl, show 30 + i = 25 + 5 + i from rfl, kc_s (by omega) (by omega) (hB (by omega) (i + 1))]; rfl
      refine gT_n 2 ?_
      have e := ih (i + 1) (by omega) (by omega)
      rw [← nI_1] at e
      exact e
  have e := loop 0 (by omega)
  rw [cpr_0, cpr_0, cpr_0, m1_self, show m2 (gupI I 108 4 (nI n)) 109 (I 109) 110 (I 110) = (gupI I 108 4 (nI n)) from m2_self, kc_0 (fun o h1 h2 => gupI_n (by omega))] at e
  refine gT_n 6 ?_
  refine ⟨rfl, rfl, ?_⟩
  exact gT_m (by rw [← hn]; rfl) e
theorem rc_25_67 {i : Nat} {I : Nat → Nat → Int32} {J : Nat → Nat → Int64} {P : Nat → Nat} (hi : i < 4) : gar (gST I J P) (72 + i) = some 0 ∧ gar (gST I J P) (30 + i) = some 0 ∧ gRf P 71 i = some (72 + i) ∧ gRf P 29 i = some (30 + i) ∧ (0 : Int32).toNatClampNeg + (3 : Int32).toNatClampNeg ≤ gln (gST I J P) (72 + i) ∧ (0 : Int32).toNatClampNeg + (3 : Int32).toNatClampNeg ≤ gln (gST I J P) (30 + i) := by
  have : i = 0 ∨ i = 1 ∨ i = 2 ∨ i = 3 := by omega
  rcases this with rfl | rfl | rfl | rfl <;> exact ⟨rfl, rfl, rfl, rfl, by show 0 + 3 ≤ 3; decide, by show 0 + 3 ≤ 3; decide⟩
theorem c_ccopy_25_67 {d n : Nat} {I : Nat → Nat → Int32} {J : Nat → Nat → Int64} {P : Nat → Nat} (hn : I 67 4 = nI n) (h4 : n ≤ 4) : gTM d 9 [.ref 25, .ref 67] (gST I J P) (fun r u => r = none ∧ u = gST (kc (m2 (gupI I 25 4 (nI n)) 26 (cpr (I 68) (I 26) n) 27 (cpr (I 69) (I 27) n)) I 25 67 n) (m1 J 28 (cpr (J 70) (J 28) n)) P) := by
  have loop : ∀ i, i ≤ n → gT d 9 10 [(2, .int (nI i)), (0, .ref 25), (1, .ref 67)] [] (0, 0) (gST (kc (m2 (gupI I 25 4 (nI n)) 26 (cpr (I 68) (I 26) i) 27 (cpr (I 69) (I 27) i)) I 25 67 i) (m1 J 28 (cpr (J 70) (J 28) i)) P) (fun r u => r = none ∧ u = gST (kc (m2 (gupI I 25 4 (nI n)) 26 (cpr (I 68) (I 26) n) 27 (cpr (I 69) (I 27) n)) I 25 67 n) (m1 J 28 (cpr (J 70) (J 28) n)) P) := by
    refine loopU n (fun i hi ih => ?_)
    have hB : i < n → ∀ k, (m2 (gupI I 25 4 (nI n)) 26 (cpr (I 68) (I 26) k) 27 (cpr (I 69) (I 27) k)) (67 + 5 + i) = I (67 + 5 + i) := fun hin k => by
      have : i = 0 ∨ i = 1 ∨ i = 2 ∨ i = 3 := by omega
      rcases this with rfl | rfl | rfl | rfl <;> rfl
    refine gT_n 4 ?_
    refine ⟨rfl, pk_le n i (fun κ1 => ?_) (fun κ1 => ?_) (rfl) (rfl) (by omega) (by omega)⟩
    · refine gT_n 1 ?_
      refine ⟨rfl, ?_⟩
      obtain rfl : i = n := by omega
      exact ⟨rfl, rfl⟩
    · refine gT_n 8 ?_
      refine ⟨rfl, rfl, rfl, (pk_in i 4 (by omega) (rfl)), rfl, (pk_in i 4 (by omega) (rfl)), ?_⟩
      refine gT_iv (n := i) (X := (I 68 i)) (rfl) (by omega) ((rdI (rfl) (by omega) rfl)) ?_
      refine gT_n 8 ?_
      refine ⟨rfl, rfl, rfl, (pk_in i 4 (by omega) (rfl)), rfl, (pk_in i 4 (by omega) (rfl)), ?_⟩
      refine gT_iv (n := i) (X := (I 69 i)) (rfl) (by omega) ((rdI (rfl) (by omega) rfl)) ?_
      refine gT_n 8 ?_
      refine ⟨rfl, rfl, rfl, (pk_in i 4 (by omega) (rfl)), rfl, (pk_in i 4 (by omega) (rfl)), ?_⟩
      refine gT_ivL (n := i) (X := (J 70 i)) (rfl) (by omega) ((rdJ (rfl) (by omega) rfl)) ?_
      refine gT_n 4 ?_
      refine ⟨rfl, rfl, (pk_in i 4 (by omega) (rfl)), ?_⟩
      refine gT_top (aa_ref (b := 72 + i) (rfl) (by omega) (rc_25_67 (I := I) (J := J) (P := P) (by omega)).2.2.1) ?_
      refine gT_n 5 ?_
      refine ⟨rfl, rfl, (pk_in i 4 (by omega) (rfl)), ?_⟩
      refine gT_top (aa_ref (b := 30 + i) (rfl) (by omega) (rc_25_67 (I := I) (J := J) (P := P) (by omega)).2.2.2.1) ?_
      refine gT_n 3 ?_
      refine ⟨rfl, (rc_25_67 (I := I) (J := J) (P := P) (by omega)).1, (rc_25_67 (I := I) (J := J) (P := P) (by omega)).2.1, ⟨by decide, by decide, by decide, (rc_25_67 (I := I) (J := J) (P := P) (by omega)).2.2.2.2.1, (rc_25_67 (I := I) (J := J) (P := P) (by omega)).2.2.2.2.2⟩, ?_⟩
      refine gT_m (w' := gST (kc (m2 (gupI I 25 4 (nI n)) 26 (cpr (I 68) (I 26) (i + 1)) 27 (cpr (I 69) (I 27) (i + 1))) I 25 67 (i + 1)) (m1 J 28 (cpr (J 70) (J 28) (i + 1))) P) ?_ ?_
      · show (SH, va_up (gupI (gupI (kc (m2 (gupI I 25 4 (nI n)) 26 (cpr (I 68) (I 26) i) 27 (cpr (I 69) (I 27) i)) I 25 67 i) 26 i (I 68 i)) 27 i (I 69 i)) (30 + i) (va_cpy ((gupI (gupI (kc (m2 (gupI I 25 4 (nI n)) 26 (cpr (I 68) (I 26) i) 27 (cpr (I 69) (I 27) i)) I 25 67 i) 26 i (I 68 i)) 27 i (I 69 i)) (72 + i)) ((gupI (gupI (kc (m2 (gupI I 25 4 (nI n)) 26 (cpr (I 68) (I 26) i) 27 (cpr (I 69) (I 27) i)) I 25 67 i) 26 i (I 68 i)) 27 i (I 69 i)) (30 + i)) 0 0 3), gupL (m1 J 28 (cpr (J 70) (J 28) i)) 28 i (J 70 i), gRf P) = gST _ _ P
        rw [gup_kc (by omega), gup_kc (by omega), gup_m2a, gup_m2b (by decide), gup_m1L, cpr_upd, cpr_upd, cpr_updL, show 30 + i = 25 + 5 + i from rfl, show 72 + i = 67 + 5 + i from rfl, kc_s (by omega) (by omega) (hB (by omega) (i + 1))]; rfl
      refine gT_n 2 ?_
      have e := ih (i + 1) (by omega) (by omega)
      rw [← nI_1] at e
      exact e
  have e := loop 0 (by omega)
  rw [cpr_0, cpr_0, cpr_0, m1_self, show m2 (gupI I 25 4 (nI n)) 26 (I 26) 27 (I 27) = (gupI I 25 4 (nI n)) from m2_self, kc_0 (fun o h1 h2 => gupI_n (by omega))] at e
  refine gT_n 6 ?_
  refine ⟨rfl, rfl, ?_⟩
  exact gT_m (by rw [← hn]; rfl) e
theorem rc_25_108 {i : Nat} {I : Nat → Nat → Int32} {J : Nat → Nat → Int64} {P : Nat → Nat} (hi : i < 4) : gar (gST I J P) (113 + i) = some 0 ∧ gar (gST I J P) (30 + i) = some 0 ∧ gRf P 112 i = some (113 + i) ∧ gRf P 29 i = some (30 + i) ∧ (0 : Int32).toNatClampNeg + (3 : Int32).toNatClampNeg ≤ gln (gST I J P) (113 + i) ∧ (0 : Int32).toNatClampNeg + (3 : Int32).toNatClampNeg ≤ gln (gST I J P) (30 + i) := by
  have : i = 0 ∨ i = 1 ∨ i = 2 ∨ i = 3 := by omega
  rcases this with rfl | rfl | rfl | rfl <;> exact ⟨rfl, rfl, rfl, rfl, by show 0 + 3 ≤ 3; decide, by show 0 + 3 ≤ 3; decide⟩
theorem c_ccopy_25_108 {d n : Nat} {I : Nat → Nat → Int32} {J : Nat → Nat → Int64} {P : Nat → Nat} (hn : I 108 4 = nI n) (h4 : n ≤ 4) : gTM d 9 [.ref 25, .ref 108] (gST I J P) (fun r u => r = none ∧ u = gST (kc (m2 (gupI I 25 4 (nI n)) 26 (cpr (I 109) (I 26) n) 27 (cpr (I 110) (I 27) n)) I 25 108 n) (m1 J 28 (cpr (J 111) (J 28) n)) P) := by
  have loop : ∀ i, i ≤ n → gT d 9 10 [(2, .int (nI i)), (0, .ref 25), (1, .ref 108)] [] (0, 0) (gST (kc (m2 (gupI I 25 4 (nI n)) 26 (cpr (I 109) (I 26) i) 27 (cpr (I 110) (I 27) i)) I 25 108 i) (m1 J 28 (cpr (J 111) (J 28) i)) P) (fun r u => r = none ∧ u = gST (kc (m2 (gupI I 25 4 (nI n)) 26 (cpr (I 109) (I 26) n) 27 (cpr (I 110) (I 27) n)) I 25 108 n) (m1 J 28 (cpr (J 111) (J 28) n)) P) := by
    refine loopU n (fun i hi ih => ?_)
    have hB : i < n → ∀ k, (m2 (gupI I 25 4 (nI n)) 26 (cpr (I 109) (I 26) k) 27 (cpr (I 110) (I 27) k)) (108 + 5 + i) = I (108 + 5 + i) := fun hin k => by
      have : i = 0 ∨ i = 1 ∨ i = 2 ∨ i = 3 := by omega
      rcases this with rfl | rfl | rfl | rfl <;> rfl
    refine gT_n 4 ?_
    refine ⟨rfl, pk_le n i (fun κ1 => ?_) (fun κ1 => ?_) (rfl) (rfl) (by omega) (by omega)⟩
    · refine gT_n 1 ?_
      refine ⟨rfl, ?_⟩
      obtain rfl : i = n := by omega
      exact ⟨rfl, rfl⟩
    · refine gT_n 8 ?_
      refine ⟨rfl, rfl, rfl, (pk_in i 4 (by omega) (rfl)), rfl, (pk_in i 4 (by omega) (rfl)), ?_⟩
      refine gT_iv (n := i) (X := (I 109 i)) (rfl) (by omega) ((rdI (rfl) (by omega) rfl)) ?_
      refine gT_n 8 ?_
      refine ⟨rfl, rfl, rfl, (pk_in i 4 (by omega) (rfl)), rfl, (pk_in i 4 (by omega) (rfl)), ?_⟩
      refine gT_iv (n := i) (X := (I 110 i)) (rfl) (by omega) ((rdI (rfl) (by omega) rfl)) ?_
      refine gT_n 8 ?_
      refine ⟨rfl, rfl, rfl, (pk_in i 4 (by omega) (rfl)), rfl, (pk_in i 4 (by omega) (rfl)), ?_⟩
      refine gT_ivL (n := i) (X := (J 111 i)) (rfl) (by omega) ((rdJ (rfl) (by omega) rfl)) ?_
      refine gT_n 4 ?_
      refine ⟨rfl, rfl, (pk_in i 4 (by omega) (rfl)), ?_⟩
      refine gT_top (aa_ref (b := 113 + i) (rfl) (by omega) (rc_25_108 (I := I) (J := J) (P := P) (by omega)).2.2.1) ?_
      refine gT_n 5 ?_
      refine ⟨rfl, rfl, (pk_in i 4 (by omega) (rfl)), ?_⟩
      refine gT_top (aa_ref (b := 30 + i) (rfl) (by omega) (rc_25_108 (I := I) (J := J) (P := P) (by omega)).2.2.2.1) ?_
      refine gT_n 3 ?_
      refine ⟨rfl, (rc_25_108 (I := I) (J := J) (P := P) (by omega)).1, (rc_25_108 (I := I) (J := J) (P := P) (by omega)).2.1, ⟨by decide, by decide, by decide, (rc_25_108 (I := I) (J := J) (P := P) (by omega)).2.2.2.2.1, (rc_25_108 (I := I) (J := J) (P := P) (by omega)).2.2.2.2.2⟩, ?_⟩
      refine gT_m (w' := gST (kc (m2 (gupI I 25 4 (nI n)) 26 (cpr (I 109) (I 26) (i + 1)) 27 (cpr (I 110) (I 27) (i + 1))) I 25 108 (i + 1)) (m1 J 28 (cpr (J 111) (J 28) (i + 1))) P) ?_ ?_
      · show (SH, va_up (gupI (gupI (kc (m2 (gupI I 25 4 (nI n)) 26 (cpr (I 109) (I 26) i) 27 (cpr (I 110) (I 27) i)) I 25 108 i) 26 i (I 109 i)) 27 i (I 110 i)) (30 + i) (va_cpy ((gupI (gupI (kc (m2 (gupI I 25 4 (nI n)) 26 (cpr (I 109) (I 26) i) 27 (cpr (I 110) (I 27) i)) I 25 108 i) 26 i (I 109 i)) 27 i (I 110 i)) (113 + i)) ((gupI (gupI (kc (m2 (gupI I 25 4 (nI n)) 26 (cpr (I 109) (I 26) i) 27 (cpr (I 110) (I 27) i)) I 25 108 i) 26 i (I 109 i)) 27 i (I 110 i)) (30 + i)) 0 0 3), gupL (m1 J 28 (cpr (J 111) (J 28) i)) 28 i (J 111 i), gRf P) = gST _ _ P
        rw [gup_kc (by omega), gup_kc (by omega), gup_m2a, gup_m2b (by decide), gup_m1L, cpr_upd, cpr_upd, cpr_updL, show 30 + i = 25 + 5 + i from rfl, show 113 + i = 108 + 5 + i from rfl, kc_s (by omega) (by omega) (hB (by omega) (i + 1))]; rfl
      refine gT_n 2 ?_
      have e := ih (i + 1) (by omega) (by omega)
      rw [← nI_1] at e
      exact e
  have e := loop 0 (by omega)
  rw [cpr_0, cpr_0, cpr_0, m1_self, show m2 (gupI I 25 4 (nI n)) 26 (I 26) 27 (I 27) = (gupI I 25 4 (nI n)) from m2_self, kc_0 (fun o h1 h2 => gupI_n (by omega))] at e
  refine gT_n 6 ?_
  refine ⟨rfl, rfl, ?_⟩
  exact gT_m (by rw [← hn]; rfl) e
