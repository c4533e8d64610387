/-! ZONES -/
theorem rdI {f : Nat → Int32} {x v : Int32} {k : Nat} (e : x = nI k) (hk : k < 2 ^ 31) (h : f k = v) : f x.toNatClampNeg = v := by
  rw [e, nI_clamp hk]; exact h
theorem rdJ {f : Nat → Int64} {x : Int32} {v : Int64} {k : Nat} (e : x = nI k) (hk : k < 2 ^ 31) (h : f k = v) : f x.toNatClampNeg = v := by
  rw [e, nI_clamp hk]; exact h
/-- a loop that counts up -/
theorem loopU {P : Nat → Prop} (n : Nat) (h : ∀ j, j ≤ n → (∀ j', j < j' → j' ≤ n → P j') → P j) : ∀ j, j ≤ n → P j := by
  have key : ∀ f j, n ≤ j + f → j ≤ n → P j := by
    intro f
    induction f with
    | zero => intro j h1 h2; exact h j h2 (fun j' h3 h4 => absurd h3 (by omega))
    | succ f ih => intro j h1 h2; exact h j h2 (fun j' h3 h4 => ih j' (by omega) h4)
  intro j hj
  exact key n j (by omega) hj
def bI (b : Bool) : Int32 := if b then 1 else 0
theorem bI_01 (b : Bool) : bI b = 0 ∨ bI b = 1 := by cases b <;> simp [bI]
/-- the deepest of the zones 1 to m that a name lies in; 0 -/
def zo (ap : Nat → Nat) (n : Nat) : Nat → Nat
  | 0 => 0
  | k + 1 => if cnt (ap (zo ap n k)) < cnt (ap (k + 1)) ∧ nfst n (cnt (ap (k + 1))) = ap (k + 1) then k + 1 else zo ap n k
theorem zo_le (ap : Nat → Nat) (n k : Nat) : zo ap n k ≤ k := by
  induction k with
  | zero => exact Nat.le_refl 0
  | succ k ih => unfold zo; split <;> omega
/-- the zones: how many, apexes, signed, the span -/
abbrev zT : Type := Nat × (Nat → Nat) × (Nat → Bool) × Nat
def zOK (t : zT) : Prop := 1 ≤ t.1 ∧ t.1 ≤ 4 ∧ t.2.1 0 = 0 ∧ t.2.2.1 0 = true ∧ (∀ z, z < t.1 → vn (t.2.1 z)) ∧ (∀ y z, y < t.1 → z < t.1 → t.2.1 y = t.2.1 z → y = z)
def zof (t : zT) (n : Nat) : Nat := zo t.2.1 n (t.1 - 1)
def zpa (t : zT) (z : Nat) : Nat := zof t (nfst (t.2.1 z) (cnt (t.2.1 z) - 1))
theorem zof_lt {t : zT} (h : zOK t) (n : Nat) : zof t n < t.1 := by
  have := zo_le t.2.1 n (t.1 - 1)
  have := h.1
  unfold zof
  omega
/-- the class's tree without its parents: count, apexes, labels, signed -/
def cT0 (cn : Int32) (ja : Nat → Int64) (il is : Nat → Int32) (t : zT) : Prop :=
  cn = nI t.1 ∧ (∀ z, z < t.1 → ja z = lN (t.2.1 z)) ∧ (∀ z, z < t.1 → il z = nI (cnt (t.2.1 z))) ∧ (∀ z, z < t.1 → is z = bI (t.2.2.1 z)) ∧ (∀ z, z < 4 → is z = 0 ∨ is z = 1)
/-- the reference's zones -/
def mT (zn : Int32) (ja : Nat → Int64) (is : Nat → Int32) (t : zT) : Prop :=
  zn = nI t.1 ∧ (∀ z, z < t.1 → ja z = lN (mo (t.2.1 z))) ∧ (∀ z, z < t.1 → is z = bI (t.2.2.1 z)) ∧ (∀ z, z < 4 → is z = 0 ∨ is z = 1)
def inZ (n : Nat) (x : Int32) : Prop := ∃ k, k < n ∧ x = nI k
theorem inZ_of {n : Nat} {x : Int32} (hn : n < 2 ^ 31) (h0 : ¬ x < 0) (h1 : ¬ nI n ≤ x) : inZ n x := by
  rcases pk_ix x hn with h | h | h
  · exact absurd h h0
  · exact absurd h h1
  · exact h
theorem inZ_lo {n : Nat} {x : Int32} (hn : n < 2 ^ 31) (h0 : x < 0) : ¬ inZ n x := by
  intro ⟨k, hk, e⟩
  rw [e] at h0
  exact nI_pos (by omega) h0
theorem inZ_hi {n : Nat} {x : Int32} (hn : n < 2 ^ 31) (h0 : nI n ≤ x) : ¬ inZ n x := by
  intro ⟨k, hk, e⟩
  rw [e] at h0
  exact nI_ge hk hn h0
theorem zo_cond {a n : Nat} (ha : nwf a) (hn : nwf n) : (a = n ∨ nab a n) ↔ nfst n (cnt a) = a := by
  constructor
  · rintro (h | h)
    · rw [h]; exact nfst_self hn (Nat.le_refl _) (cnt_le n)
    · exact h.2
  · intro h
    by_cases e : a = n
    · exact Or.inl e
    · exact Or.inr ((nab_v ha hn).mp ⟨e, h⟩)
theorem zo_s {ap : Nat → Nat} {n j : Nat} (hj : 1 ≤ j) (h : cnt (ap (zo ap n (j - 1))) < cnt (ap j) ∧ nfst n (cnt (ap j)) = ap j) : zo ap n (j + 1 - 1) = j := by
  obtain ⟨k, rfl⟩ : ∃ k, j = k + 1 := ⟨j - 1, by omega⟩
  show zo ap n (k + 1) = k + 1
  exact if_pos h
theorem zo_n {ap : Nat → Nat} {n j : Nat} (hj : 1 ≤ j) (h : ¬ (cnt (ap (zo ap n (j - 1))) < cnt (ap j) ∧ nfst n (cnt (ap j)) = ap j)) : zo ap n (j + 1 - 1) = zo ap n (j - 1) := by
  obtain ⟨k, rfl⟩ : ∃ k, j = k + 1 := ⟨j - 1, by omega⟩
  show zo ap n (k + 1) = zo ap n k
  exact if_neg h
theorem c_firstE {d n k : Nat} {x : Int32} {w : gW} (hn : n < 2 ^ 60) (hk : k ≤ 4) (e : x = nI k) : gTM d 31 [.long (lN n), .int x] w (fun r u => u = w ∧ r = some (.long (lN (nfst n k)))) := by
  rw [e]; exact c_first hn hk
/-- Tree.zoneOf -/
theorem c_zoneOf_3 {d n : Nat} {t : zT} {I : Nat → Nat → Int32} {J : Nat → Nat → Int64} {P : Nat → Nat} (hz : zOK t) (hT : cT0 (I 3 4) (J 4) (I 5) (I 6) t) (hn : n < 2 ^ 60) : gTM (d + 1) 89 [.ref 3, .long (lN n)] (gST I J P) (fun r u => u = gST I J P ∧ r = some (.int (nI (zof t n)))) := by
  obtain ⟨h1, h4, h0, -, hv, -⟩ := hz
  obtain ⟨hc, ha, hl, -⟩ := hT
  have loop : ∀ j, j ≤ t.1 → 1 ≤ j → gT (d + 1) 89 5 [(4, .int (nI j)), (3, .int (nI (zo t.2.1 n (j - 1)))), (0, .ref 3), (1, .long (lN n))] [] (0, 0) (gST I J P) (fun r u => u = gST I J P ∧ r = some (.int (nI (zof t n)))) := by
    refine loopU t.1 (fun j hj ih h1j => ?_)
    have hle := zo_le t.2.1 n (j - 1)
    refine gT_n 4 ?_
    refine ⟨rfl, pk_le t.1 j (fun c1 => ?_) (fun c1 => ?_) (hc) (rfl) (by omega) (by omega)⟩
    · refine gT_n 2 ?_
      exact ⟨rfl, ri (by unfold zof; rw [show j = t.1 by omega])⟩
    · refine gT_n 9 ?_
      refine ⟨rfl, rfl, (pk_in j 4 (by omega) (rfl)), rfl, rfl, (pk_in ((zo t.2.1 n (j - 1))) 4 (by omega) (rfl)), pk_le ((cnt (t.2.1 j))) ((cnt (t.2.1 ((zo t.2.1 n (j - 1)))))) (fun c2 => ?_) (fun c2 => ?_) (rdI (rfl) (by omega) (hl j (by omega))) (rdI (rfl) (by omega) (hl ((zo t.2.1 n (j - 1))) (by omega))) (by have := cnt_le (t.2.1 j); omega) (by have := cnt_le (t.2.1 ((zo t.2.1 n (j - 1)))); omega)⟩
      · refine gT_n 2 ?_
        have e := ih (j + 1) (by omega) (by omega) (by omega)
        rw [zo_n h1j (fun z => by first | exact absurd z.1 (by omega) | exact c3 z.2), ← nI_1] at e
        exact e
      · refine gT_n 6 ?_
        refine ⟨rfl, rfl, (pk_in j 4 (by omega) (rfl)), rfl, gTM.useA (c_first hn (cnt_le (t.2.1 j))) (Nat.le_refl _) (aL (rfl) (aI (rdI (rfl) (by omega) (hl j (by omega))) (rfl))) (fun r u hq => ?_)⟩
        obtain ⟨rfl, rfl⟩ := hq  -- X3_first[lN n, nI ((cnt (t.2.1 j)))]
        refine gT_n 6 ?_
        refine ⟨rfl, rfl, (pk_in j 4 (by omega) (rfl)), pl_ne ((nfst n (cnt (t.2.1 j)))) ((t.2.1 j)) (fun c3 => ?_) (fun c3 => ?_) (rfl) (rdJ (rfl) (by omega) (ha j (by omega))) (nfst_lt hn _) ((hv j (by omega)).lt)⟩
        · refine gT_n 2 ?_
          have e := ih (j + 1) (by omega) (by omega) (by omega)
          rw [zo_n h1j (fun z => by first | exact absurd z.1 (by omega) | exact c3 z.2), ← nI_1] at e
          exact e
        · refine gT_n 4 ?_
          have e := ih (j + 1) (by omega) (by omega) (by omega)
          rw [zo_s h1j ⟨c2, c3⟩, ← nI_1] at e
          exact e
  refine gT_n 4 ?_
  exact loop 1 h1 (Nat.le_refl _)
/-- Tree.zoneOf -/
theorem c_zoneOf_12 {d n : Nat} {t : zT} {I : Nat → Nat → Int32} {J : Nat → Nat → Int64} {P : Nat → Nat} (hz : zOK t) (hT : cT0 (I 12 4) (J 13) (I 14) (I 15) t) (hn : n < 2 ^ 60) : gTM (d + 1) 89 [.ref 12, .long (lN n)] (gST I J P) (fun r u => u = gST I J P ∧ r = some (.int (nI (zof t n)))) := by
  obtain ⟨h1, h4, h0, -, hv, -⟩ := hz
  obtain ⟨hc, ha, hl, -⟩ := hT
  have loop : ∀ j, j ≤ t.1 → 1 ≤ j → gT (d + 1) 89 5 [(4, .int (nI j)), (3, .int (nI (zo t.2.1 n (j - 1)))), (0, .ref 12), (1, .long (lN n))] [] (0, 0) (gST I J P) (fun r u => u = gST I J P ∧ r = some (.int (nI (zof t n)))) := by
    refine loopU t.1 (fun j hj ih h1j => ?_)
    have hle := zo_le t.2.1 n (j - 1)
    refine gT_n 4 ?_
    refine ⟨rfl, pk_le t.1 j (fun c1 => ?_) (fun c1 => ?_) (hc) (rfl) (by omega) (by omega)⟩
    · refine gT_n 2 ?_
      exact ⟨rfl, ri (by unfold zof; rw [show j = t.1 by omega])⟩
    · refine gT_n 9 ?_
      refine ⟨rfl, rfl, (pk_in j 4 (by omega) (rfl)), rfl, rfl, (pk_in ((zo t.2.1 n (j - 1))) 4 (by omega) (rfl)), pk_le ((cnt (t.2.1 j))) ((cnt (t.2.1 ((zo t.2.1 n (j - 1)))))) (fun c2 => ?_) (fun c2 => ?_) (rdI (rfl) (by omega) (hl j (by omega))) (rdI (rfl) (by omega) (hl ((zo t.2.1 n (j - 1))) (by omega))) (by have := cnt_le (t.2.1 j); omega) (by have := cnt_le (t.2.1 ((zo t.2.1 n (j - 1)))); omega)⟩
      · refine gT_n 2 ?_
        have e := ih (j + 1) (by omega) (by omega) (by omega)
        rw [zo_n h1j (fun z => by first | exact absurd z.1 (by omega) | exact c3 z.2), ← nI_1] at e
        exact e
      · refine gT_n 6 ?_
        refine ⟨rfl, rfl, (pk_in j 4 (by omega) (rfl)), rfl, gTM.useA (c_first hn (cnt_le (t.2.1 j))) (Nat.le_refl _) (aL (rfl) (aI (rdI (rfl) (by omega) (hl j (by omega))) (rfl))) (fun r u hq => ?_)⟩
        obtain ⟨rfl, rfl⟩ := hq  -- X3_first[lN n, nI ((cnt (t.2.1 j)))]
        refine gT_n 6 ?_
        refine ⟨rfl, rfl, (pk_in j 4 (by omega) (rfl)), pl_ne ((nfst n (cnt (t.2.1 j)))) ((t.2.1 j)) (fun c3 => ?_) (fun c3 => ?_) (rfl) (rdJ (rfl) (by omega) (ha j (by omega))) (nfst_lt hn _) ((hv j (by omega)).lt)⟩
        · refine gT_n 2 ?_
          have e := ih (j + 1) (by omega) (by omega) (by omega)
          rw [zo_n h1j (fun z => by first | exact absurd z.1 (by omega) | exact c3 z.2), ← nI_1] at e
          exact e
        · refine gT_n 4 ?_
          have e := ih (j + 1) (by omega) (by omega) (by omega)
          rw [zo_s h1j ⟨c2, c3⟩, ← nI_1] at e
          exact e
  refine gT_n 4 ?_
  exact loop 1 h1 (Nat.le_refl _)
/-- Tree.has -/
theorem c_has {d : Nat} {z : Int32} {t : zT} {I : Nat → Nat → Int32} {J : Nat → Nat → Int64} {P : Nat → Nat} (hz : zOK t) (hT : cT0 (I 12 4) (J 13) (I 14) (I 15) t) : gTM d 85 [.ref 12, .int z] (gST I J P) (gB (gST I J P) (inZ t.1 z)) := by
  have h4 := hz.2.1
  have hc := hT.1
  refine gT_n 2 ?_
  refine ⟨fun c1 => ?_, fun c1 => ?_⟩
  · refine gT_n 2 ?_
    refine ⟨(Or.inl rfl), ?_⟩
    exact ⟨rfl, Or.inr ⟨rfl, by first | exact inZ_hi (by omega) (by rw [← hc]; exact c2) | exact inZ_lo (by omega) c1⟩⟩
  · refine gT_n 4 ?_
    refine ⟨rfl, fun c2 => ?_, fun c2 => ?_⟩
    · refine gT_n 2 ?_
      refine ⟨(Or.inl rfl), ?_⟩
      exact ⟨rfl, Or.inr ⟨rfl, by first | exact inZ_hi (by omega) (by rw [← hc]; exact c2) | exact inZ_lo (by omega) c1⟩⟩
    · refine gT_n 3 ?_
      refine ⟨(Or.inr rfl), ?_⟩
      exact ⟨rfl, Or.inl ⟨rfl, inZ_of (by omega) c1 (fun z => c2 (by show I 12 4 ≤ _; rw [hc]; exact z))⟩⟩
