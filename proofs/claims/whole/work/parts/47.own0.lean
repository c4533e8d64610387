/-! OWNERS: a sorted list of names with their bits, and the function that it stands for -/
abbrev zO : Type := List (Nat × Nat)
def og (l : zO) (i : Nat) : Nat × Nat := l.getD i (0, 0)
def oSt (l : zO) : Prop := ∀ i j, i < j → j < l.length → (og l i).1 < (og l j).1
def oIs (l : zO) (f : Nat → Nat) : Prop := oSt l ∧ (∀ i, i < l.length → f (og l i).1 = (og l i).2 ∧ 0 < (og l i).2 ∧ (og l i).2 < 64 ∧ vn (og l i).1) ∧ ∀ n, 0 < f n → ∃ i, i < l.length ∧ (og l i).1 = n
/-- how many are ahead of a name -/
def isA (l : zO) (n a : Nat) : Prop := a ≤ l.length ∧ (∀ i, i < a → (og l i).1 < n) ∧ ∀ i, a ≤ i → i < l.length → n ≤ (og l i).1
theorem isA_one {l : zO} {n a b : Nat} (h : isA l n a) (g : isA l n b) : a = b := by
  rcases Nat.lt_trichotomy a b with c | c | c
  · have h1 := h.2.2 a (Nat.le_refl _) (by have := g.1; omega)
    have h2 := g.2.1 a c
    omega
  · exact c
  · have h1 := g.2.2 b (Nat.le_refl _) (by have := h.1; omega)
    have h2 := h.2.1 b c
    omega
theorem oSt_inj {l : zO} (h : oSt l) {i j : Nat} (hi : i < l.length) (hj : j < l.length) (e : (og l i).1 = (og l j).1) : i = j := by
  rcases Nat.lt_trichotomy i j with c | c | c
  · have := h i j c hj; omega
  · exact c
  · have := h j i c hi; omega
theorem og_app1 {A X : zO} {j : Nat} (h : j < A.length) : og (A ++ X) j = og A j := by
  unfold og
  rw [List.getD_eq_getElem?_getD, List.getD_eq_getElem?_getD, List.getElem?_append_left h]
theorem og_app2 {A X : zO} {j : Nat} (h : A.length ≤ j) : og (A ++ X) j = og X (j - A.length) := by
  unfold og
  rw [List.getD_eq_getElem?_getD, List.getD_eq_getElem?_getD, List.getElem?_append_right h]
theorem o_split {l : zO} : ∀ {a : Nat}, a ≤ l.length → ∃ A B, l = A ++ B ∧ A.length = a := fun {a} h => ⟨l.take a, l.drop a, (List.take_append_drop a l).symm, by rw [List.length_take]; omega⟩
/-- a list with one put in at a place -/
theorem o_put {l : zO} {a : Nat} (q : Nat × Nat) (h : a ≤ l.length) : ∃ l' : zO, l'.length = l.length + 1 ∧ ∀ j, j < l.length + 1 → og l' j = if j < a then og l j else if j = a then q else og l (j - 1) := by
  obtain ⟨A, B, e, e2⟩ := o_split h
  refine ⟨A ++ q :: B, ?_, fun j hj => ?_⟩
  · rw [e, List.length_append, List.length_append, List.length_cons]; omega
  · by_cases c : j < a
    · rw [if_pos c, og_app1 (by omega), e, og_app1 (by omega)]
    · rw [if_neg c]
      by_cases c2 : j = a
      · rw [if_pos c2, og_app2 (by omega), show j - A.length = 0 by omega]; rfl
      · rw [if_neg c2, og_app2 (by omega), e, og_app2 (by omega), show j - A.length = (j - 1 - A.length) + 1 by omega]; rfl
theorem o_set {l : zO} {a : Nat} (q : Nat × Nat) (h : a < l.length) : ∃ l' : zO, l'.length = l.length ∧ ∀ j, j < l.length → og l' j = if j = a then q else og l j := by
  refine ⟨l.set a q, List.length_set, fun j hj => ?_⟩
  unfold og
  rw [List.getD_eq_getElem?_getD, List.getD_eq_getElem?_getD]
  by_cases c : j = a
  · subst c
    rw [if_pos rfl, List.getElem?_set_self hj]; rfl
  · rw [if_neg c, List.getElem?_set_ne (fun z => c z.symm)]
def oor (f : Nat → Nat) (n b : Nat) : Nat → Nat := fun m => if m = n then f m ||| b else f m
theorem or_pos {a b : Nat} (h : 0 < b) : 0 < a ||| b := Nat.lt_of_lt_of_le h Nat.right_le_or
theorem or_64 {a b : Nat} (h : a < 64) (g : b < 64) : a ||| b < 64 := Nat.or_lt_two_pow (n := 6) h g
theorem oIs_new {l l' : zO} {f : Nat → Nat} {n b a : Nat} (h : oIs l f) (ha : isA l n a) (hn : vn n) (hb : 0 < b) (hb2 : b < 64) (hne : ∀ i, i < l.length → ¬ (og l i).1 = n) (e : l'.length = l.length + 1) (g : ∀ j, j < l.length + 1 → og l' j = if j < a then og l j else if j = a then (n, b) else og l (j - 1)) : oIs l' (oor f n b) := by
  have hf : f n = 0 := by
    rcases Nat.eq_zero_or_pos (f n) with z | z
    · exact z
    · obtain ⟨i, hi, q⟩ := h.2.2 n z
      exact absurd q (hne i hi)
  have hge : ∀ i, a ≤ i → i < l.length → n < (og l i).1 := fun i h1 h2 => Nat.lt_of_le_of_ne (ha.2.2 i h1 h2) (fun z => hne i h2 z.symm)
  have h0 := ha.1
  refine ⟨fun i j hij hj => ?_, fun i hi => ?_, fun m hm => ?_⟩
  · rw [e] at hj
    rw [g i (by omega), g j hj]
    by_cases c1 : i < a
    · rw [if_pos c1]
      by_cases c2 : j < a
      · rw [if_pos c2]; exact h.1 i j hij (by omega)
      · rw [if_neg c2]
        by_cases c3 : j = a
        · rw [if_pos c3]; exact ha.2.1 i c1
        · rw [if_neg c3]; exact h.1 i (j - 1) (by omega) (by omega)
    · rw [if_neg c1, if_neg (show ¬ j < a by omega), if_neg (show ¬ j = a by omega)]
      by_cases c3 : i = a
      · rw [if_pos c3]; exact hge (j - 1) (by omega) (by omega)
      · rw [if_neg c3]; exact h.1 (i - 1) (j - 1) (by omega) (by omega)
  · rw [e] at hi
    have K : ∀ k, k < l.length → oor f n b (og l k).1 = (og l k).2 ∧ 0 < (og l k).2 ∧ (og l k).2 < 64 ∧ vn (og l k).1 := fun k hk => by
      unfold oor
      rw [if_neg (hne k hk)]
      exact h.2.1 k hk
    rw [g i hi]
    by_cases c1 : i < a
    · rw [if_pos c1]; exact K i (by omega)
    · rw [if_neg c1]
      by_cases c2 : i = a
      · rw [if_pos c2]
        refine ⟨?_, hb, hb2, hn⟩
        show (if n = n then f n ||| b else f n) = b
        rw [if_pos rfl, hf, Nat.zero_or]
      · rw [if_neg c2]; exact K (i - 1) (by omega)
  · by_cases c : m = n
    · subst c
      refine ⟨a, by omega, ?_⟩
      rw [g a (by omega), if_neg (by omega), if_pos rfl]
    · have hm' : 0 < f m := by
        unfold oor at hm
        rw [if_neg c] at hm; exact hm
      obtain ⟨i, hi, q⟩ := h.2.2 m hm'
      by_cases c1 : i < a
      · exact ⟨i, by omega, by rw [g i (by omega), if_pos c1]; exact q⟩
      · refine ⟨i + 1, by omega, ?_⟩
        rw [g (i + 1) (by omega), if_neg (by omega), if_neg (by omega)]; exact q
theorem oIs_or {l l' : zO} {f : Nat → Nat} {n b a : Nat} (h : oIs l f) (ha : a < l.length) (hb2 : b < 64) (hn : (og l a).1 = n) (e : l'.length = l.length) (g : ∀ j, j < l.length → og l' j = if j = a then (n, (og l a).2 ||| b) else og l j) : oIs l' (oor f n b) := by
  have G : ∀ j, j < l.length → (og l' j).1 = (og l j).1 := fun j hj => by
    rw [g j hj]
    by_cases c : j = a
    · rw [if_pos c, c, hn]
    · rw [if_neg c]
  refine ⟨fun i j hij hj => ?_, fun i hi => ?_, fun m hm => ?_⟩
  · rw [e] at hj
    rw [G i (by omega), G j hj]; exact h.1 i j hij hj
  · rw [e] at hi
    have K := h.2.1 i hi
    by_cases c : i = a
    · rw [g i hi, if_pos c]
      subst c
      refine ⟨?_, ?_, or_64 K.2.2.1 hb2, hn ▸ K.2.2.2⟩
      · show (if n = n then f n ||| b else f n) = _
        rw [if_pos rfl, ← hn, K.1]
      · exact Nat.lt_of_lt_of_le K.2.1 Nat.left_le_or
    · rw [g i hi, if_neg c]
      have : ¬ (og l i).1 = n := fun z => c (oSt_inj h.1 hi ha (z.trans hn.symm))
      refine ⟨?_, K.2⟩
      unfold oor
      rw [if_neg this]; exact K.1
  · by_cases c : m = n
    · exact ⟨a, by omega, by rw [G a ha, hn, c]⟩
    · have hm' : 0 < f m := by
        unfold oor at hm
        rw [if_neg c] at hm; exact hm
      obtain ⟨i, hi, q⟩ := h.2.2 m hm'
      exact ⟨i, by omega, by rw [G i hi]; exact q⟩
theorem oIs_nil : oIs [] (fun _ => 0) := ⟨fun i j _ h => absurd h (Nat.not_lt_zero j), fun i h => absurd h (Nat.not_lt_zero i), fun n h => absurd h (Nat.lt_irrefl 0)⟩
theorem oIs_ext {l : zO} {f g : Nat → Nat} (h : oIs l f) (e : ∀ n, f n = g n) : oIs l g := (funext e : f = g) ▸ h
/-! what the bits of a name are -/
/-- of the first j records -/
def rbN (t : zT) (z : Nat) (l : zR) (n : Nat) : Nat → Nat
  | 0 => 0
  | j + 1 => rbN t z l n j ||| (if (rg l j).1 = n ∧ zof t (rg l j).1 = z then 2 ^ (rg l j).2.1 else 0)
/-- of the zones 1 to m -/
def cbN (t : zT) (z n : Nat) : Nat → Nat
  | 0 => 0
  | m + 1 => cbN t z n m ||| (if t.2.1 (m + 1) = n ∧ zpa t (m + 1) = z then (if t.2.2.1 (m + 1) = true then 24 else 8) else 0)
def abN (t : zT) (z n : Nat) : Nat := if t.2.1 z = n then 32 else 0
/-- of a name -/
def fG (t : zT) (l : zR) (z n : Nat) : Nat := (abN t z n ||| rbN t z l n l.length) ||| cbN t z n (t.1 - 1)
theorem p2_64 {s : Nat} (h : s < 3) : 2 ^ s < 64 ∧ 0 < 2 ^ s := by
  have : s = 0 ∨ s = 1 ∨ s = 2 := by omega
  rcases this with rfl | rfl | rfl <;> decide
theorem rbN_64 {t : zT} {z n : Nat} {l : zR} (h : ∀ i, i < l.length → rq (rg l i)) : ∀ j, j ≤ l.length → rbN t z l n j < 64 := by
  intro j
  induction j with
  | zero => intro _; exact (by decide : 0 < 64)
  | succ j ih =>
    intro hj
    refine or_64 (ih (by omega)) ?_
    split
    · exact (p2_64 (h j (by omega)).2.1).1
    · decide
theorem cbN_64 {t : zT} {z n : Nat} : ∀ m, cbN t z n m < 64 := by
  intro m
  induction m with
  | zero => exact (by decide : 0 < 64)
  | succ m ih =>
    refine or_64 ih ?_
    split
    · split <;> decide
    · decide
theorem abN_64 {t : zT} {z n : Nat} : abN t z n < 64 := by
  unfold abN
  split <;> decide
theorem rbN_bit {t : zT} {z n i : Nat} {l : zR} : ∀ j, (rbN t z l n j).testBit i = true ↔ ∃ k, k < j ∧ (rg l k).1 = n ∧ zof t n = z ∧ (rg l k).2.1 = i := by
  intro j
  induction j with
  | zero =>
    show (Nat.testBit 0 i = true) ↔ _
    rw [Nat.zero_testBit]
    exact ⟨fun h => absurd h (by decide), fun ⟨k, hk, _⟩ => absurd hk (Nat.not_lt_zero k)⟩
  | succ j ih =>
    show ((rbN t z l n j ||| _).testBit i = true) ↔ _
    rw [Nat.testBit_or, Bool.or_eq_true, ih]
    constructor
    · rintro (⟨k, hk, h⟩ | h)
      · exact ⟨k, by omega, h⟩
      · split at h
        · rename_i c
          rw [Nat.testBit_two_pow, decide_eq_true_eq] at h
          exact ⟨j, by omega, c.1, c.1 ▸ c.2, h⟩
        · rw [Nat.zero_testBit] at h; exact absurd h (by decide)
    · rintro ⟨k, hk, h1, h2, h3⟩
      by_cases c : k < j
      · exact Or.inl ⟨k, c, h1, h2, h3⟩
      · have : k = j := by omega
        subst this
        refine Or.inr ?_
        rw [if_pos ⟨h1, h1.symm ▸ h2⟩, Nat.testBit_two_pow, decide_eq_true_eq]; exact h3
theorem rbN_perm {t : zT} {z n : Nat} {l l' : zR} (h : l.Perm l') : rbN t z l n l.length = rbN t z l' n l'.length := by
  refine Nat.eq_of_testBit_eq (fun i => ?_)
  rw [Bool.eq_iff_iff, rbN_bit, rbN_bit]
  constructor
  · rintro ⟨k, hk, h1, h2, h3⟩
    obtain ⟨k', hk', e⟩ := mem_rg (h.mem_iff.mp (rg_mem hk))
    exact ⟨k', hk', by rw [e]; exact ⟨h1, h2, h3⟩⟩
  · rintro ⟨k, hk, h1, h2, h3⟩
    obtain ⟨k', hk', e⟩ := mem_rg (h.mem_iff.mpr (rg_mem hk))
    exact ⟨k', hk', by rw [e]; exact ⟨h1, h2, h3⟩⟩
theorem fG_perm {t : zT} {z n : Nat} {l l' : zR} (h : l.Perm l') : fG t l z n = fG t l' z n := by
  unfold fG
  rw [rbN_perm h]
theorem or_eq_0 {a b : Nat} : 0 < a ||| b ↔ 0 < a ∨ 0 < b := by
  constructor
  · intro h
    rcases Nat.eq_zero_or_pos a with z | z
    · subst z
      rw [Nat.zero_or] at h; exact Or.inr h
    · exact Or.inl z
  · rintro (h | h)
    · exact Nat.lt_of_lt_of_le h Nat.left_le_or
    · exact or_pos h
theorem cbN_pos {t : zT} {z n : Nat} : ∀ m, 0 < cbN t z n m ↔ ∃ c, 1 ≤ c ∧ c ≤ m ∧ t.2.1 c = n ∧ zpa t c = z := by
  intro m
  induction m with
  | zero => exact ⟨fun h => absurd h (Nat.lt_irrefl 0), fun ⟨c, h1, h2, _⟩ => absurd h1 (by omega)⟩
  | succ m ih =>
    show 0 < cbN t z n m ||| _ ↔ _
    rw [or_eq_0, ih]
    constructor
    · rintro (⟨c, h1, h2, h⟩ | h)
      · exact ⟨c, h1, by omega, h⟩
      · split at h
        · rename_i q
          exact ⟨m + 1, by omega, by omega, q⟩
        · exact absurd h (Nat.lt_irrefl 0)
    · rintro ⟨c, h1, h2, h⟩
      by_cases e : c ≤ m
      · exact Or.inl ⟨c, h1, e, h⟩
      · have : c = m + 1 := by omega
        subst this
        refine Or.inr ?_
        rw [if_pos h]
        split <;> decide
theorem rbN_pos {t : zT} {z n : Nat} {l : zR} : ∀ j, 0 < rbN t z l n j ↔ ∃ k, k < j ∧ (rg l k).1 = n ∧ zof t n = z := by
  intro j
  induction j with
  | zero => exact ⟨fun h => absurd h (Nat.lt_irrefl 0), fun ⟨k, h1, _⟩ => absurd h1 (Nat.not_lt_zero k)⟩
  | succ j ih =>
    show 0 < rbN t z l n j ||| _ ↔ _
    rw [or_eq_0, ih]
    constructor
    · rintro (⟨c, h1, h⟩ | h)
      · exact ⟨c, by omega, h⟩
      · split at h
        · rename_i q
          exact ⟨j, by omega, q.1, q.1 ▸ q.2⟩
        · exact absurd h (Nat.lt_irrefl 0)
    · rintro ⟨c, h1, h2, h3⟩
      by_cases e : c < j
      · exact Or.inl ⟨c, e, h2, h3⟩
      · have : c = j := by omega
        subst this
        refine Or.inr ?_
        rw [if_pos ⟨h2, h2.symm ▸ h3⟩]
        exact Nat.two_pow_pos _
theorem abN_pos {t : zT} {z n : Nat} : 0 < abN t z n ↔ t.2.1 z = n := by
  unfold abN
  split
  · rename_i h; exact ⟨fun _ => h, fun _ => by decide⟩
  · rename_i h; exact ⟨fun q => absurd q (Nat.lt_irrefl 0), fun q => absurd q h⟩
/-- who is an owner -/
theorem fG_pos {t : zT} {z n : Nat} {l : zR} : 0 < fG t l z n ↔ t.2.1 z = n ∨ (∃ k, k < l.length ∧ (rg l k).1 = n ∧ zof t n = z) ∨ ∃ c, 1 ≤ c ∧ c ≤ t.1 - 1 ∧ t.2.1 c = n ∧ zpa t c = z := by
  unfold fG
  rw [or_eq_0, or_eq_0, abN_pos, rbN_pos, cbN_pos, or_assoc]
/-- whether a sort is told -/
theorem fG_bit {t : zT} {z n i : Nat} {l : zR} (hi : i < 3) : (fG t l z n).testBit i = true ↔ ∃ k, k < l.length ∧ (rg l k).1 = n ∧ zof t n = z ∧ (rg l k).2.1 = i := by
  have hc : ∀ m, (cbN t z n m).testBit i = false := by
    intro m
    induction m with
    | zero => exact Nat.zero_testBit i
    | succ m ih =>
      show (cbN t z n m ||| _).testBit i = false
      rw [Nat.testBit_or, ih, Bool.false_or]
      have : i = 0 ∨ i = 1 ∨ i = 2 := by omega
      split
      · split <;> rcases this with rfl | rfl | rfl <;> decide
      · exact Nat.zero_testBit i
  have ha : (abN t z n).testBit i = false := by
    have : i = 0 ∨ i = 1 ∨ i = 2 := by omega
    unfold abN
    split
    · rcases this with rfl | rfl | rfl <;> decide
    · exact Nat.zero_testBit i
  unfold fG
  rw [Nat.testBit_or, Nat.testBit_or, ha, hc, Bool.or_false, Bool.false_or, rbN_bit]
