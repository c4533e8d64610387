/-! branches over numbers, names; THE MAP from the class's names to the reference's -/
theorem pk_ne {x y : Int32} {A B : Prop} (a b : Nat) (f : a ≠ b → A) (g : a = b → B) (hx : x = nI a := by rfl) (hy : y = nI b := by rfl) (ha : a < 2 ^ 31 := by omega) (hb : b < 2 ^ 31 := by omega) : (¬ x = y → A) ∧ (x = y → B) := by
  have h := pk_eq (A := B) (B := A) a b g f hx hy ha hb
  exact ⟨h.2, h.1⟩
theorem pk_d1 {n : Nat} (h : 0 < n) : nI n + (-1) = nI (n - 1) := by
  obtain ⟨m, rfl⟩ : ∃ m, n = m + 1 := ⟨n - 1, by omega⟩
  exact pk_m1 m
theorem pl_eq {x y : Int64} {A B : Prop} (a b : Nat) (f : a = b → A) (g : a ≠ b → B) (hx : x = lN a) (hy : y = lN b) (ha : a < 2 ^ 60) (hb : b < 2 ^ 60) : (lg_cmp x y = 0 → A) ∧ (¬ lg_cmp x y = 0 → B) := by
  subst hx hy
  rw [lg_cmp_eq, lN_ne ha hb]
  exact ⟨f, g⟩
theorem pl_ne {x y : Int64} {A B : Prop} (a b : Nat) (f : a ≠ b → A) (g : a = b → B) (hx : x = lN a) (hy : y = lN b) (ha : a < 2 ^ 60) (hb : b < 2 ^ 60) : (¬ lg_cmp x y = 0 → A) ∧ (lg_cmp x y = 0 → B) := by
  have h := pl_eq (A := B) (B := A) a b g f hx hy ha hb
  exact ⟨h.2, h.1⟩
theorem pl_lt {x y : Int64} {A B : Prop} (a b : Nat) (f : a < b → A) (g : b ≤ a → B) (hx : x = lN a) (hy : y = lN b) (ha : a < 2 ^ 60) (hb : b < 2 ^ 60) : (lg_cmp x y < 0 → A) ∧ (¬ lg_cmp x y < 0 → B) := by
  subst hx hy
  rw [lg_cmp_lt, lN_lt60 ha hb]
  exact ⟨f, fun z => g (by omega)⟩
theorem pl_gt {x y : Int64} {A B : Prop} (a b : Nat) (f : b < a → A) (g : a ≤ b → B) (hx : x = lN a) (hy : y = lN b) (ha : a < 2 ^ 60) (hb : b < 2 ^ 60) : (0 < lg_cmp x y → A) ∧ (¬ 0 < lg_cmp x y → B) := by
  subst hx hy
  rw [lg_cmp_gt, lN_lt60 hb ha]
  exact ⟨f, fun z => g (by omega)⟩
theorem pl_ge {x y : Int64} {A B : Prop} (a b : Nat) (f : b ≤ a → A) (g : a < b → B) (hx : x = lN a) (hy : y = lN b) (ha : a < 2 ^ 60) (hb : b < 2 ^ 60) : (0 ≤ lg_cmp x y → A) ∧ (¬ 0 ≤ lg_cmp x y → B) := by
  have h := pl_lt (A := B) (B := A) a b g f hx hy ha hb
  exact ⟨fun c => h.2 (Int32.not_lt.mpr c), fun c => h.1 (Int32.not_le.mp c)⟩
theorem pl_le {x y : Int64} {A B : Prop} (a b : Nat) (f : a ≤ b → A) (g : b < a → B) (hx : x = lN a) (hy : y = lN b) (ha : a < 2 ^ 60) (hb : b < 2 ^ 60) : (lg_cmp x y ≤ 0 → A) ∧ (¬ lg_cmp x y ≤ 0 → B) := by
  have h := pl_gt (A := B) (B := A) a b g f hx hy ha hb
  exact ⟨fun c => h.2 (Int32.not_lt.mpr c), fun c => h.1 (Int32.not_le.mp c)⟩
/-- a label that is none or as told -/
def vl (x : Nat) : Prop := x ≤ 1 ∨ ∃ i j k, 1 ≤ i ∧ i ≤ 26 ∧ j ≤ 26 ∧ k ≤ 26 ∧ (j = 0 → k = 0) ∧ x = 1024 * i + 32 * j + k
def ml (x : Nat) : Nat := if x ≤ 1 then x else 729 * (x / 1024) + 27 * (x / 32 % 32) + x % 32
theorem vl_lt {x : Nat} (h : vl x) : x < 32768 := by
  rcases h with h | ⟨i, j, k, h⟩ <;> omega
theorem ml_of {i j k : Nat} (h1 : 1 ≤ i) (hj : j ≤ 26) (hk : k ≤ 26) : ml (1024 * i + 32 * j + k) = 729 * i + 27 * j + k := by
  unfold ml
  rw [if_neg (by omega)]
  omega
theorem ml_lt {x : Nat} (h : x < 32768) : ml x < 32768 := by
  unfold ml
  split <;> omega
theorem ml_0 {x : Nat} : ml x = 0 ↔ x = 0 := by
  unfold ml
  split <;> omega
theorem ml_mono {x y : Nat} (hx : vl x) (hy : vl y) (h : x < y) : ml x < ml y := by
  rcases hx with hx | ⟨i, j, k, a1, a2, a3, a4, a5, rfl⟩ <;> rcases hy with hy | ⟨i', j', k', b1, b2, b3, b4, b5, rfl⟩
  · unfold ml; rw [if_pos hx, if_pos hy]; exact h
  · rw [ml_of b1 b3 b4]; unfold ml; rw [if_pos hx]; omega
  · omega
  · rw [ml_of b1 b3 b4, ml_of a1 a3 a4]; omega
theorem ml_inj {x y : Nat} (hx : vl x) (hy : vl y) : ml x = ml y ↔ x = y := by
  constructor
  · intro h
    rcases Nat.lt_trichotomy x y with z | z | z
    · have := ml_mono hx hy z; omega
    · exact z
    · have := ml_mono hy hx z; omega
  · intro h; rw [h]
theorem ml_ltI {x y : Nat} (hx : vl x) (hy : vl y) : ml x < ml y ↔ x < y := by
  constructor
  · intro h
    rcases Nat.lt_trichotomy x y with z | z | z
    · exact z
    · rw [z] at h; omega
    · have := ml_mono hy hx z; omega
  · exact ml_mono hx hy
/-- a name as told -/
def vn (n : Nat) : Prop := nwf n ∧ vl (lab n 0) ∧ vl (lab n 1) ∧ vl (lab n 2) ∧ vl (lab n 3)
theorem vn.lt {n : Nat} (h : vn n) : n < 2 ^ 60 := h.1.1
def n4 (a b c d : Nat) : Nat := a * 35184372088832 + b * 1073741824 + c * 32768 + d
theorem lab_n4 {a b c d : Nat} (ha : a < 32768) (hb : b < 32768) (hc : c < 32768) (hd : d < 32768) : lab (n4 a b c d) 0 = a ∧ lab (n4 a b c d) 1 = b ∧ lab (n4 a b c d) 2 = c ∧ lab (n4 a b c d) 3 = d := by
  unfold lab n4
  simp only [Nat.reduceSub, Nat.reduceMul, Nat.reducePow]
  omega
theorem n4_lab {n : Nat} (hn : n < 2 ^ 60) : n4 (lab n 0) (lab n 1) (lab n 2) (lab n 3) = n := (lab_sum hn).symm
theorem n4_lt {a b c d : Nat} (ha : a < 32768) (hb : b < 32768) (hc : c < 32768) (hd : d < 32768) : n4 a b c d < 2 ^ 60 := by
  unfold n4
  omega
/-- the reference's name -/
def mo (n : Nat) : Nat := n4 (ml (lab n 0)) (ml (lab n 1)) (ml (lab n 2)) (ml (lab n 3))
theorem mo_lab (n : Nat) : lab (mo n) 0 = ml (lab n 0) ∧ lab (mo n) 1 = ml (lab n 1) ∧ lab (mo n) 2 = ml (lab n 2) ∧ lab (mo n) 3 = ml (lab n 3) := lab_n4 (ml_lt (lab_lt _ _)) (ml_lt (lab_lt _ _)) (ml_lt (lab_lt _ _)) (ml_lt (lab_lt _ _))
theorem mo_labk (n : Nat) {k : Nat} (hk : k < 4) : lab (mo n) k = ml (lab n k) := by
  obtain ⟨a, b, c, d⟩ := mo_lab n
  match k, hk with
  | 0, _ => exact a
  | 1, _ => exact b
  | 2, _ => exact c
  | 3, _ => exact d
  | k + 4, h => exact absurd h (by omega)
theorem mo_lt60 (n : Nat) : mo n < 2 ^ 60 := n4_lt (ml_lt (lab_lt _ _)) (ml_lt (lab_lt _ _)) (ml_lt (lab_lt _ _)) (ml_lt (lab_lt _ _))
theorem mo_cnt (n : Nat) : cnt (mo n) = cnt n := by
  obtain ⟨a, b, c, d⟩ := mo_lab n
  unfold cnt
  rw [a, b, c, d]
  simp only [ml_0]
theorem mo_wf {n : Nat} (h : nwf n) : nwf (mo n) := by
  obtain ⟨a, b, c, d⟩ := mo_lab n
  refine ⟨mo_lt60 n, ?_, ?_, ?_⟩
  · rw [a, b, ml_0, ml_0]; exact h.2.1
  · rw [b, c, ml_0, ml_0]; exact h.2.2.1
  · rw [c, d, ml_0, ml_0]; exact h.2.2.2
theorem n4_ltI {a b c d x y z t : Nat} (hb : b < 32768) (hc : c < 32768) (hd : d < 32768) (hy : y < 32768) (hz : z < 32768) (ht : t < 32768) : n4 a b c d < n4 x y z t ↔ (a < x ∨ a = x ∧ (b < y ∨ b = y ∧ (c < z ∨ c = z ∧ d < t))) := by
  unfold n4
  omega
theorem mo_ltI {a b : Nat} (ha : vn a) (hb : vn b) : mo a < mo b ↔ a < b := by
  have e1 := n4_lab ha.lt
  have e2 := n4_lab hb.lt
  rw [show (a < b) = (n4 (lab a 0) (lab a 1) (lab a 2) (lab a 3) < n4 (lab b 0) (lab b 1) (lab b 2) (lab b 3)) by rw [e1, e2]]
  unfold mo
  rw [n4_ltI (ml_lt (lab_lt _ _)) (ml_lt (lab_lt _ _)) (ml_lt (lab_lt _ _)) (ml_lt (lab_lt _ _)) (ml_lt (lab_lt _ _)) (ml_lt (lab_lt _ _)), n4_ltI (lab_lt _ _) (lab_lt _ _) (lab_lt _ _) (lab_lt _ _) (lab_lt _ _) (lab_lt _ _)]
  rw [ml_ltI ha.2.1 hb.2.1, ml_ltI ha.2.2.1 hb.2.2.1, ml_ltI ha.2.2.2.1 hb.2.2.2.1, ml_ltI ha.2.2.2.2 hb.2.2.2.2, ml_inj ha.2.1 hb.2.1, ml_inj ha.2.2.1 hb.2.2.1, ml_inj ha.2.2.2.1 hb.2.2.2.1]
theorem mo_inj {a b : Nat} (ha : vn a) (hb : vn b) : mo a = mo b ↔ a = b := by
  constructor
  · intro h
    rcases Nat.lt_trichotomy a b with z | z | z
    · have := (mo_ltI ha hb).mpr z; omega
    · exact z
    · have := (mo_ltI hb ha).mpr z; omega
  · intro h; rw [h]
theorem mo_leI {a b : Nat} (ha : vn a) (hb : vn b) : mo a ≤ mo b ↔ a ≤ b := by
  have := mo_ltI hb ha
  omega
/-! branches over names, the reference's side -/
theorem pm_eq {x y : Int64} {A B : Prop} (a b : Nat) (f : a = b → A) (g : a ≠ b → B) (hx : x = lN (mo a)) (hy : y = lN (mo b)) (ha : vn a) (hb : vn b) : (lg_cmp x y = 0 → A) ∧ (¬ lg_cmp x y = 0 → B) :=
  pl_eq (mo a) (mo b) (fun h => f ((mo_inj ha hb).mp h)) (fun h => g (fun z => h (by rw [z]))) hx hy (mo_lt60 a) (mo_lt60 b)
theorem pm_ne {x y : Int64} {A B : Prop} (a b : Nat) (f : a ≠ b → A) (g : a = b → B) (hx : x = lN (mo a)) (hy : y = lN (mo b)) (ha : vn a) (hb : vn b) : (¬ lg_cmp x y = 0 → A) ∧ (lg_cmp x y = 0 → B) := by
  have h := pm_eq (A := B) (B := A) a b g f hx hy ha hb
  exact ⟨h.2, h.1⟩
theorem pm_lt {x y : Int64} {A B : Prop} (a b : Nat) (f : a < b → A) (g : b ≤ a → B) (hx : x = lN (mo a)) (hy : y = lN (mo b)) (ha : vn a) (hb : vn b) : (lg_cmp x y < 0 → A) ∧ (¬ lg_cmp x y < 0 → B) :=
  pl_lt (mo a) (mo b) (fun h => f ((mo_ltI ha hb).mp h)) (fun h => g ((mo_leI hb ha).mp h)) hx hy (mo_lt60 a) (mo_lt60 b)
theorem pm_gt {x y : Int64} {A B : Prop} (a b : Nat) (f : b < a → A) (g : a ≤ b → B) (hx : x = lN (mo a)) (hy : y = lN (mo b)) (ha : vn a) (hb : vn b) : (0 < lg_cmp x y → A) ∧ (¬ 0 < lg_cmp x y → B) :=
  pl_gt (mo a) (mo b) (fun h => f ((mo_ltI hb ha).mp h)) (fun h => g ((mo_leI ha hb).mp h)) hx hy (mo_lt60 a) (mo_lt60 b)
theorem pm_ge {x y : Int64} {A B : Prop} (a b : Nat) (f : b ≤ a → A) (g : a < b → B) (hx : x = lN (mo a)) (hy : y = lN (mo b)) (ha : vn a) (hb : vn b) : (0 ≤ lg_cmp x y → A) ∧ (¬ 0 ≤ lg_cmp x y → B) :=
  pl_ge (mo a) (mo b) (fun h => f ((mo_leI hb ha).mp h)) (fun h => g ((mo_ltI ha hb).mp h)) hx hy (mo_lt60 a) (mo_lt60 b)
theorem pm_le {x y : Int64} {A B : Prop} (a b : Nat) (f : a ≤ b → A) (g : b < a → B) (hx : x = lN (mo a)) (hy : y = lN (mo b)) (ha : vn a) (hb : vn b) : (lg_cmp x y ≤ 0 → A) ∧ (¬ lg_cmp x y ≤ 0 → B) :=
  pl_le (mo a) (mo b) (fun h => f ((mo_leI ha hb).mp h)) (fun h => g ((mo_ltI hb ha).mp h)) hx hy (mo_lt60 a) (mo_lt60 b)
theorem lab_fst {n i k : Nat} (hn : n < 2 ^ 60) (hi : i < 4) (hk : k ≤ 4) : lab (nfst n k) i = if i < k then lab n i else 0 := by
  unfold lab nfst
  match k, hk with
  | 0, _ =>
    match i, hi with
    | 0, _ => simp only [Nat.reduceSub, Nat.reduceMul, Nat.reducePow]; split <;> omega
    | 1, _ => simp only [Nat.reduceSub, Nat.reduceMul, Nat.reducePow]; split <;> omega
    | 2, _ => simp only [Nat.reduceSub, Nat.reduceMul, Nat.reducePow]; split <;> omega
    | 3, _ => simp only [Nat.reduceSub, Nat.reduceMul, Nat.reducePow]; split <;> omega
    | i + 4, h => exact absurd h (by omega)
  | 1, _ =>
    match i, hi with
    | 0, _ => simp only [Nat.reduceSub, Nat.reduceMul, Nat.reducePow]; split <;> omega
    | 1, _ => simp only [Nat.reduceSub, Nat.reduceMul, Nat.reducePow]; split <;> omega
    | 2, _ => simp only [Nat.reduceSub, Nat.reduceMul, Nat.reducePow]; split <;> omega
    | 3, _ => simp only [Nat.reduceSub, Nat.reduceMul, Nat.reducePow]; split <;> omega
    | i + 4, h => exact absurd h (by omega)
  | 2, _ =>
    match i, hi with
    | 0, _ => simp only [Nat.reduceSub, Nat.reduceMul, Nat.reducePow]; split <;> omega
    | 1, _ => simp only [Nat.reduceSub, Nat.reduceMul, Nat.reducePow]; split <;> omega
    | 2, _ => simp only [Nat.reduceSub, Nat.reduceMul, Nat.reducePow]; split <;> omega
    | 3, _ => simp only [Nat.reduceSub, Nat.reduceMul, Nat.reducePow]; split <;> omega
    | i + 4, h => exact absurd h (by omega)
  | 3, _ =>
    match i, hi with
    | 0, _ => simp only [Nat.reduceSub, Nat.reduceMul, Nat.reducePow]; split <;> omega
    | 1, _ => simp only [Nat.reduceSub, Nat.reduceMul, Nat.reducePow]; split <;> omega
    | 2, _ => simp only [Nat.reduceSub, Nat.reduceMul, Nat.reducePow]; split <;> omega
    | 3, _ => simp only [Nat.reduceSub, Nat.reduceMul, Nat.reducePow]; split <;> omega
    | i + 4, h => exact absurd h (by omega)
  | 4, _ =>
    rw [if_pos hi]
    simp
  | k + 5, h => exact absurd h (by omega)
theorem name_ext {a b : Nat} (ha : a < 2 ^ 60) (hb : b < 2 ^ 60) (h : ∀ i, i < 4 → lab a i = lab b i) : a = b := by
  rw [← n4_lab ha, ← n4_lab hb, h 0 (by omega), h 1 (by omega), h 2 (by omega), h 3 (by omega)]
theorem nfst_lt {n : Nat} (hn : n < 2 ^ 60) (k : Nat) : nfst n k < 2 ^ 60 := Nat.lt_of_le_of_lt (nfst_le n k) hn
theorem mo_fst {n k : Nat} (hn : n < 2 ^ 60) (hk : k ≤ 4) : mo (nfst n k) = nfst (mo n) k := by
  refine name_ext (mo_lt60 _) (nfst_lt (mo_lt60 _) k) (fun i hi => ?_)
  rw [mo_labk _ hi, lab_fst hn hi hk, lab_fst (mo_lt60 n) hi hk, mo_labk _ hi]
  split
  · rfl
  · rfl
theorem vn_labk {n k : Nat} (h : vn n) (hk : k < 4) : vl (lab n k) := by
  obtain ⟨-, a, b, c, d⟩ := h
  match k, hk with
  | 0, _ => exact a
  | 1, _ => exact b
  | 2, _ => exact c
  | 3, _ => exact d
  | k + 4, h => exact absurd h (by omega)
theorem vn_of {n : Nat} (h : nwf n) (h2 : ∀ k, k < 4 → vl (lab n k)) : vn n := ⟨h, h2 0 (by omega), h2 1 (by omega), h2 2 (by omega), h2 3 (by omega)⟩
theorem nwf_of {n : Nat} (h : n < 2 ^ 60) {c : Nat} (h2 : ∀ k, k < 4 → (lab n k = 0 ↔ c ≤ k)) : nwf n := by
  refine ⟨h, ?_, ?_, ?_⟩
  · rw [h2 0 (by omega), h2 1 (by omega)]; omega
  · rw [h2 1 (by omega), h2 2 (by omega)]; omega
  · rw [h2 2 (by omega), h2 3 (by omega)]; omega
theorem lab_cnt {n : Nat} (h : nwf n) {k : Nat} (hk : k < 4) : lab n k = 0 ↔ cnt n ≤ k := by
  obtain ⟨a, b⟩ := cnt_lab h
  constructor
  · intro z
    rcases Nat.lt_or_ge k (cnt n) with t | t
    · exact absurd z (a k t)
    · exact t
  · intro z; exact b k z hk
theorem cnt_of {n c : Nat} (hc : c ≤ 4) (h2 : ∀ k, k < 4 → (lab n k = 0 ↔ c ≤ k)) : cnt n = c := cnt_eq hc (fun i hi => fun z => absurd ((h2 i (by omega)).mp z) (by omega)) (fun h => (h2 c h).mpr (Nat.le_refl _))
theorem lab_fst0 {n k : Nat} (h : nwf n) (hk : k ≤ 4) : ∀ i, i < 4 → (lab (nfst n k) i = 0 ↔ min k (cnt n) ≤ i) := by
  intro i hi
  rw [lab_fst h.1 hi hk]
  split
  · rw [lab_cnt h hi]; omega
  · exact ⟨fun _ => by omega, fun _ => rfl⟩
theorem nfst_wf {n k : Nat} (h : nwf n) (hk : k ≤ 4) : nwf (nfst n k) := nwf_of (nfst_lt h.1 k) (lab_fst0 h hk)
theorem nfst_cnt {n k : Nat} (h : nwf n) (hk : k ≤ 4) : cnt (nfst n k) = min k (cnt n) := cnt_of (by have := cnt_le n; omega) (lab_fst0 h hk)
theorem vn_fst {n k : Nat} (h : vn n) (hk : k ≤ 4) : vn (nfst n k) := vn_of (nfst_wf h.1 hk) (fun i hi => by
  rw [lab_fst h.lt hi hk]
  split
  · exact vn_labk h hi
  · exact Or.inl (by omega))
theorem nfst_fst {n a b : Nat} (hn : n < 2 ^ 60) (ha : a ≤ 4) (hb : b ≤ 4) : nfst (nfst n a) b = nfst n (min a b) := by
  refine name_ext (nfst_lt (nfst_lt hn _) _) (nfst_lt hn _) (fun i hi => ?_)
  rw [lab_fst (nfst_lt hn _) hi hb, lab_fst hn hi ha, lab_fst hn hi (by omega)]
  by_cases h1 : i < b <;> by_cases h2 : i < a
  · rw [if_pos h1, if_pos h2, if_pos (by omega)]
  · rw [if_pos h1, if_neg h2, if_neg (by omega)]
  · rw [if_neg h1, if_neg (by omega)]
  · rw [if_neg h1, if_neg (by omega)]
theorem nfst_self {n k : Nat} (h : nwf n) (hk : cnt n ≤ k) (hk4 : k ≤ 4) : nfst n k = n := by
  refine name_ext (nfst_lt h.1 _) h.1 (fun i hi => ?_)
  rw [lab_fst h.1 hi hk4]
  split
  · rfl
  · exact ((lab_cnt h hi).mpr (by omega)).symm
theorem lab_lon {n x i : Nat} (h : nwf n) (hc : cnt n < 4) (hx : x < 32768) (hi : i < 4) : lab (nlon n x) i = if i = cnt n then x else lab n i := by
  have hs := lab_sum h.1
  have h0 := lab_lt n 0
  have h1 := lab_lt n 1
  have h2 := lab_lt n 2
  have h3 := lab_lt n 3
  have hz := (cnt_lab h).2
  have key : ∀ a b c d : Nat, a < 32768 → b < 32768 → c < 32768 → d < 32768 → nlon n x = n4 a b c d → lab (nlon n x) i = if i = 0 then a else if i = 1 then b else if i = 2 then c else d := by
    intro a b c d ha hb hc hd e
    rw [e]
    obtain ⟨q0, q1, q2, q3⟩ := lab_n4 ha hb hc hd
    match i, hi with
    | 0, _ => exact q0
    | 1, _ => exact q1
    | 2, _ => exact q2
    | 3, _ => exact q3
    | i + 4, h => exact absurd h (by omega)
  have hcase : cnt n = 0 ∨ cnt n = 1 ∨ cnt n = 2 ∨ cnt n = 3 := by omega
  rcases hcase with e | e | e | e
  · have e0 := hz 0 (by omega) (by omega)
    rw [key x (lab n 1) (lab n 2) (lab n 3) hx h1 h2 h3 (by unfold nlon n4; rw [e]; simp only [Nat.reduceSub, Nat.reduceMul, Nat.reducePow]; omega), e]
    match i, hi with
    | 0, _ => rfl
    | 1, _ => rfl
    | 2, _ => rfl
    | 3, _ => rfl
    | i + 4, h => exact absurd h (by omega)
  · have e0 := hz 1 (by omega) (by omega)
    rw [key (lab n 0) x (lab n 2) (lab n 3) h0 hx h2 h3 (by unfold nlon n4; rw [e]; simp only [Nat.reduceSub, Nat.reduceMul, Nat.reducePow]; omega), e]
    match i, hi with
    | 0, _ => rfl
    | 1, _ => rfl
    | 2, _ => rfl
    | 3, _ => rfl
    | i + 4, h => exact absurd h (by omega)
  · have e0 := hz 2 (by omega) (by omega)
    rw [key (lab n 0) (lab n 1) x (lab n 3) h0 h1 hx h3 (by unfold nlon n4; rw [e]; simp only [Nat.reduceSub, Nat.reduceMul, Nat.reducePow]; omega), e]
    match i, hi with
    | 0, _ => rfl
    | 1, _ => rfl
    | 2, _ => rfl
    | 3, _ => rfl
    | i + 4, h => exact absurd h (by omega)
  · have e0 := hz 3 (by omega) (by omega)
    rw [key (lab n 0) (lab n 1) (lab n 2) x h0 h1 h2 hx (by unfold nlon n4; rw [e]; simp only [Nat.reduceSub, Nat.reduceMul, Nat.reducePow]; omega), e]
    match i, hi with
    | 0, _ => rfl
    | 1, _ => rfl
    | 2, _ => rfl
    | 3, _ => rfl
    | i + 4, h => exact absurd h (by omega)
theorem mo_lon {n x : Nat} (h : nwf n) (hc : cnt n < 4) (hx : x < 32768) : mo (nlon n x) = nlon (mo n) (ml x) := by
  refine name_ext (mo_lt60 _) (nlon_lt (mo_wf h) (by rw [mo_cnt]; exact hc) (ml_lt hx)) (fun i hi => ?_)
  rw [mo_labk _ hi, lab_lon h hc hx hi, lab_lon (mo_wf h) (by rw [mo_cnt]; exact hc) (ml_lt hx) hi, mo_cnt, mo_labk _ hi]
  split <;> rfl
theorem lab_lon0 {n x : Nat} (h : nwf n) (hc : cnt n < 4) (hx : x < 32768) (h0 : x ≠ 0) : ∀ i, i < 4 → (lab (nlon n x) i = 0 ↔ cnt n + 1 ≤ i) := by
  intro i hi
  rw [lab_lon h hc hx hi]
  split
  · omega
  · rw [lab_cnt h hi]; omega
theorem nlon_wf {n x : Nat} (h : nwf n) (hc : cnt n < 4) (hx : x < 32768) (h0 : x ≠ 0) : nwf (nlon n x) := nwf_of (nlon_lt h hc hx) (lab_lon0 h hc hx h0)
theorem nlon_cnt {n x : Nat} (h : nwf n) (hc : cnt n < 4) (hx : x < 32768) (h0 : x ≠ 0) : cnt (nlon n x) = cnt n + 1 := cnt_of (by omega) (lab_lon0 h hc hx h0)
theorem vn_lon {n x : Nat} (h : vn n) (hc : cnt n < 4) (hx : vl x) (h0 : x ≠ 0) : vn (nlon n x) := vn_of (nlon_wf h.1 hc (vl_lt hx) h0) (fun i hi => by
  rw [lab_lon h.1 hc (vl_lt hx) hi]
  split
  · exact hx
  · exact vn_labk h hi)
theorem vn_0 : vn 0 := by
  refine vn_of ⟨by decide, by decide, by decide, by decide⟩ (fun k hk => Or.inl ?_)
  unfold lab
  rw [Nat.zero_div]
  decide
theorem cnt_0 : cnt 0 = 0 := by decide
