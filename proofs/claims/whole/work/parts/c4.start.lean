/-! the state behind the constructors -/
def P0 (k : Nat) : Nat := if k < 10 then 147 + 2 * k else 147
def s0 : zS := newS (fun _ => 0) D0
theorem z4 {p : Nat → Prop} (h0 : p 0) (h1 : p 1) (h2 : p 2) (h3 : p 3) : ∀ z, z < 4 → p z := fun z hz => by
  have hc : z = 0 ∨ z = 1 ∨ z = 2 ∨ z = 3 := by omega
  rcases hc with rfl | rfl | rfl | rfl <;> assumption
theorem z1 {p : Nat → Prop} (h0 : p 0) : ∀ z, z < 1 → p z := fun z hz => by
  obtain rfl : z = 0 := by omega
  exact h0
theorem lit_0 : ∀ k, k < 16 → lkI zmi76 186 k = nI ([122, 111, 110, 101, 112, 108, 97, 105, 110, 114, 101, 99, 115, 112, 97, 110].getD k 0) := by decide +kernel
theorem st_v {b : Nat → Nat → Int32} (hb : ∀ m, m < 1000 → b m = fun _ => 0) {a k : Nat} {v : Int32} (ha : a < 1000) (h : lkI zmi76 a k = v) : denI b zmi76 a k = v := (denI_l (hb a ha)).trans h
theorem RC_0 {b : Nat → Nat → Int32} (hb : ∀ m, m < 1000 → b m = fun _ => 0) (hP : pP P0) : RC s0 (denI b zmi76) (denJ zmj77) P0 := by
  have e := @st_v b hb
  refine RC_new (D := D0) hP (e (by decide) (by decide +kernel)) (e (by decide) (by decide +kernel)) ⟨⟨e (by decide) (by decide +kernel), z1 (by decide +kernel), z1 (e (by decide) (by decide +kernel)), z1 (e (by decide) (by decide +kernel)), z4 (Or.inr (e (by decide) (by decide +kernel))) (Or.inl (e (by decide) (by decide +kernel))) (Or.inl (e (by decide) (by decide +kernel))) (Or.inl (e (by decide) (by decide +kernel)))⟩, e (by decide) (by decide +kernel), z1 (e (by decide) (by decide +kernel))⟩ ⟨e (by decide) (by decide +kernel), fun i hi => absurd hi (Nat.not_lt_zero i)⟩ (by decide +kernel) ⟨e (by decide) (by decide +kernel), e (by decide) (by decide +kernel), e (by decide) (by decide +kernel), e (by decide) (by decide +kernel), e (by decide) (by decide +kernel), e (by decide) (by decide +kernel)⟩ (z4 ?_ ?_ ?_ ?_) (z4 ?_ (Or.inl (e (by decide) (by decide +kernel))) (Or.inl (e (by decide) (by decide +kernel))) (Or.inl (e (by decide) (by decide +kernel))))
  · exact ⟨⟨e (by decide) (by decide +kernel), ⟨e (by decide) (by decide +kernel), e (by decide) (by decide +kernel), e (by decide) (by decide +kernel)⟩, e (by decide) (by decide +kernel), e (by decide) (by decide +kernel), e (by decide) (by decide +kernel)⟩, ⟨e (by decide) (by decide +kernel), ⟨e (by decide) (by decide +kernel), e (by decide) (by decide +kernel), e (by decide) (by decide +kernel)⟩, e (by decide) (by decide +kernel), e (by decide) (by decide +kernel), e (by decide) (by decide +kernel)⟩, e (by decide) (by decide +kernel)⟩
  · exact ⟨⟨e (by decide) (by decide +kernel), ⟨e (by decide) (by decide +kernel), e (by decide) (by decide +kernel), e (by decide) (by decide +kernel)⟩, e (by decide) (by decide +kernel), e (by decide) (by decide +kernel), e (by decide) (by decide +kernel)⟩, ⟨e (by decide) (by decide +kernel), ⟨e (by decide) (by decide +kernel), e (by decide) (by decide +kernel), e (by decide) (by decide +kernel)⟩, e (by decide) (by decide +kernel), e (by decide) (by decide +kernel), e (by decide) (by decide +kernel)⟩, e (by decide) (by decide +kernel)⟩
  · exact ⟨⟨e (by decide) (by decide +kernel), ⟨e (by decide) (by decide +kernel), e (by decide) (by decide +kernel), e (by decide) (by decide +kernel)⟩, e (by decide) (by decide +kernel), e (by decide) (by decide +kernel), e (by decide) (by decide +kernel)⟩, ⟨e (by decide) (by decide +kernel), ⟨e (by decide) (by decide +kernel), e (by decide) (by decide +kernel), e (by decide) (by decide +kernel)⟩, e (by decide) (by decide +kernel), e (by decide) (by decide +kernel), e (by decide) (by decide +kernel)⟩, e (by decide) (by decide +kernel)⟩
  · exact ⟨⟨e (by decide) (by decide +kernel), ⟨e (by decide) (by decide +kernel), e (by decide) (by decide +kernel), e (by decide) (by decide +kernel)⟩, e (by decide) (by decide +kernel), e (by decide) (by decide +kernel), e (by decide) (by decide +kernel)⟩, ⟨e (by decide) (by decide +kernel), ⟨e (by decide) (by decide +kernel), e (by decide) (by decide +kernel), e (by decide) (by decide +kernel)⟩, e (by decide) (by decide +kernel), e (by decide) (by decide +kernel), e (by decide) (by decide +kernel)⟩, e (by decide) (by decide +kernel)⟩
  · first | exact Or.inr (e (by decide) (by decide +kernel)) | exact Or.inl (e (by decide) (by decide +kernel))
theorem RM_0 {b : Nat → Nat → Int32} (hb : ∀ m, m < 1000 → b m = fun _ => 0) : RM s0 (denI b zmi76) (denJ zmj77) := by
  have e := @st_v b hb
  refine RM_new (D := D0) (e (by decide) (by decide +kernel)) (e (by decide) (by decide +kernel)) ⟨e (by decide) (by decide +kernel), z1 (by decide +kernel), z1 (e (by decide) (by decide +kernel)), z4 (Or.inr (e (by decide) (by decide +kernel))) (Or.inl (e (by decide) (by decide +kernel))) (Or.inl (e (by decide) (by decide +kernel))) (Or.inl (e (by decide) (by decide +kernel)))⟩ (e (by decide) (by decide +kernel)) ⟨e (by decide) (by decide +kernel), fun i hi => absurd hi (Nat.not_lt_zero i)⟩ (z4 ?_ ?_ ?_ ?_) ⟨e (by decide) (by decide +kernel), e (by decide) (by decide +kernel), e (by decide) (by decide +kernel), e (by decide) (by decide +kernel), e (by decide) (by decide +kernel), e (by decide) (by decide +kernel), by decide +kernel⟩ (z4 (Or.inl (e (by decide) (by decide +kernel))) (Or.inl (e (by decide) (by decide +kernel))) (Or.inl (e (by decide) (by decide +kernel))) (Or.inl (e (by decide) (by decide +kernel)))) ⟨⟨e (by decide) (by decide +kernel), e (by decide) (by decide +kernel), e (by decide) (by decide +kernel), e (by decide) (by decide +kernel), e (by decide) (by decide +kernel)⟩, fun k hk => e (by decide) (lit_0 k hk)⟩ D0_ok
  · exact ⟨e (by decide) (by decide +kernel), e (by decide) (by decide +kernel), e (by decide) (by decide +kernel), fun _ => ⟨e (by decide) (by decide +kernel), e (by decide) (by decide +kernel), e (by decide) (by decide +kernel), e (by decide) (by decide +kernel)⟩⟩
  · exact ⟨e (by decide) (by decide +kernel), e (by decide) (by decide +kernel), e (by decide) (by decide +kernel), fun c => absurd c.1 (by decide)⟩
  · exact ⟨e (by decide) (by decide +kernel), e (by decide) (by decide +kernel), e (by decide) (by decide +kernel), fun c => absurd c.1 (by decide)⟩
  · exact ⟨e (by decide) (by decide +kernel), e (by decide) (by decide +kernel), e (by decide) (by decide +kernel), fun c => absurd c.1 (by decide)⟩
theorem pP_0 : pP P0 := ⟨fun k => k, fun k hk => ⟨hk, if_pos hk⟩, fun _ _ _ _ h => h⟩
def rowR (a : Nat) : List (Option Nat) := (LRR.getD (a / 32) []).getD (a % 32) []
theorem lr_bd : zmr53.all (fun e => Nat.ble (e.2.1 + 1) (rowR e.1).length) = true := by decide +kernel
theorem lkR_o {l : List (Nat × Nat × Option Nat)} {a k : Nat} (h : l.all (fun e => Nat.ble (e.2.1 + 1) (rowR e.1).length) = true) (g : (rowR a).length ≤ k) : lkR l a k = none := by
  induction l with
  | nil => rfl
  | cons e l ih =>
    rw [List.all_cons, Bool.and_eq_true] at h
    have h1 := Nat.le_of_ble_eq_true h.1
    show cond (Nat.beq a e.1 && Nat.beq k e.2.1) e.2.2 (lkR l a k) = none
    rw [show (Nat.beq a e.1 && Nat.beq k e.2.1) = false from ?_]
    · exact ih h.2
    · rw [beq_d, beq_d]
      by_cases c : a = e.1
      · rw [decide_eq_false (show ¬ k = e.2.1 from fun q => by rw [c] at g; omega), Bool.and_false]
      · rw [decide_eq_false c, Bool.false_and]
theorem LR_in0 : (List.range 213).all (fun a => (List.range (rowR a).length).all (fun k => decide (lkR zmr53 a k = LR a k))) = true := by decide +kernel
theorem LR_in {a k : Nat} (ha : a < 213) (hk : k < (rowR a).length) : lkR zmr53 a k = LR a k := of_decide_eq_true (List.all_eq_true.mp (List.all_eq_true.mp LR_in0 a (List.mem_range.mpr ha)) k (List.mem_range.mpr hk))
theorem row_o {a : Nat} (ha : 213 ≤ a) : rowR a = [] := by
  unfold rowR
  by_cases c : 224 ≤ a
  · rw [show LRR.getD (a / 32) [] = [] from by rw [List.getD_eq_getElem?_getD, List.getElem?_eq_none (by show 7 ≤ a / 32; omega)]; rfl]; rfl
  · have hc : a = 213 ∨ a = 214 ∨ a = 215 ∨ a = 216 ∨ a = 217 ∨ a = 218 ∨ a = 219 ∨ a = 220 ∨ a = 221 ∨ a = 222 ∨ a = 223 := by omega
    rcases hc with rfl | rfl | rfl | rfl | rfl | rfl | rfl | rfl | rfl | rfl | rfl <;> rfl
theorem LR_all {a k : Nat} : lkR zmr53 a k = LR a k := by
  by_cases c : k < (rowR a).length
  · by_cases ha : a < 213
    · exact LR_in ha c
    · rw [row_o (by omega)] at c
      exact absurd c (Nat.not_lt_zero k)
  · rw [lkR_o lr_bd (by omega)]
    show none = (rowR a).getD k none
    rw [List.getD_eq_getElem?_getD, List.getElem?_eq_none (by omega)]; rfl
theorem LR_146 : ∀ k, k < 10 → some (P0 k) = LR 146 k := by decide +kernel
theorem SH_213 : SH = SH.take 213 := by decide +kernel
theorem eqM_0 {b : Nat → Nat → Int32} : eqM (gST (denI b zmi76) (denJ zmj77) P0) (gD b 213 zmi76 zmj77 zmr53) := by
  refine ⟨SH_213, rfl, rfl, fun a k h => ?_⟩
  show gRf P0 a k = denR zmr53 a k
  rw [denR_l, LR_all]
  unfold gRf
  rw [beq_d]
  by_cases e : a = 146
  · subst e
    rcases h with h | h
    · have h : (some 5 : Option Nat) = none := h
      exact absurd h (by decide)
    · exact LR_146 k h
  · rw [decide_eq_false e]
