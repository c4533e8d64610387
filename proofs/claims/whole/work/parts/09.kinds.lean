/-- a field's kind, by number, is that of its descriptor -/
def gkindP (ci k : Nat) : Prop := match g_fk ci k with
  | 0 => parseFieldDescriptor ((g_C ci).2.1 k).2.2.1 = some .int
  | 1 => parseFieldDescriptor ((g_C ci).2.1 k).2.2.1 = some .long
  | 2 => ∃ ty, parseFieldDescriptor ((g_C ci).2.1 k).2.2.1 = some ty ∧ (∀ r, narrow ty (va_rf r) = va_rf r ∧ fits ty (va_rf r) = true) ∧ defaultValue ty = .null
  | 3 => parseFieldDescriptor ((g_C ci).2.1 k).2.2.1 = some .boolean
  | _ => False
theorem gref_ok (n : String) (r : Option Nat) : narrow (.object n) (va_rf r) = va_rf r ∧ fits (.object n) (va_rf r) = true := by cases r <;> exact ⟨rfl, rfl⟩
theorem gref_oka (t : FieldType) (r : Option Nat) : narrow (.array t) (va_rf r) = va_rf r ∧ fits (.array t) (va_rf r) = true := by cases r <;> exact ⟨rfl, rfl⟩
theorem gkind_0 : ∀ k, k < (g_C 0).2.2 → gkindP 0 k
  | 0, _ => ⟨_, tyX0_ok 0 (by decide), gref_oka _, rfl⟩
  | 1, _ => ⟨_, tyX0_ok 1 (by decide), gref_oka _, rfl⟩
  | 2, _ => ⟨_, tyX0_ok 2 (by decide), gref_oka _, rfl⟩
  | 3, _ => ⟨_, tyX0_ok 3 (by decide), gref_oka _, rfl⟩
  | 4, _ => tyX0_ok 4 (by decide)
  | k + 5, h => absurd h (by show ¬ k + 5 < 5; omega)
theorem gkind_1 : ∀ k, k < (g_C 1).2.2 → gkindP 1 k
  | 0, _ => tyX1_ok 0 (by decide)
  | 1, _ => tyX1_ok 1 (by decide)
  | 2, _ => tyX1_ok 2 (by decide)
  | 3, _ => tyX1_ok 3 (by decide)
  | 4, _ => tyX1_ok 4 (by decide)
  | 5, _ => ⟨_, tyX1_ok 5 (by decide), gref_oka _, rfl⟩
  | 6, _ => tyX1_ok 6 (by decide)
  | 7, _ => tyX1_ok 7 (by decide)
  | k + 8, h => absurd h (by show ¬ k + 8 < 8; omega)
theorem gkind_2 : ∀ k, k < (g_C 2).2.2 → gkindP 2 k
  | 0, _ => ⟨_, tyX2_ok 0 (by decide), gref_oka _, rfl⟩
  | 1, _ => ⟨_, tyX2_ok 1 (by decide), gref_oka _, rfl⟩
  | 2, _ => tyX2_ok 2 (by decide)
  | k + 3, h => absurd h (by show ¬ k + 3 < 3; omega)
theorem gkind_3 : ∀ k, k < (g_C 3).2.2 → gkindP 3 k
  | 0, _ => ⟨_, tyX4_ok 0 (by decide), gref_oka _, rfl⟩
  | 1, _ => ⟨_, tyX4_ok 1 (by decide), gref_oka _, rfl⟩
  | 2, _ => tyX4_ok 2 (by decide)
  | 3, _ => ⟨_, tyX4_ok 3 (by decide), gref_ok _, rfl⟩
  | 4, _ => ⟨_, tyX4_ok 4 (by decide), gref_ok _, rfl⟩
  | k + 5, h => absurd h (by show ¬ k + 5 < 5; omega)
theorem gkind_4 : ∀ k, k < (g_C 4).2.2 → gkindP 4 k
  | 0, _ => ⟨_, tyX5_ok 0 (by decide), gref_oka _, rfl⟩
  | 1, _ => tyX5_ok 1 (by decide)
  | 2, _ => tyX5_ok 2 (by decide)
  | 3, _ => tyX5_ok 3 (by decide)
  | 4, _ => tyX5_ok 4 (by decide)
  | 5, _ => tyX5_ok 5 (by decide)
  | 6, _ => tyX5_ok 6 (by decide)
  | 7, _ => ⟨_, tyX5_ok 7 (by decide), gref_ok _, rfl⟩
  | 8, _ => ⟨_, tyX5_ok 8 (by decide), gref_ok _, rfl⟩
  | 9, _ => ⟨_, tyX5_ok 9 (by decide), gref_ok _, rfl⟩
  | k + 10, h => absurd h (by show ¬ k + 10 < 10; omega)
theorem gkind_5 : ∀ k, k < (g_C 5).2.2 → gkindP 5 k
  | 0, _ => ⟨_, tyX6_ok 0 (by decide), gref_oka _, rfl⟩
  | 1, _ => tyX6_ok 1 (by decide)
  | 2, _ => ⟨_, tyX6_ok 2 (by decide), gref_ok _, rfl⟩
  | 3, _ => ⟨_, tyX6_ok 3 (by decide), gref_ok _, rfl⟩
  | 4, _ => tyX6_ok 4 (by decide)
  | 5, _ => tyX6_ok 5 (by decide)
  | 6, _ => tyX6_ok 6 (by decide)
  | 7, _ => tyX6_ok 7 (by decide)
  | 8, _ => tyX6_ok 8 (by decide)
  | 9, _ => tyX6_ok 9 (by decide)
  | 10, _ => tyX6_ok 10 (by decide)
  | k + 11, h => absurd h (by show ¬ k + 11 < 11; omega)
theorem gkind_6 : ∀ k, k < (g_C 6).2.2 → gkindP 6 k
  | 0, _ => ⟨_, tyX7_ok 0 (by decide), gref_oka _, rfl⟩
  | 1, _ => ⟨_, tyX7_ok 1 (by decide), gref_oka _, rfl⟩
  | 2, _ => ⟨_, tyX7_ok 2 (by decide), gref_oka _, rfl⟩
  | 3, _ => tyX7_ok 3 (by decide)
  | k + 4, h => absurd h (by show ¬ k + 4 < 4; omega)
theorem gkind_7 : ∀ k, k < (g_C 7).2.2 → gkindP 7 k
  | 0, _ => ⟨_, tyX8_ok 0 (by decide), gref_oka _, rfl⟩
  | 1, _ => ⟨_, tyX8_ok 1 (by decide), gref_oka _, rfl⟩
  | 2, _ => ⟨_, tyX8_ok 2 (by decide), gref_oka _, rfl⟩
  | 3, _ => ⟨_, tyX8_ok 3 (by decide), gref_oka _, rfl⟩
  | 4, _ => tyX8_ok 4 (by decide)
  | 5, _ => tyX8_ok 5 (by decide)
  | k + 6, h => absurd h (by show ¬ k + 6 < 6; omega)
theorem gkind_8 : ∀ k, k < (g_C 8).2.2 → gkindP 8 k
  | 0, _ => tyX9_ok 0 (by decide)
  | 1, _ => tyX9_ok 1 (by decide)
  | 2, _ => tyX9_ok 2 (by decide)
  | 3, _ => tyX9_ok 3 (by decide)
  | 4, _ => ⟨_, tyX9_ok 4 (by decide), gref_ok _, rfl⟩
  | 5, _ => ⟨_, tyX9_ok 5 (by decide), gref_ok _, rfl⟩
  | 6, _ => ⟨_, tyX9_ok 6 (by decide), gref_ok _, rfl⟩
  | 7, _ => ⟨_, tyX9_ok 7 (by decide), gref_oka _, rfl⟩
  | 8, _ => ⟨_, tyX9_ok 8 (by decide), gref_oka _, rfl⟩
  | 9, _ => ⟨_, tyX9_ok 9 (by decide), gref_oka _, rfl⟩
  | k + 10, h => absurd h (by show ¬ k + 10 < 10; omega)
theorem gkind_9 : ∀ k, k < (g_C 9).2.2 → gkindP 9 k
  | 0, _ => ⟨_, tyX10_ok 0 (by decide), gref_ok _, rfl⟩
  | 1, _ => ⟨_, tyX10_ok 1 (by decide), gref_oka _, rfl⟩
  | 2, _ => ⟨_, tyX10_ok 2 (by decide), gref_oka _, rfl⟩
  | 3, _ => ⟨_, tyX10_ok 3 (by decide), gref_oka _, rfl⟩
  | 4, _ => ⟨_, tyX10_ok 4 (by decide), gref_ok _, rfl⟩
  | 5, _ => tyX10_ok 5 (by decide)
  | k + 6, h => absurd h (by show ¬ k + 6 < 6; omega)
theorem gkind_10 : ∀ k, k < (g_C 10).2.2 → gkindP 10 k
  | 0, _ => ⟨_, tyX11_ok 0 (by decide), gref_ok _, rfl⟩
  | 1, _ => ⟨_, tyX11_ok 1 (by decide), gref_ok _, rfl⟩
  | 2, _ => ⟨_, tyX11_ok 2 (by decide), gref_ok _, rfl⟩
  | 3, _ => ⟨_, tyX11_ok 3 (by decide), gref_oka _, rfl⟩
  | 4, _ => ⟨_, tyX11_ok 4 (by decide), gref_oka _, rfl⟩
  | 5, _ => ⟨_, tyX11_ok 5 (by decide), gref_ok _, rfl⟩
  | 6, _ => ⟨_, tyX11_ok 6 (by decide), gref_ok _, rfl⟩
  | 7, _ => ⟨_, tyX11_ok 7 (by decide), gref_ok _, rfl⟩
  | 8, _ => tyX11_ok 8 (by decide)
  | k + 9, h => absurd h (by show ¬ k + 9 < 9; omega)
theorem gkind_11 : ∀ k, k < (g_C 11).2.2 → gkindP 11 k
  | 0, _ => ⟨_, tyX12_ok 0 (by decide), gref_oka _, rfl⟩
  | 1, _ => ⟨_, tyX12_ok 1 (by decide), gref_oka _, rfl⟩
  | 2, _ => tyX12_ok 2 (by decide)
  | 3, _ => tyX12_ok 3 (by decide)
  | 4, _ => ⟨_, tyX12_ok 4 (by decide), gref_oka _, rfl⟩
  | 5, _ => ⟨_, tyX12_ok 5 (by decide), gref_oka _, rfl⟩
  | 6, _ => ⟨_, tyX12_ok 6 (by decide), gref_oka _, rfl⟩
  | 7, _ => tyX12_ok 7 (by decide)
  | 8, _ => ⟨_, tyX12_ok 8 (by decide), gref_oka _, rfl⟩
  | 9, _ => ⟨_, tyX12_ok 9 (by decide), gref_oka _, rfl⟩
  | 10, _ => ⟨_, tyX12_ok 10 (by decide), gref_oka _, rfl⟩
  | 11, _ => ⟨_, tyX12_ok 11 (by decide), gref_oka _, rfl⟩
  | 12, _ => ⟨_, tyX12_ok 12 (by decide), gref_oka _, rfl⟩
  | 13, _ => ⟨_, tyX12_ok 13 (by decide), gref_oka _, rfl⟩
  | 14, _ => ⟨_, tyX12_ok 14 (by decide), gref_oka _, rfl⟩
  | 15, _ => tyX12_ok 15 (by decide)
  | 16, _ => tyX12_ok 16 (by decide)
  | 17, _ => ⟨_, tyX12_ok 17 (by decide), gref_oka _, rfl⟩
  | 18, _ => tyX12_ok 18 (by decide)
  | 19, _ => tyX12_ok 19 (by decide)
  | 20, _ => tyX12_ok 20 (by decide)
  | 21, _ => tyX12_ok 21 (by decide)
  | 22, _ => tyX12_ok 22 (by decide)
  | 23, _ => tyX12_ok 23 (by decide)
  | 24, _ => tyX12_ok 24 (by decide)
  | 25, _ => ⟨_, tyX12_ok 25 (by decide), gref_oka _, rfl⟩
  | 26, _ => ⟨_, tyX12_ok 26 (by decide), gref_oka _, rfl⟩
  | 27, _ => ⟨_, tyX12_ok 27 (by decide), gref_oka _, rfl⟩
  | 28, _ => ⟨_, tyX12_ok 28 (by decide), gref_oka _, rfl⟩
  | 29, _ => tyX12_ok 29 (by decide)
  | 30, _ => ⟨_, tyX12_ok 30 (by decide), gref_oka _, rfl⟩
  | 31, _ => ⟨_, tyX12_ok 31 (by decide), gref_oka _, rfl⟩
  | 32, _ => ⟨_, tyX12_ok 32 (by decide), gref_oka _, rfl⟩
  | 33, _ => tyX12_ok 33 (by decide)
  | 34, _ => tyX12_ok 34 (by decide)
  | 35, _ => tyX12_ok 35 (by decide)
  | 36, _ => ⟨_, tyX12_ok 36 (by decide), gref_oka _, rfl⟩
  | 37, _ => ⟨_, tyX12_ok 37 (by decide), gref_oka _, rfl⟩
  | 38, _ => ⟨_, tyX12_ok 38 (by decide), gref_oka _, rfl⟩
  | 39, _ => ⟨_, tyX12_ok 39 (by decide), gref_oka _, rfl⟩
  | 40, _ => ⟨_, tyX12_ok 40 (by decide), gref_oka _, rfl⟩
  | 41, _ => ⟨_, tyX12_ok 41 (by decide), gref_oka _, rfl⟩
  | 42, _ => ⟨_, tyX12_ok 42 (by decide), gref_oka _, rfl⟩
  | 43, _ => ⟨_, tyX12_ok 43 (by decide), gref_oka _, rfl⟩
  | 44, _ => ⟨_, tyX12_ok 44 (by decide), gref_oka _, rfl⟩
  | 45, _ => tyX12_ok 45 (by decide)
  | 46, _ => tyX12_ok 46 (by decide)
  | 47, _ => tyX12_ok 47 (by decide)
  | 48, _ => tyX12_ok 48 (by decide)
  | 49, _ => tyX12_ok 49 (by decide)
  | 50, _ => ⟨_, tyX12_ok 50 (by decide), gref_oka _, rfl⟩
  | 51, _ => tyX12_ok 51 (by decide)
  | 52, _ => ⟨_, tyX12_ok 52 (by decide), gref_oka _, rfl⟩
  | 53, _ => ⟨_, tyX12_ok 53 (by decide), gref_oka _, rfl⟩
  | 54, _ => ⟨_, tyX12_ok 54 (by decide), gref_oka _, rfl⟩
  | 55, _ => ⟨_, tyX12_ok 55 (by decide), gref_oka _, rfl⟩
  | 56, _ => tyX12_ok 56 (by decide)
  | 57, _ => tyX12_ok 57 (by decide)
  | 58, _ => tyX12_ok 58 (by decide)
  | 59, _ => tyX12_ok 59 (by decide)
  | 60, _ => tyX12_ok 60 (by decide)
  | 61, _ => ⟨_, tyX12_ok 61 (by decide), gref_oka _, rfl⟩
  | 62, _ => ⟨_, tyX12_ok 62 (by decide), gref_oka _, rfl⟩
  | 63, _ => ⟨_, tyX12_ok 63 (by decide), gref_oka _, rfl⟩
  | 64, _ => ⟨_, tyX12_ok 64 (by decide), gref_oka _, rfl⟩
  | 65, _ => ⟨_, tyX12_ok 65 (by decide), gref_oka _, rfl⟩
  | 66, _ => ⟨_, tyX12_ok 66 (by decide), gref_oka _, rfl⟩
  | 67, _ => ⟨_, tyX12_ok 67 (by decide), gref_oka _, rfl⟩
  | k + 68, h => absurd h (by show ¬ k + 68 < 68; omega)
theorem gkind : ∀ c, c < 12 → ∀ k, k < (g_C c).2.2 → gkindP c k
  | 0, _ => gkind_0
  | 1, _ => gkind_1
  | 2, _ => gkind_2
  | 3, _ => gkind_3
  | 4, _ => gkind_4
  | 5, _ => gkind_5
  | 6, _ => gkind_6
  | 7, _ => gkind_7
  | 8, _ => gkind_8
  | 9, _ => gkind_9
  | 10, _ => gkind_10
  | 11, _ => gkind_11
  | c + 12, h => absurd h (by omega)
