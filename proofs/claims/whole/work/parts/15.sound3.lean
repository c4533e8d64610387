theorem gpI_inv {st : List Value} {f : Int32 → List Value → Prop} (h : gpI st f) : ∃ x r, st = .int x :: r ∧ f x r := by
  unfold gpI at h; split at h
  · exact ⟨_, _, rfl, h⟩
  · exact h.elim
theorem gpJ_inv {st : List Value} {f : Int64 → List Value → Prop} (h : gpJ st f) : ∃ x r, st = .long x :: r ∧ f x r := by
  unfold gpJ at h; split at h
  · exact ⟨_, _, rfl, h⟩
  · exact h.elim
theorem gpR_inv {st : List Value} {f : Nat → List Value → Prop} (h : gpR st f) : ∃ x r, st = .ref x :: r ∧ f x r := by
  unfold gpR at h; split at h
  · exact ⟨_, _, rfl, h⟩
  · exact h.elim
theorem gpQ_inv {st : List Value} {f : Option Nat → List Value → Prop} (h : gpQ st f) : ∃ x r, st = va_rf x :: r ∧ f x r := by
  unfold gpQ at h; split at h
  · exact ⟨some _, _, rfl, h⟩
  · exact ⟨none, _, rfl, h⟩
  · exact h.elim
theorem gpV_inv {st : List Value} {f : Value → List Value → Prop} (h : gpV st f) : ∃ v r, st = v :: r ∧ v.category = 1 ∧ f v r := by
  unfold gpV at h; split at h
  · exact ⟨_, _, rfl, rfl, h⟩
  · exact ⟨_, _, rfl, rfl, h⟩
  · exact ⟨_, _, rfl, rfl, h⟩
  · exact h.elim
theorem gtl {o : Option Value} {v : Value} {r : List Value} (h : o.toList = v :: r) : o = some v := by
  cases o with
  | none => cases h
  | some x => cases h; rfl
theorem gpop_inv {f : List Value → List Value → Prop} : ∀ (n : Nat) (acc st : List Value), gpop n acc st f → ∃ As r, As.length = n ∧ st = As.reverse ++ r ∧ f (As ++ acc) r
  | 0, acc, st, h => ⟨[], st, rfl, rfl, h⟩
  | n + 1, acc, v :: st, h => by
    obtain ⟨As, r, h1, h2, h3⟩ := gpop_inv n (v :: acc) st h
    refine ⟨As ++ [v], r, by simp [h1], ?_, ?_⟩
    · rw [h2]; simp
    · simpa using h3
  | _ + 1, _, [], h => False.elim h
theorem gsw_inv {x : Int32} {d : Nat} {go : Nat → Prop} : ∀ {l : List (Int32 × Nat)}, gsw x d go l → (∃ (j : Nat) (q : Int32 × Nat), l[j]? = some q ∧ x = q.1 ∧ go q.2) ∨ ((∀ (j : Nat) (q : Int32 × Nat), l[j]? = some q → ¬ x = q.1) ∧ go d)
  | [], h => Or.inr ⟨fun j q z => by simp at z, h⟩
  | z :: l, h => by
    by_cases hx : x = z.1
    · exact Or.inl ⟨0, z, rfl, hx, h.1 hx⟩
    · rcases gsw_inv (h.2 hx) with ⟨j, q, a, b, c⟩ | ⟨a, b⟩
      · exact Or.inl ⟨j + 1, q, a, b, c⟩
      · refine Or.inr ⟨fun j q hq => ?_, b⟩
        cases j with
        | zero => cases hq; exact hx
        | succ j => exact a j q hq
theorem gand {a b : Bool} (h : (a && b) = true) : a = true ∧ b = true := Bool.and_eq_true _ _ ▸ h
theorem gob_at {w : gW} {a ci : Nat} (h : gob w a = some ci) : w.1[a]? = some (.inl ci) := by
  unfold gob at h; split at h
  · rename_i c hc; cases h; exact hc
  · cases h
theorem gar_at {w : gW} {a t : Nat} (h : gar w a = some t) : w.1[a]? = some (.inr (t, gln w a)) := by
  unfold gar at h; split at h
  · rename_i q hq; cases h; rw [hq]; unfold gln; rw [hq]
  · cases h
theorem gob_lt {w : gW} {a ci : Nat} (h : gob w a = some ci) : a < w.1.length := (List.getElem?_eq_some_iff.mp (gob_at h)).1
theorem gar_lt {w : gW} {a t : Nat} (h : gar w a = some t) : a < w.1.length := (List.getElem?_eq_some_iff.mp (gar_at h)).1
theorem gad_lo {E : gEnv} {a : Nat} (h : a < 1000000) : gad E a = E.2.2.1 + a := if_pos h
theorem gad_S {E : gEnv} : gad E 2000000 = E.2.2.2.2.2.1 := by
  unfold gad
  rw [if_neg (by omega), if_neg (by omega)]
theorem gC_at {c : Nat} (h : c < 12) : vwCl[c]? = some ((g_C c).1, (g_C c).2.1, (g_C c).2.2) := by
  match c, h with
  | 0, _ => rfl
  | 1, _ => rfl
  | 2, _ => rfl
  | 3, _ => rfl
  | 4, _ => rfl
  | 5, _ => rfl
  | 6, _ => rfl
  | 7, _ => rfl
  | 8, _ => rfl
  | 9, _ => rfl
  | 10, _ => rfl
  | 11, _ => rfl
  | n + 12, h => exact absurd h (by omega)
theorem gfs_at {E : gEnv} {w : gW} {a ci k : Nat} (hk : k < (g_C ci).2.2) : (gfs E w a ci)[k]? = some (gcv E (gval w a ci k)) := by
  unfold gfs
  rw [List.getElem?_map, List.getElem?_range hk]
  rfl
theorem gfs_len {E : gEnv} {w : gW} {a ci : Nat} : (gfs E w a ci).length = (g_C ci).2.2 := by simp [gfs]
/-- a field's new value: its object's list of values -/
theorem gfs_set {E : gEnv} {w w' : gW} {a ci k : Nat} {v : Value} (hk : k < (g_C ci).2.2) (hv : gcv E (gval w' a ci k) = v) (ho : ∀ j, j ≠ k → gval w' a ci j = gval w a ci j) : (gfs E w a ci).set k v = gfs E w' a ci := by
  refine List.ext_getElem? fun j => ?_
  by_cases hj : j = k
  · subst hj
    rw [List.getElem?_set_self (by rw [gfs_len]; exact hk), gfs_at hk, hv]
  · rw [List.getElem?_set_ne (Ne.symm hj)]
    by_cases hl : j < (g_C ci).2.2
    · rw [gfs_at hl, gfs_at hl, ho j hj]
    · rw [List.getElem?_eq_none (by rw [gfs_len]; omega), List.getElem?_eq_none (by rw [gfs_len]; omega)]
