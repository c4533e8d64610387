theorem try_fault (d : Nat) (I : Nat → Nat → Int32) (J : Nat → Nat → Int64) (P : Nat → Nat) : gTM d 118 [.ref 0] (gST I J P) (fun r u => u = gST I J P ∧ r = some (.int (I 1 4))) := by
  refine gT_n 4 ?_
  exact ⟨rfl, rfl, rfl, rfl⟩
theorem try_end (d : Nat) (I : Nat → Nat → Int32) (J : Nat → Nat → Int64) (P : Nat → Nat) (n : Int32) : gTM d 116 [.ref 0, .int n] (gST I J P) (fun r u => (u = gST I J P ∧ (n < 0 ∨ I 1 1 < n) ∧ r = some (.int (-1))) ∨ (u = gST (gupI I 1 1 n) J P ∧ ¬ n < 0 ∧ ¬ I 1 1 < n ∧ r = some (.int (I 1 1)))) := by
  refine gT_n 6 ?_
  refine ⟨rfl, rfl, fun c1 => ?_, fun c1 => ?_⟩
  · exact gT_n 2 (Or.inl ⟨rfl, Or.inl c1, rfl⟩)
  · refine gT_n 3 ?_
    trace_state
    sorry
