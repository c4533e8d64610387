/-! alter -/
def aOK (w v : Int32) : Prop := (w = 4 ∧ (0 ≤ v ∧ v ≤ 63)) ∨ (w = 5 ∧ (0 ≤ v ∧ v ≤ 999)) ∨ (w = 6 ∧ (0 ≤ v ∧ v ≤ 999)) ∨ (w = 7 ∧ (0 ≤ v ∧ v ≤ 999)) ∨ (w = 8 ∧ (1 ≤ v ∧ v ≤ 999)) ∨ (w = 9 ∧ (0 ≤ v ∧ v ≤ 9972))
def qAl (q : zI) (v : Int32) : Nat → zI
  | 4 => (q.1, q.2.1, q.2.2.1, q.2.2.2.1, v.toNatClampNeg, q.2.2.2.2.2)
  | 5 => (q.1, q.2.1, q.2.2.1, q.2.2.2.1, q.2.2.2.2.1, (v, q.2.2.2.2.2.1.2), q.2.2.2.2.2.2)
  | 6 => (q.1, q.2.1, q.2.2.1, q.2.2.2.1, q.2.2.2.2.1, (q.2.2.2.2.2.1.1, v, q.2.2.2.2.2.1.2.2), q.2.2.2.2.2.2)
  | 7 => (q.1, q.2.1, q.2.2.1, q.2.2.2.1, q.2.2.2.2.1, (q.2.2.2.2.2.1.1, q.2.2.2.2.2.1.2.1, v), q.2.2.2.2.2.2)
  | 8 => (q.1, q.2.1, q.2.2.1, q.2.2.2.1, q.2.2.2.2.1, q.2.2.2.2.2.1, v, q.2.2.2.2.2.2.2)
  | _ => (q.1, q.2.1, q.2.2.1, q.2.2.2.1, q.2.2.2.2.1, q.2.2.2.2.2.1, q.2.2.2.2.2.2.1, v)
theorem lt_9973 {v : Int32} (h : v < 9973) : v ≤ 9972 := by
  rw [Int32.lt_iff_toInt_lt] at h
  rw [Int32.le_iff_toInt_le]
  have e1 : (9973 : Int32).toInt = 9973 := by decide
  have e2 : (9972 : Int32).toInt = 9972 := by decide
  omega
theorem c_mayB {d : Nat} {w v : Int32} {I : Nat → Nat → Int32} {J : Nat → Nat → Int64} {P : Nat → Nat} : gTM (d + 1) 134 [.int w, .int v] (gST I J P) (gB (gST I J P) (aOK w v)) := by
  by_cases e4 : w = 4
  · subst e4
    have hB : aOK 4 v → (4 : Int32) = 4 ∧ (0 ≤ v ∧ v ≤ 63) := fun h => by
      rcases h with h | h | h | h | h | h <;> first | exact h | exact absurd h.1 (by decide)
    refine gT_n 2 ?_
    refine ⟨fun _ => ?_, fun c => absurd rfl c⟩
    refine gT_n 2 ?_
    refine px_lt (X := v) (Y := (0)) (rfl) (rfl) (fun κ1 => ?_) (fun κ1 => ?_)
    · refine gT_n 2 ?_
      refine ⟨(Or.inl rfl), ?_⟩
      exact ⟨rfl, Or.inr ⟨rfl, fun h => absurd κ1 (Int32.not_lt.mpr (hB h).2.1)⟩⟩
    · refine gT_n 3 ?_
      refine px_gt (X := v) (Y := (63)) (rfl) (rfl) (fun κ2 => ?_) (fun κ2 => ?_)
      · refine gT_n 2 ?_
        refine ⟨(Or.inl rfl), ?_⟩
        exact ⟨rfl, Or.inr ⟨rfl, fun h => absurd (hB h).2.2 (Int32.not_le.mpr κ2)⟩⟩
      · refine gT_n 3 ?_
        refine ⟨(Or.inr rfl), ?_⟩
        exact ⟨rfl, Or.inl ⟨rfl, (Or.inl ⟨rfl, ⟨Int32.not_lt.mp κ1, Int32.not_lt.mp κ2⟩⟩)⟩⟩
  by_cases e5 : w = 5
  · subst e5
    have hB : aOK 5 v → (5 : Int32) = 5 ∧ (0 ≤ v ∧ v ≤ 999) := fun h => by
      rcases h with h | h | h | h | h | h <;> first | exact h | exact absurd h.1 (by decide)
    refine gT_n 2 ?_
    refine ⟨fun c => absurd c (by decide), fun _ => ⟨fun _ => ?_, fun c => absurd rfl c⟩⟩
    refine gT_n 2 ?_
    refine px_lt (X := v) (Y := (0)) (rfl) (rfl) (fun κ1 => ?_) (fun κ1 => ?_)
    · refine gT_n 2 ?_
      refine ⟨(Or.inl rfl), ?_⟩
      exact ⟨rfl, Or.inr ⟨rfl, fun h => absurd κ1 (Int32.not_lt.mpr (hB h).2.1)⟩⟩
    · refine gT_n 3 ?_
      refine px_gt (X := v) (Y := (999)) (rfl) (rfl) (fun κ2 => ?_) (fun κ2 => ?_)
      · refine gT_n 2 ?_
        refine ⟨(Or.inl rfl), ?_⟩
        exact ⟨rfl, Or.inr ⟨rfl, fun h => absurd (hB h).2.2 (Int32.not_le.mpr κ2)⟩⟩
      · refine gT_n 3 ?_
        refine ⟨(Or.inr rfl), ?_⟩
        exact ⟨rfl, Or.inl ⟨rfl, (Or.inr (Or.inl ⟨rfl, ⟨Int32.not_lt.mp κ1, Int32.not_lt.mp κ2⟩⟩))⟩⟩
  by_cases e6 : w = 6
  · subst e6
    have hB : aOK 6 v → (6 : Int32) = 6 ∧ (0 ≤ v ∧ v ≤ 999) := fun h => by
      rcases h with h | h | h | h | h | h <;> first | exact h | exact absurd h.1 (by decide)
    refine gT_n 2 ?_
    refine ⟨fun c => absurd c (by decide), fun _ => ⟨fun c => absurd c (by decide), fun _ => ⟨fun _ => ?_, fun c => absurd rfl c⟩⟩⟩
    refine gT_n 2 ?_
    refine px_lt (X := v) (Y := (0)) (rfl) (rfl) (fun κ1 => ?_) (fun κ1 => ?_)
    · refine gT_n 2 ?_
      refine ⟨(Or.inl rfl), ?_⟩
      exact ⟨rfl, Or.inr ⟨rfl, fun h => absurd κ1 (Int32.not_lt.mpr (hB h).2.1)⟩⟩
    · refine gT_n 3 ?_
      refine px_gt (X := v) (Y := (999)) (rfl) (rfl) (fun κ2 => ?_) (fun κ2 => ?_)
      · refine gT_n 2 ?_
        refine ⟨(Or.inl rfl), ?_⟩
        exact ⟨rfl, Or.inr ⟨rfl, fun h => absurd (hB h).2.2 (Int32.not_le.mpr κ2)⟩⟩
      · refine gT_n 3 ?_
        refine ⟨(Or.inr rfl), ?_⟩
        exact ⟨rfl, Or.inl ⟨rfl, (Or.inr (Or.inr (Or.inl ⟨rfl, ⟨Int32.not_lt.mp κ1, Int32.not_lt.mp κ2⟩⟩)))⟩⟩
  by_cases e7 : w = 7
  · subst e7
    have hB : aOK 7 v → (7 : Int32) = 7 ∧ (0 ≤ v ∧ v ≤ 999) := fun h => by
      rcases h with h | h | h | h | h | h <;> first | exact h | exact absurd h.1 (by decide)
    refine gT_n 2 ?_
    refine ⟨fun c => absurd c (by decide), fun _ => ⟨fun c => absurd c (by decide), fun _ => ⟨fun c => absurd c (by decide), fun _ => ⟨fun _ => ?_, fun c => absurd rfl c⟩⟩⟩⟩
    refine gT_n 2 ?_
    refine px_lt (X := v) (Y := (0)) (rfl) (rfl) (fun κ1 => ?_) (fun κ1 => ?_)
    · refine gT_n 2 ?_
      refine ⟨(Or.inl rfl), ?_⟩
      exact ⟨rfl, Or.inr ⟨rfl, fun h => absurd κ1 (Int32.not_lt.mpr (hB h).2.1)⟩⟩
    · refine gT_n 3 ?_
      refine px_gt (X := v) (Y := (999)) (rfl) (rfl) (fun κ2 => ?_) (fun κ2 => ?_)
      · refine gT_n 2 ?_
        refine ⟨(Or.inl rfl), ?_⟩
        exact ⟨rfl, Or.inr ⟨rfl, fun h => absurd (hB h).2.2 (Int32.not_le.mpr κ2)⟩⟩
      · refine gT_n 3 ?_
        refine ⟨(Or.inr rfl), ?_⟩
        exact ⟨rfl, Or.inl ⟨rfl, (Or.inr (Or.inr (Or.inr (Or.inl ⟨rfl, ⟨Int32.not_lt.mp κ1, Int32.not_lt.mp κ2⟩⟩))))⟩⟩
  by_cases e8 : w = 8
  · subst e8
    have hB : aOK 8 v → (8 : Int32) = 8 ∧ (1 ≤ v ∧ v ≤ 999) := fun h => by
      rcases h with h | h | h | h | h | h <;> first | exact h | exact absurd h.1 (by decide)
    refine gT_n 2 ?_
    refine ⟨fun c => absurd c (by decide), fun _ => ⟨fun c => absurd c (by decide), fun _ => ⟨fun c => absurd c (by decide), fun _ => ⟨fun c => absurd c (by decide), fun _ => ⟨fun _ => ?_, fun c => absurd rfl c⟩⟩⟩⟩⟩
    refine gT_n 2 ?_
    refine ⟨rfl, gTM.use (c_isKey) (Nat.le_refl _) (fun r u hq => ?_)⟩
    obtain ⟨rfl, ⟨rfl, β1⟩ | ⟨rfl, β1⟩⟩ := hq  -- X11_isKey[v]
    · refine gT_n 1 ?_
      refine ⟨(Or.inr rfl), ?_⟩
      exact ⟨rfl, Or.inl ⟨rfl, (Or.inr (Or.inr (Or.inr (Or.inr (Or.inl ⟨rfl, β1⟩)))))⟩⟩
    · refine gT_n 1 ?_
      refine ⟨(Or.inl rfl), ?_⟩
      exact ⟨rfl, Or.inr ⟨rfl, fun h => β1 ((hB h).2)⟩⟩
  by_cases e9 : w = 9
  · subst e9
    have hB : aOK 9 v → (9 : Int32) = 9 ∧ (0 ≤ v ∧ v ≤ 9972) := fun h => by
      rcases h with h | h | h | h | h | h <;> first | exact h | exact absurd h.1 (by decide)
    refine gT_n 2 ?_
    refine ⟨fun c => absurd c (by decide), fun _ => ⟨fun c => absurd c (by decide), fun _ => ⟨fun c => absurd c (by decide), fun _ => ⟨fun c => absurd c (by decide), fun _ => ⟨fun c => absurd c (by decide), fun _ => ⟨fun _ => ?_, fun c => absurd rfl c⟩⟩⟩⟩⟩⟩
    refine gT_n 2 ?_
    refine px_lt (X := v) (Y := (0)) (rfl) (rfl) (fun κ1 => ?_) (fun κ1 => ?_)
    · refine gT_n 2 ?_
      refine ⟨(Or.inl rfl), ?_⟩
      exact ⟨rfl, Or.inr ⟨rfl, fun h => absurd κ1 (Int32.not_lt.mpr (hB h).2.1)⟩⟩
    · refine gT_n 3 ?_
      refine px_ge (X := v) (Y := (9973)) (rfl) (rfl) (fun κ2 => ?_) (fun κ2 => ?_)
      · refine gT_n 2 ?_
        refine ⟨(Or.inl rfl), ?_⟩
        exact ⟨rfl, Or.inr ⟨rfl, fun h => absurd (hB h).2.2 (fun q => absurd (Int32.le_trans κ2 q) (by decide))⟩⟩
      · refine gT_n 3 ?_
        refine ⟨(Or.inr rfl), ?_⟩
        exact ⟨rfl, Or.inl ⟨rfl, (Or.inr (Or.inr (Or.inr (Or.inr (Or.inr (⟨rfl, ⟨Int32.not_lt.mp κ1, lt_9973 (Int32.not_le.mp κ2)⟩⟩))))))⟩⟩
  refine gT_n 2 ?_
  refine ⟨fun κ1 => ?_, fun _ => ⟨fun κ1 => ?_, fun _ => ⟨fun κ1 => ?_, fun _ => ⟨fun κ1 => ?_, fun _ => ⟨fun κ1 => ?_, fun _ => ⟨fun κ1 => ?_, fun _ => ?_⟩⟩⟩⟩⟩⟩
  · first | exact absurd κ1 e4 | exact absurd κ1 e5 | exact absurd κ1 e6 | exact absurd κ1 e7 | exact absurd κ1 e8 | exact absurd κ1 e9
  · first | exact absurd κ1 e4 | exact absurd κ1 e5 | exact absurd κ1 e6 | exact absurd κ1 e7 | exact absurd κ1 e8 | exact absurd κ1 e9
  · first | exact absurd κ1 e4 | exact absurd κ1 e5 | exact absurd κ1 e6 | exact absurd κ1 e7 | exact absurd κ1 e8 | exact absurd κ1 e9
  · first | exact absurd κ1 e4 | exact absurd κ1 e5 | exact absurd κ1 e6 | exact absurd κ1 e7 | exact absurd κ1 e8 | exact absurd κ1 e9
  · first | exact absurd κ1 e4 | exact absurd κ1 e5 | exact absurd κ1 e6 | exact absurd κ1 e7 | exact absurd κ1 e8 | exact absurd κ1 e9
  · first | exact absurd κ1 e4 | exact absurd κ1 e5 | exact absurd κ1 e6 | exact absurd κ1 e7 | exact absurd κ1 e8 | exact absurd κ1 e9
  · refine gT_n 2 ?_
    refine ⟨(Or.inl rfl), ?_⟩
    exact ⟨rfl, Or.inr ⟨rfl, fun h => by rcases h with h | h | h | h | h | h <;> exact absurd h.1 (by assumption)⟩⟩
theorem c_mayB1 {d : Nat} {w v : Int32} {I : Nat → Nat → Int32} {J : Nat → Nat → Int64} {P : Nat → Nat} (h : aOK w v) : gTM (d + 1) 134 [.int w, .int v] (gST I J P) (fun r u => u = gST I J P ∧ r = some (.int 1)) := by
  refine gTM.use c_mayB (Nat.le_refl _) (fun r u hq => ?_)
  obtain ⟨rfl, ⟨rfl, b1⟩ | ⟨rfl, b1⟩⟩ := hq
  · exact ⟨rfl, rfl⟩
  · exact absurd h b1
theorem c_mayB0 {d : Nat} {w v : Int32} {I : Nat → Nat → Int32} {J : Nat → Nat → Int64} {P : Nat → Nat} (h : ¬ aOK w v) : gTM (d + 1) 134 [.int w, .int v] (gST I J P) (fun r u => u = gST I J P ∧ r = some (.int 0)) := by
  refine gTM.use c_mayB (Nat.le_refl _) (fun r u hq => ?_)
  obtain ⟨rfl, ⟨rfl, b1⟩ | ⟨rfl, b1⟩⟩ := hq
  · exact absurd b1 h
  · exact ⟨rfl, rfl⟩
theorem m_isAl {d : Nat} {w v : Int32} {I : Nat → Nat → Int32} {J : Nat → Nat → Int64} {P : Nat → Nat} : gTM (d + 1) 235 [.int w, .int v] (gST I J P) (gB (gST I J P) (aOK w v)) := by
  by_cases e4 : w = 4
  · subst e4
    have hB : aOK 4 v → (4 : Int32) = 4 ∧ (0 ≤ v ∧ v ≤ 63) := fun h => by
      rcases h with h | h | h | h | h | h <;> first | exact h | exact absurd h.1 (by decide)
    refine gT_n 2 ?_
    refine ⟨fun _ => ?_, fun c => absurd rfl c⟩
    refine gT_n 5 ?_
    refine ⟨rfl, gTM.use (m_inI (x := 0) (z := 63) rfl rfl) (Nat.le_refl _) (fun r u hq => ?_)⟩
    obtain ⟨rfl, ⟨rfl, β1⟩ | ⟨rfl, β1⟩⟩ := hq  -- X12_in[L(v).toInt64, lN 0, lN 63]
    · refine gT_n 1 ?_
      refine ⟨(Or.inr rfl), ?_⟩
      exact ⟨rfl, Or.inl ⟨rfl, (Or.inl ⟨rfl, β1⟩)⟩⟩
    · refine gT_n 1 ?_
      refine ⟨(Or.inl rfl), ?_⟩
      exact ⟨rfl, Or.inr ⟨rfl, fun h => β1 ((hB h).2)⟩⟩
  by_cases e5 : w = 5
  · subst e5
    have hB : aOK 5 v → (5 : Int32) = 5 ∧ (0 ≤ v ∧ v ≤ 999) := fun h => by
      rcases h with h | h | h | h | h | h <;> first | exact h | exact absurd h.1 (by decide)
    refine gT_n 2 ?_
    refine ⟨fun c => absurd c (by decide), fun _ => ⟨fun _ => ?_, fun c => absurd rfl c⟩⟩
    refine gT_n 5 ?_
    refine ⟨rfl, gTM.use (m_inI (x := 0) (z := 999) rfl rfl) (Nat.le_refl _) (fun r u hq => ?_)⟩
    obtain ⟨rfl, ⟨rfl, β1⟩ | ⟨rfl, β1⟩⟩ := hq  -- X12_in[L(v).toInt64, lN 0, lN 999]
    · refine gT_n 1 ?_
      refine ⟨(Or.inr rfl), ?_⟩
      exact ⟨rfl, Or.inl ⟨rfl, (Or.inr (Or.inl ⟨rfl, β1⟩))⟩⟩
    · refine gT_n 1 ?_
      refine ⟨(Or.inl rfl), ?_⟩
      exact ⟨rfl, Or.inr ⟨rfl, fun h => β1 ((hB h).2)⟩⟩
  by_cases e6 : w = 6
  · subst e6
    have hB : aOK 6 v → (6 : Int32) = 6 ∧ (0 ≤ v ∧ v ≤ 999) := fun h => by
      rcases h with h | h | h | h | h | h <;> first | exact h | exact absurd h.1 (by decide)
    refine gT_n 2 ?_
    refine ⟨fun c => absurd c (by decide), fun _ => ⟨fun c => absurd c (by decide), fun _ => ⟨fun _ => ?_, fun c => absurd rfl c⟩⟩⟩
    refine gT_n 5 ?_
    refine ⟨rfl, gTM.use (m_inI (x := 0) (z := 999) rfl rfl) (Nat.le_refl _) (fun r u hq => ?_)⟩
    obtain ⟨rfl, ⟨rfl, β1⟩ | ⟨rfl, β1⟩⟩ := hq  -- X12_in[L(v).toInt64, lN 0, lN 999]
    · refine gT_n 1 ?_
      refine ⟨(Or.inr rfl), ?_⟩
      exact ⟨rfl, Or.inl ⟨rfl, (Or.inr (Or.inr (Or.inl ⟨rfl, β1⟩)))⟩⟩
    · refine gT_n 1 ?_
      refine ⟨(Or.inl rfl), ?_⟩
      exact ⟨rfl, Or.inr ⟨rfl, fun h => β1 ((hB h).2)⟩⟩
  by_cases e7 : w = 7
  · subst e7
    have hB : aOK 7 v → (7 : Int32) = 7 ∧ (0 ≤ v ∧ v ≤ 999) := fun h => by
      rcases h with h | h | h | h | h | h <;> first | exact h | exact absurd h.1 (by decide)
    refine gT_n 2 ?_
    refine ⟨fun c => absurd c (by decide), fun _ => ⟨fun c => absurd c (by decide), fun _ => ⟨fun c => absurd c (by decide), fun _ => ⟨fun _ => ?_, fun c => absurd rfl c⟩⟩⟩⟩
    refine gT_n 5 ?_
    refine ⟨rfl, gTM.use (m_inI (x := 0) (z := 999) rfl rfl) (Nat.le_refl _) (fun r u hq => ?_)⟩
    obtain ⟨rfl, ⟨rfl, β1⟩ | ⟨rfl, β1⟩⟩ := hq  -- X12_in[L(v).toInt64, lN 0, lN 999]
    · refine gT_n 1 ?_
      refine ⟨(Or.inr rfl), ?_⟩
      exact ⟨rfl, Or.inl ⟨rfl, (Or.inr (Or.inr (Or.inr (Or.inl ⟨rfl, β1⟩))))⟩⟩
    · refine gT_n 1 ?_
      refine ⟨(Or.inl rfl), ?_⟩
      exact ⟨rfl, Or.inr ⟨rfl, fun h => β1 ((hB h).2)⟩⟩
  by_cases e8 : w = 8
  · subst e8
    have hB : aOK 8 v → (8 : Int32) = 8 ∧ (1 ≤ v ∧ v ≤ 999) := fun h => by
      rcases h with h | h | h | h | h | h <;> first | exact h | exact absurd h.1 (by decide)
    refine gT_n 2 ?_
    refine ⟨fun c => absurd c (by decide), fun _ => ⟨fun c => absurd c (by decide), fun _ => ⟨fun c => absurd c (by decide), fun _ => ⟨fun c => absurd c (by decide), fun _ => ⟨fun _ => ?_, fun c => absurd rfl c⟩⟩⟩⟩⟩
    refine gT_n 5 ?_
    refine ⟨rfl, gTM.use (m_inI (x := 1) (z := 999) rfl rfl) (Nat.le_refl _) (fun r u hq => ?_)⟩
    obtain ⟨rfl, ⟨rfl, β1⟩ | ⟨rfl, β1⟩⟩ := hq  -- X12_in[L(v).toInt64, lN 1, lN 999]
    · refine gT_n 1 ?_
      refine ⟨(Or.inr rfl), ?_⟩
      exact ⟨rfl, Or.inl ⟨rfl, (Or.inr (Or.inr (Or.inr (Or.inr (Or.inl ⟨rfl, β1⟩)))))⟩⟩
    · refine gT_n 1 ?_
      refine ⟨(Or.inl rfl), ?_⟩
      exact ⟨rfl, Or.inr ⟨rfl, fun h => β1 ((hB h).2)⟩⟩
  by_cases e9 : w = 9
  · subst e9
    have hB : aOK 9 v → (9 : Int32) = 9 ∧ (0 ≤ v ∧ v ≤ 9972) := fun h => by
      rcases h with h | h | h | h | h | h <;> first | exact h | exact absurd h.1 (by decide)
    refine gT_n 2 ?_
    refine ⟨fun c => absurd c (by decide), fun _ => ⟨fun c => absurd c (by decide), fun _ => ⟨fun c => absurd c (by decide), fun _ => ⟨fun c => absurd c (by decide), fun _ => ⟨fun c => absurd c (by decide), fun _ => ⟨fun _ => ?_, fun c => absurd rfl c⟩⟩⟩⟩⟩⟩
    refine gT_n 5 ?_
    refine ⟨rfl, gTM.use (m_inI (x := 0) (z := 9972) rfl rfl) (Nat.le_refl _) (fun r u hq => ?_)⟩
    obtain ⟨rfl, ⟨rfl, β1⟩ | ⟨rfl, β1⟩⟩ := hq  -- X12_in[L(v).toInt64, lN 0, lN 9972]
    · refine gT_n 1 ?_
      refine ⟨(Or.inr rfl), ?_⟩
      exact ⟨rfl, Or.inl ⟨rfl, (Or.inr (Or.inr (Or.inr (Or.inr (Or.inr (⟨rfl, β1⟩))))))⟩⟩
    · refine gT_n 1 ?_
      refine ⟨(Or.inl rfl), ?_⟩
      exact ⟨rfl, Or.inr ⟨rfl, fun h => β1 ((hB h).2)⟩⟩
  refine gT_n 2 ?_
  refine ⟨fun κ1 => ?_, fun _ => ⟨fun κ1 => ?_, fun _ => ⟨fun κ1 => ?_, fun _ => ⟨fun κ1 => ?_, fun _ => ⟨fun κ1 => ?_, fun _ => ⟨fun κ1 => ?_, fun _ => ?_⟩⟩⟩⟩⟩⟩
  · first | exact absurd κ1 e4 | exact absurd κ1 e5 | exact absurd κ1 e6 | exact absurd κ1 e7 | exact absurd κ1 e8 | exact absurd κ1 e9
  · first | exact absurd κ1 e4 | exact absurd κ1 e5 | exact absurd κ1 e6 | exact absurd κ1 e7 | exact absurd κ1 e8 | exact absurd κ1 e9
  · first | exact absurd κ1 e4 | exact absurd κ1 e5 | exact absurd κ1 e6 | exact absurd κ1 e7 | exact absurd κ1 e8 | exact absurd κ1 e9
  · first | exact absurd κ1 e4 | exact absurd κ1 e5 | exact absurd κ1 e6 | exact absurd κ1 e7 | exact absurd κ1 e8 | exact absurd κ1 e9
  · first | exact absurd κ1 e4 | exact absurd κ1 e5 | exact absurd κ1 e6 | exact absurd κ1 e7 | exact absurd κ1 e8 | exact absurd κ1 e9
  · first | exact absurd κ1 e4 | exact absurd κ1 e5 | exact absurd κ1 e6 | exact absurd κ1 e7 | exact absurd κ1 e8 | exact absurd κ1 e9
  · refine gT_n 2 ?_
    refine ⟨(Or.inl rfl), ?_⟩
    exact ⟨rfl, Or.inr ⟨rfl, fun h => by rcases h with h | h | h | h | h | h <;> exact absurd h.1 (by assumption)⟩⟩
theorem m_isAl1 {d : Nat} {w v : Int32} {I : Nat → Nat → Int32} {J : Nat → Nat → Int64} {P : Nat → Nat} (h : aOK w v) : gTM (d + 1) 235 [.int w, .int v] (gST I J P) (fun r u => u = gST I J P ∧ r = some (.int 1)) := by
  refine gTM.use m_isAl (Nat.le_refl _) (fun r u hq => ?_)
  obtain ⟨rfl, ⟨rfl, b1⟩ | ⟨rfl, b1⟩⟩ := hq
  · exact ⟨rfl, rfl⟩
  · exact absurd h b1
theorem m_isAl0 {d : Nat} {w v : Int32} {I : Nat → Nat → Int32} {J : Nat → Nat → Int64} {P : Nat → Nat} (h : ¬ aOK w v) : gTM (d + 1) 235 [.int w, .int v] (gST I J P) (fun r u => u = gST I J P ∧ r = some (.int 0)) := by
  refine gTM.use m_isAl (Nat.le_refl _) (fun r u hq => ?_)
  obtain ⟨rfl, ⟨rfl, b1⟩ | ⟨rfl, b1⟩⟩ := hq
  · exact absurd b1 h
  · exact ⟨rfl, rfl⟩
theorem o_alter_c {d : Nat} {s : zS} {I : Nat → Nat → Int32} {J : Nat → Nat → Int64} {P : Nat → Nat} {i w v : Int32} (hO : sOK s) (hC : RC s I J P) (hM : RM s I J) : gTM (d + 14) 133 [.ref 0, .int i, .int w, .int v] (gST I J P) (pC s (fIt s i (aOK w v) (fun p k x s' => x = idF (ig p.1 k) w.toNatClampNeg ∧ s' = setI s p k (qAl (ig p.1 k) v w.toNatClampNeg)))) := by
  obtain ⟨tp, fn, t, W, nm, pr, ch, i0, i1⟩ := s
  have hO0 := hO
  have hC0 := hC
  have hM0 := hM
  obtain ⟨oTp, oT, oW, oN, oP, oI0, oI1⟩ := hO
  obtain ⟨kTp, kF, kT, kW, kN, kP, kC, kI0, kI1, kB, kPP⟩ := hC
  obtain ⟨jTp, jF, jT, jSp, jW, jN, jP, jC, jI0, jI1, jB, jL⟩ := hM
  dsimp only at oTp oT oW oN oP oI0 oI1 kTp kF kT kW kN kP kC kI0 kI1 jTp jF jT jSp jW jN jP jC jI0 jI1
  try dsimp only
  by_cases hh : ¬ i < 0 ∧ aOK w v
  · cases pr with
    | none =>
      refine gT_n 2 ?_
      refine px_lt (X := i) (Y := (0)) (rfl) (rfl) (fun κ1 => ?_) (fun κ1 => ?_)
      · refine gT_n 2 ?_
        exact absurd κ1 hh.1
      · refine gT_n 3 ?_
        refine ⟨rfl, gTM.use (c_mayB1 hh.2) (Nat.le_refl _) (fun r u hq => ?_)⟩
        obtain ⟨rfl, rfl⟩ := hq  -- X11_mayBecome[w, v]
        refine gT_n 1 ?_
        refine ⟨fun _ => ?_, fun c => absurd c (by decide)⟩
        refine gT_n 4 ?_
        refine ⟨rfl, rfl, rfl, ?_⟩
        refine gT_n 3 ?_
        refine ⟨rfl, fun c => absurd c (kpT (p := fun z : Int32 => ¬ (¬ z = 0)) (show _ = (0 : Int32) from kP.1) (by decide)), fun _ => ?_⟩
        refine gT_n 2 ?_
        show gT _ 133 22 _ _ _ _ _
        refine gT_n 3 ?_
        refine ⟨fun c => absurd c (by decide), fun _ => ?_⟩
        refine gT_n 3 ?_
        exact ⟨_, _, I, J, P, rfl, rfl, ⟨(pif_pos hh).mpr ⟨rfl, rfl⟩, hO0⟩, hC0, hM0⟩
    | some p =>
      obtain ⟨h10, hoI, -⟩ := oP p rfl
      by_cases hj : inZ p.1.length i
      · obtain ⟨k, hk, rfl⟩ := hj
        obtain ⟨jj, hjj, eP, hb, hI⟩ := cP_at (kP.2 p rfl) kPP hk h10
        have hbb : 147 ≤ P k ∧ P k ≤ 166 := by omega
        have hbb1 : 147 ≤ P k + 1 ∧ P k + 1 ≤ 166 := by omega
        have hI2 : cI (iMI I I (P k)) (iMI I I (P k + 1)) (iMJ J J (P k)) (ig p.1 k) := by rw [iM_self, iJ_self]; exact hI
        have hq := hoI _ (ig_mem hk)
        rcases hh.2 with ⟨rfl, hv⟩ | ⟨rfl, hv⟩ | ⟨rfl, hv⟩ | ⟨rfl, hv⟩ | ⟨rfl, hv⟩ | ⟨rfl, hv⟩
        · obtain ⟨m, hm, e⟩ := rngN (n := 63) (by omega) hv
          subst e
          have key : gTM (d + 14) 133 [.ref 0, .int (nI k), .int 4, .int (nI m)] (gST (iMI I I) (iMJ J J) P) (pC (tp, fn, t, W, nm, some p, ch, i0, i1) (fIt (tp, fn, t, W, nm, some p, ch, i0, i1) (nI k) (aOK (4 : Int32) (nI m)) (fun p k x s' => x = idF (ig p.1 k) (4 : Int32).toNatClampNeg ∧ s' = setI (tp, fn, t, W, nm, some p, ch, i0, i1) p k (qAl (ig p.1 k) (nI m) (4 : Int32).toNatClampNeg)))) := by
            refine gT_n 2 ?_
            refine ⟨fun c => absurd c (nI_pos (by omega)), fun _ => ?_⟩
            refine gT_n 3 ?_
            refine ⟨rfl, gTM.use (c_mayB1 (Or.inl ⟨rfl, hv⟩)) (Nat.le_refl _) (fun r u hq => ?_)⟩
            obtain ⟨rfl, rfl⟩ := hq  -- X11_mayBecome[K4, nI m]
            refine gT_n 1 ?_
            refine ⟨fun _ => ?_, fun c => absurd c (by decide)⟩
            refine gT_n 4 ?_
            refine ⟨rfl, rfl, rfl, ?_⟩
            refine gT_n 3 ?_
            refine ⟨rfl, fun _ => ?_, fun c => absurd c (kpT (p := fun z : Int32 => ¬ z = 0) (show _ = (1 : Int32) from kP.1) (by decide))⟩
            refine gT_n 2 ?_
            refine ⟨fun c => absurd c (nI_pos (by omega)), fun _ => ?_⟩
            refine gT_n 4 ?_
            refine ⟨rfl, pk_le p.1.length k (fun κ1 => ?_) (fun κ1 => ?_) ((kP.2 p rfl).1) (rfl) (by omega) (by omega)⟩
            · refine gT_n 2 ?_
              show gT _ 133 22 _ _ _ _ _
              refine gT_n 3 ?_
              refine ⟨fun c => absurd c (by decide), fun _ => ?_⟩
              refine gT_n 3 ?_
              exact absurd hk (by omega)
            · refine gT_n 3 ?_
              show gT _ 133 22 _ _ _ _ _
              refine gT_n 3 ?_
              refine ⟨fun _ => ?_, fun c => absurd (by decide) c⟩
              refine gT_n 5 ?_
              refine ⟨rfl, rfl, rfl, (pk_in k 10 (by omega) (rfl)), ?_⟩
              refine gT_top (aa_ref (b := P k) (rfl) (by omega) rfl) ?_
              refine gT_n 3 ?_
              refine ⟨hb.ob, rfl, ?_⟩
              refine gT_n 3 ?_
              refine ⟨hb.ob, rfl, gTM.use (c_detail4 hb hI2 hq) (Nat.le_refl _) (fun r u hq => ?_)⟩
              obtain ⟨rfl, rfl⟩ := hq  -- X1_detail[Rb, K4]
              refine gT_n 3 ?_
              refine ⟨fun _ => ?_, fun c => absurd rfl c⟩
              refine gT_n 3 ?_
              refine ⟨hb.ob, ?_⟩
              refine gT_iP hbb (X := (nI m)) (rfl) ?_
              refine gT_n 3 ?_
              show gT _ 133 48 _ _ _ _ _
              refine gT_n 1 ?_
              exact ⟨_, setI (tp, fn, t, W, nm, some p, ch, i0, i1) p k (qAl (ig p.1 k) (nI m) 4), _, _, P, rfl, rfl, ⟨(pif_pos ⟨nI_pos (by omega), (Or.inl ⟨rfl, hv⟩)⟩).mpr ((pif_pos ⟨k, hk, rfl⟩).mpr ⟨k, hk, rfl, rfl, rfl⟩), setI_ok hO0 rfl (⟨hq.1, hq.2.1, hq.2.2.1, by show (nI m).toNatClampNeg < 64; rw [nI_clamp (by omega)]; omega, hq.2.2.2.2⟩)⟩, RC_item hO0 hC0 rfl hk (fun a h1 _ => gupI_n h1) (fun _ _ => rfl) (by rw [gupI_b, gupI_n (by omega)]; exact ⟨⟨hI.1.1, hI.1.2.1, (congrArg nI (nI_clamp (show m < 2 ^ 31 by omega))).symm, hI.1.2.2.2.1, hI.1.2.2.2.2⟩, hI.2⟩), RM_item hM0⟩
          rw [iM_self, iJ_self] at key
          exact key
        · have key : gTM (d + 14) 133 [.ref 0, .int (nI k), .int 5, .int v] (gST (iMI I I) (iMJ J J) P) (pC (tp, fn, t, W, nm, some p, ch, i0, i1) (fIt (tp, fn, t, W, nm, some p, ch, i0, i1) (nI k) (aOK (5 : Int32) v) (fun p k x s' => x = idF (ig p.1 k) (5 : Int32).toNatClampNeg ∧ s' = setI (tp, fn, t, W, nm, some p, ch, i0, i1) p k (qAl (ig p.1 k) v (5 : Int32).toNatClampNeg)))) := by
            refine gT_n 2 ?_
            refine ⟨fun c => absurd c (nI_pos (by omega)), fun _ => ?_⟩
            refine gT_n 3 ?_
            refine ⟨rfl, gTM.use (c_mayB1 (Or.inr (Or.inl ⟨rfl, hv⟩))) (Nat.le_refl _) (fun r u hq => ?_)⟩
            obtain ⟨rfl, rfl⟩ := hq  -- X11_mayBecome[K5, v]
            refine gT_n 1 ?_
            refine ⟨fun _ => ?_, fun c => absurd c (by decide)⟩
            refine gT_n 4 ?_
            refine ⟨rfl, rfl, rfl, ?_⟩
            refine gT_n 3 ?_
            refine ⟨rfl, fun _ => ?_, fun c => absurd c (kpT (p := fun z : Int32 => ¬ z = 0) (show _ = (1 : Int32) from kP.1) (by decide))⟩
            refine gT_n 2 ?_
            refine ⟨fun c => absurd c (nI_pos (by omega)), fun _ => ?_⟩
            refine gT_n 4 ?_
            refine ⟨rfl, pk_le p.1.length k (fun κ1 => ?_) (fun κ1 => ?_) ((kP.2 p rfl).1) (rfl) (by omega) (by omega)⟩
            · refine gT_n 2 ?_
              show gT _ 133 22 _ _ _ _ _
              refine gT_n 3 ?_
              refine ⟨fun c => absurd c (by decide), fun _ => ?_⟩
              refine gT_n 3 ?_
              exact absurd hk (by omega)
            · refine gT_n 3 ?_
              show gT _ 133 22 _ _ _ _ _
              refine gT_n 3 ?_
              refine ⟨fun _ => ?_, fun c => absurd (by decide) c⟩
              refine gT_n 5 ?_
              refine ⟨rfl, rfl, rfl, (pk_in k 10 (by omega) (rfl)), ?_⟩
              refine gT_top (aa_ref (b := P k) (rfl) (by omega) rfl) ?_
              refine gT_n 3 ?_
              refine ⟨hb.ob, rfl, ?_⟩
              refine gT_n 3 ?_
              refine ⟨hb.ob, rfl, gTM.use (c_detail5 hb hI2 hq) (Nat.le_refl _) (fun r u hq => ?_)⟩
              obtain ⟨rfl, rfl⟩ := hq  -- X1_detail[Rb, K5]
              refine gT_n 3 ?_
              refine ⟨fun c => absurd c (by decide), fun _ => ⟨fun _ => ?_, fun c => absurd rfl c⟩⟩
              refine gT_n 2 ?_
              refine ⟨hb.ob, ?_⟩
              refine gT_top (hb.v5) ?_
              refine gT_n 5 ?_
              refine ⟨hb.ar1, (pk_inS (m := 3) (k := 0) (hb.ln1) (by decide) (rfl)), ?_⟩
              refine gT_iA hbb1 (k := 0) (X := v) (rfl) (by decide) (rfl) ?_
              refine gT_n 3 ?_
              show gT _ 133 48 _ _ _ _ _
              refine gT_n 1 ?_
              exact ⟨_, setI (tp, fn, t, W, nm, some p, ch, i0, i1) p k (qAl (ig p.1 k) v 5), _, _, P, rfl, rfl, ⟨(pif_pos ⟨nI_pos (by omega), (Or.inr (Or.inl ⟨rfl, hv⟩))⟩).mpr ((pif_pos ⟨k, hk, rfl⟩).mpr ⟨k, hk, rfl, rfl, rfl⟩), setI_ok hO0 rfl (hq)⟩, RC_item hO0 hC0 rfl hk (fun a _ h2 => gupI_n h2) (fun _ _ => rfl) (by rw [gupI_n (by omega), gupI_b]; exact ⟨hI.1, hI.2.1, ⟨rfl, hI.2.2.2.1, hI.2.2.2.2⟩⟩), RM_item hM0⟩
          rw [iM_self, iJ_self] at key
          exact key
        · have key : gTM (d + 14) 133 [.ref 0, .int (nI k), .int 6, .int v] (gST (iMI I I) (iMJ J J) P) (pC (tp, fn, t, W, nm, some p, ch, i0, i1) (fIt (tp, fn, t, W, nm, some p, ch, i0, i1) (nI k) (aOK (6 : Int32) v) (fun p k x s' => x = idF (ig p.1 k) (6 : Int32).toNatClampNeg ∧ s' = setI (tp, fn, t, W, nm, some p, ch, i0, i1) p k (qAl (ig p.1 k) v (6 : Int32).toNatClampNeg)))) := by
            refine gT_n 2 ?_
            refine ⟨fun c => absurd c (nI_pos (by omega)), fun _ => ?_⟩
            refine gT_n 3 ?_
            refine ⟨rfl, gTM.use (c_mayB1 (Or.inr (Or.inr (Or.inl ⟨rfl, hv⟩)))) (Nat.le_refl _) (fun r u hq => ?_)⟩
            obtain ⟨rfl, rfl⟩ := hq  -- X11_mayBecome[K6, v]
            refine gT_n 1 ?_
            refine ⟨fun _ => ?_, fun c => absurd c (by decide)⟩
            refine gT_n 4 ?_
            refine ⟨rfl, rfl, rfl, ?_⟩
            refine gT_n 3 ?_
            refine ⟨rfl, fun _ => ?_, fun c => absurd c (kpT (p := fun z : Int32 => ¬ z = 0) (show _ = (1 : Int32) from kP.1) (by decide))⟩
            refine gT_n 2 ?_
            refine ⟨fun c => absurd c (nI_pos (by omega)), fun _ => ?_⟩
            refine gT_n 4 ?_
            refine ⟨rfl, pk_le p.1.length k (fun κ1 => ?_) (fun κ1 => ?_) ((kP.2 p rfl).1) (rfl) (by omega) (by omega)⟩
            · refine gT_n 2 ?_
              show gT _ 133 22 _ _ _ _ _
              refine gT_n 3 ?_
              refine ⟨fun c => absurd c (by decide), fun _ => ?_⟩
              refine gT_n 3 ?_
              exact absurd hk (by omega)
            · refine gT_n 3 ?_
              show gT _ 133 22 _ _ _ _ _
              refine gT_n 3 ?_
              refine ⟨fun _ => ?_, fun c => absurd (by decide) c⟩
              refine gT_n 5 ?_
              refine ⟨rfl, rfl, rfl, (pk_in k 10 (by omega) (rfl)), ?_⟩
              refine gT_top (aa_ref (b := P k) (rfl) (by omega) rfl) ?_
              refine gT_n 3 ?_
              refine ⟨hb.ob, rfl, ?_⟩
              refine gT_n 3 ?_
              refine ⟨hb.ob, rfl, gTM.use (c_detail6 hb hI2 hq) (Nat.le_refl _) (fun r u hq => ?_)⟩
              obtain ⟨rfl, rfl⟩ := hq  -- X1_detail[Rb, K6]
              refine gT_n 3 ?_
              refine ⟨fun c => absurd c (by decide), fun _ => ⟨fun c => absurd c (by decide), fun _ => ⟨fun _ => ?_, fun c => absurd rfl c⟩⟩⟩
              refine gT_n 2 ?_
              refine ⟨hb.ob, ?_⟩
              refine gT_top (hb.v5) ?_
              refine gT_n 5 ?_
              refine ⟨hb.ar1, (pk_inS (m := 3) (k := 1) (hb.ln1) (by decide) (rfl)), ?_⟩
              refine gT_iA hbb1 (k := 1) (X := v) (rfl) (by decide) (rfl) ?_
              refine gT_n 3 ?_
              show gT _ 133 48 _ _ _ _ _
              refine gT_n 1 ?_
              exact ⟨_, setI (tp, fn, t, W, nm, some p, ch, i0, i1) p k (qAl (ig p.1 k) v 6), _, _, P, rfl, rfl, ⟨(pif_pos ⟨nI_pos (by omega), (Or.inr (Or.inr (Or.inl ⟨rfl, hv⟩)))⟩).mpr ((pif_pos ⟨k, hk, rfl⟩).mpr ⟨k, hk, rfl, rfl, rfl⟩), setI_ok hO0 rfl (hq)⟩, RC_item hO0 hC0 rfl hk (fun a _ h2 => gupI_n h2) (fun _ _ => rfl) (by rw [gupI_n (by omega), gupI_b]; exact ⟨hI.1, hI.2.1, ⟨hI.2.2.1, rfl, hI.2.2.2.2⟩⟩), RM_item hM0⟩
          rw [iM_self, iJ_self] at key
          exact key
        · have key : gTM (d + 14) 133 [.ref 0, .int (nI k), .int 7, .int v] (gST (iMI I I) (iMJ J J) P) (pC (tp, fn, t, W, nm, some p, ch, i0, i1) (fIt (tp, fn, t, W, nm, some p, ch, i0, i1) (nI k) (aOK (7 : Int32) v) (fun p k x s' => x = idF (ig p.1 k) (7 : Int32).toNatClampNeg ∧ s' = setI (tp, fn, t, W, nm, some p, ch, i0, i1) p k (qAl (ig p.1 k) v (7 : Int32).toNatClampNeg)))) := by
            refine gT_n 2 ?_
            refine ⟨fun c => absurd c (nI_pos (by omega)), fun _ => ?_⟩
            refine gT_n 3 ?_
            refine ⟨rfl, gTM.use (c_mayB1 (Or.inr (Or.inr (Or.inr (Or.inl ⟨rfl, hv⟩))))) (Nat.le_refl _) (fun r u hq => ?_)⟩
            obtain ⟨rfl, rfl⟩ := hq  -- X11_mayBecome[K7, v]
            refine gT_n 1 ?_
            refine ⟨fun _ => ?_, fun c => absurd c (by decide)⟩
            refine gT_n 4 ?_
            refine ⟨rfl, rfl, rfl, ?_⟩
            refine gT_n 3 ?_
            refine ⟨rfl, fun _ => ?_, fun c => absurd c (kpT (p := fun z : Int32 => ¬ z = 0) (show _ = (1 : Int32) from kP.1) (by decide))⟩
            refine gT_n 2 ?_
            refine ⟨fun c => absurd c (nI_pos (by omega)), fun _ => ?_⟩
            refine gT_n 4 ?_
            refine ⟨rfl, pk_le p.1.length k (fun κ1 => ?_) (fun κ1 => ?_) ((kP.2 p rfl).1) (rfl) (by omega) (by omega)⟩
            · refine gT_n 2 ?_
              show gT _ 133 22 _ _ _ _ _
              refine gT_n 3 ?_
              refine ⟨fun c => absurd c (by decide), fun _ => ?_⟩
              refine gT_n 3 ?_
              exact absurd hk (by omega)
            · refine gT_n 3 ?_
              show gT _ 133 22 _ _ _ _ _
              refine gT_n 3 ?_
              refine ⟨fun _ => ?_, fun c => absurd (by decide) c⟩
              refine gT_n 5 ?_
              refine ⟨rfl, rfl, rfl, (pk_in k 10 (by omega) (rfl)), ?_⟩
              refine gT_top (aa_ref (b := P k) (rfl) (by omega) rfl) ?_
              refine gT_n 3 ?_
              refine ⟨hb.ob, rfl, ?_⟩
              refine gT_n 3 ?_
              refine ⟨hb.ob, rfl, gTM.use (c_detail7 hb hI2 hq) (Nat.le_refl _) (fun r u hq => ?_)⟩
              obtain ⟨rfl, rfl⟩ := hq  -- X1_detail[Rb, K7]
              refine gT_n 3 ?_
              refine ⟨fun c => absurd c (by decide), fun _ => ⟨fun c => absurd c (by decide), fun _ => ⟨fun c => absurd c (by decide), fun _ => ⟨fun _ => ?_, fun c => absurd rfl c⟩⟩⟩⟩
              refine gT_n 2 ?_
              refine ⟨hb.ob, ?_⟩
              refine gT_top (hb.v5) ?_
              refine gT_n 5 ?_
              refine ⟨hb.ar1, (pk_inS (m := 3) (k := 2) (hb.ln1) (by decide) (rfl)), ?_⟩
              refine gT_iA hbb1 (k := 2) (X := v) (rfl) (by decide) (rfl) ?_
              refine gT_n 3 ?_
              show gT _ 133 48 _ _ _ _ _
              refine gT_n 1 ?_
              exact ⟨_, setI (tp, fn, t, W, nm, some p, ch, i0, i1) p k (qAl (ig p.1 k) v 7), _, _, P, rfl, rfl, ⟨(pif_pos ⟨nI_pos (by omega), (Or.inr (Or.inr (Or.inr (Or.inl ⟨rfl, hv⟩))))⟩).mpr ((pif_pos ⟨k, hk, rfl⟩).mpr ⟨k, hk, rfl, rfl, rfl⟩), setI_ok hO0 rfl (hq)⟩, RC_item hO0 hC0 rfl hk (fun a _ h2 => gupI_n h2) (fun _ _ => rfl) (by rw [gupI_n (by omega), gupI_b]; exact ⟨hI.1, hI.2.1, ⟨hI.2.2.1, hI.2.2.2.1, rfl⟩⟩), RM_item hM0⟩
          rw [iM_self, iJ_self] at key
          exact key
        · have key : gTM (d + 14) 133 [.ref 0, .int (nI k), .int 8, .int v] (gST (iMI I I) (iMJ J J) P) (pC (tp, fn, t, W, nm, some p, ch, i0, i1) (fIt (tp, fn, t, W, nm, some p, ch, i0, i1) (nI k) (aOK (8 : Int32) v) (fun p k x s' => x = idF (ig p.1 k) (8 : Int32).toNatClampNeg ∧ s' = setI (tp, fn, t, W, nm, some p, ch, i0, i1) p k (qAl (ig p.1 k) v (8 : Int32).toNatClampNeg)))) := by
            refine gT_n 2 ?_
            refine ⟨fun c => absurd c (nI_pos (by omega)), fun _ => ?_⟩
            refine gT_n 3 ?_
            refine ⟨rfl, gTM.use (c_mayB1 (Or.inr (Or.inr (Or.inr (Or.inr (Or.inl ⟨rfl, hv⟩)))))) (Nat.le_refl _) (fun r u hq => ?_)⟩
            obtain ⟨rfl, rfl⟩ := hq  -- X11_mayBecome[K8, v]
            refine gT_n 1 ?_
            refine ⟨fun _ => ?_, fun c => absurd c (by decide)⟩
            refine gT_n 4 ?_
            refine ⟨rfl, rfl, rfl, ?_⟩
            refine gT_n 3 ?_
            refine ⟨rfl, fun _ => ?_, fun c => absurd c (kpT (p := fun z : Int32 => ¬ z = 0) (show _ = (1 : Int32) from kP.1) (by decide))⟩
            refine gT_n 2 ?_
            refine ⟨fun c => absurd c (nI_pos (by omega)), fun _ => ?_⟩
            refine gT_n 4 ?_
            refine ⟨rfl, pk_le p.1.length k (fun κ1 => ?_) (fun κ1 => ?_) ((kP.2 p rfl).1) (rfl) (by omega) (by omega)⟩
            · refine gT_n 2 ?_
              show gT _ 133 22 _ _ _ _ _
              refine gT_n 3 ?_
              refine ⟨fun c => absurd c (by decide), fun _ => ?_⟩
              refine gT_n 3 ?_
              exact absurd hk (by omega)
            · refine gT_n 3 ?_
              show gT _ 133 22 _ _ _ _ _
              refine gT_n 3 ?_
              refine ⟨fun _ => ?_, fun c => absurd (by decide) c⟩
              refine gT_n 5 ?_
              refine ⟨rfl, rfl, rfl, (pk_in k 10 (by omega) (rfl)), ?_⟩
              refine gT_top (aa_ref (b := P k) (rfl) (by omega) rfl) ?_
              refine gT_n 3 ?_
              refine ⟨hb.ob, rfl, ?_⟩
              refine gT_n 3 ?_
              refine ⟨hb.ob, rfl, gTM.use (c_detail8 hb hI2 hq) (Nat.le_refl _) (fun r u hq => ?_)⟩
              obtain ⟨rfl, rfl⟩ := hq  -- X1_detail[Rb, K8]
              refine gT_n 3 ?_
              refine ⟨fun c => absurd c (by decide), fun _ => ⟨fun c => absurd c (by decide), fun _ => ⟨fun c => absurd c (by decide), fun _ => ⟨fun c => absurd c (by decide), fun _ => ⟨fun _ => ?_, fun c => absurd rfl c⟩⟩⟩⟩⟩
              refine gT_n 3 ?_
              refine ⟨hb.ob, ?_⟩
              refine gT_iP hbb (X := v) (rfl) ?_
              refine gT_n 3 ?_
              show gT _ 133 48 _ _ _ _ _
              refine gT_n 1 ?_
              exact ⟨_, setI (tp, fn, t, W, nm, some p, ch, i0, i1) p k (qAl (ig p.1 k) v 8), _, _, P, rfl, rfl, ⟨(pif_pos ⟨nI_pos (by omega), (Or.inr (Or.inr (Or.inr (Or.inr (Or.inl ⟨rfl, hv⟩)))))⟩).mpr ((pif_pos ⟨k, hk, rfl⟩).mpr ⟨k, hk, rfl, rfl, rfl⟩), setI_ok hO0 rfl (⟨hq.1, hq.2.1, hq.2.2.1, hq.2.2.2.1, Int32.lt_of_lt_of_le (by decide) hv.1⟩)⟩, RC_item hO0 hC0 rfl hk (fun a h1 _ => gupI_n h1) (fun _ _ => rfl) (by rw [gupI_b, gupI_n (by omega)]; exact ⟨⟨hI.1.1, hI.1.2.1, hI.1.2.2.1, rfl, hI.1.2.2.2.2⟩, hI.2⟩), RM_item hM0⟩
          rw [iM_self, iJ_self] at key
          exact key
        · have key : gTM (d + 14) 133 [.ref 0, .int (nI k), .int 9, .int v] (gST (iMI I I) (iMJ J J) P) (pC (tp, fn, t, W, nm, some p, ch, i0, i1) (fIt (tp, fn, t, W, nm, some p, ch, i0, i1) (nI k) (aOK (9 : Int32) v) (fun p k x s' => x = idF (ig p.1 k) (9 : Int32).toNatClampNeg ∧ s' = setI (tp, fn, t, W, nm, some p, ch, i0, i1) p k (qAl (ig p.1 k) v (9 : Int32).toNatClampNeg)))) := by
            refine gT_n 2 ?_
            refine ⟨fun c => absurd c (nI_pos (by omega)), fun _ => ?_⟩
            refine gT_n 3 ?_
            refine ⟨rfl, gTM.use (c_mayB1 (Or.inr (Or.inr (Or.inr (Or.inr (Or.inr (⟨rfl, hv⟩))))))) (Nat.le_refl _) (fun r u hq => ?_)⟩
            obtain ⟨rfl, rfl⟩ := hq  -- X11_mayBecome[K9, v]
            refine gT_n 1 ?_
            refine ⟨fun _ => ?_, fun c => absurd c (by decide)⟩
            refine gT_n 4 ?_
            refine ⟨rfl, rfl, rfl, ?_⟩
            refine gT_n 3 ?_
            refine ⟨rfl, fun _ => ?_, fun c => absurd c (kpT (p := fun z : Int32 => ¬ z = 0) (show _ = (1 : Int32) from kP.1) (by decide))⟩
            refine gT_n 2 ?_
            refine ⟨fun c => absurd c (nI_pos (by omega)), fun _ => ?_⟩
            refine gT_n 4 ?_
            refine ⟨rfl, pk_le p.1.length k (fun κ1 => ?_) (fun κ1 => ?_) ((kP.2 p rfl).1) (rfl) (by omega) (by omega)⟩
            · refine gT_n 2 ?_
              show gT _ 133 22 _ _ _ _ _
              refine gT_n 3 ?_
              refine ⟨fun c => absurd c (by decide), fun _ => ?_⟩
              refine gT_n 3 ?_
              exact absurd hk (by omega)
            · refine gT_n 3 ?_
              show gT _ 133 22 _ _ _ _ _
              refine gT_n 3 ?_
              refine ⟨fun _ => ?_, fun c => absurd (by decide) c⟩
              refine gT_n 5 ?_
              refine ⟨rfl, rfl, rfl, (pk_in k 10 (by omega) (rfl)), ?_⟩
              refine gT_top (aa_ref (b := P k) (rfl) (by omega) rfl) ?_
              refine gT_n 3 ?_
              refine ⟨hb.ob, rfl, ?_⟩
              refine gT_n 3 ?_
              refine ⟨hb.ob, rfl, gTM.use (c_detail9 hb hI2 hq) (Nat.le_refl _) (fun r u hq => ?_)⟩
              obtain ⟨rfl, rfl⟩ := hq  -- X1_detail[Rb, K9]
              refine gT_n 3 ?_
              refine ⟨fun c => absurd c (by decide), fun _ => ⟨fun c => absurd c (by decide), fun _ => ⟨fun c => absurd c (by decide), fun _ => ⟨fun c => absurd c (by decide), fun _ => ⟨fun c => absurd c (by decide), fun _ => ⟨fun _ => ?_, fun c => absurd rfl c⟩⟩⟩⟩⟩⟩
              refine gT_n 3 ?_
              refine ⟨hb.ob, ?_⟩
              refine gT_iP hbb (X := v) (rfl) ?_
              refine gT_n 3 ?_
              show gT _ 133 48 _ _ _ _ _
              refine gT_n 1 ?_
              exact ⟨_, setI (tp, fn, t, W, nm, some p, ch, i0, i1) p k (qAl (ig p.1 k) v 9), _, _, P, rfl, rfl, ⟨(pif_pos ⟨nI_pos (by omega), (Or.inr (Or.inr (Or.inr (Or.inr (Or.inr (⟨rfl, hv⟩))))))⟩).mpr ((pif_pos ⟨k, hk, rfl⟩).mpr ⟨k, hk, rfl, rfl, rfl⟩), setI_ok hO0 rfl (hq)⟩, RC_item hO0 hC0 rfl hk (fun a h1 _ => gupI_n h1) (fun _ _ => rfl) (by rw [gupI_b, gupI_n (by omega)]; exact ⟨⟨hI.1.1, hI.1.2.1, hI.1.2.2.1, hI.1.2.2.2.1, rfl⟩, hI.2⟩), RM_item hM0⟩
          rw [iM_self, iJ_self] at key
          exact key
      · refine gT_n 2 ?_
        refine px_lt (X := i) (Y := (0)) (rfl) (rfl) (fun κ1 => ?_) (fun κ1 => ?_)
        · refine gT_n 2 ?_
          exact absurd κ1 hh.1
        · refine gT_n 3 ?_
          refine ⟨rfl, gTM.use (c_mayB1 hh.2) (Nat.le_refl _) (fun r u hq => ?_)⟩
          obtain ⟨rfl, rfl⟩ := hq  -- X11_mayBecome[w, v]
          refine gT_n 1 ?_
          refine ⟨fun _ => ?_, fun c => absurd c (by decide)⟩
          refine gT_n 4 ?_
          refine ⟨rfl, rfl, rfl, ?_⟩
          refine gT_n 3 ?_
          refine ⟨rfl, fun _ => ?_, fun c => absurd c (kpT (p := fun z : Int32 => ¬ z = 0) (show _ = (1 : Int32) from kP.1) (by decide))⟩
          refine gT_n 2 ?_
          refine px_lt (X := i) (Y := (0)) (rfl) (rfl) (fun c => by first | exact absurd κ1 c | exact absurd c κ1 | (exfalso; omega)) (fun _ => ?_)
          refine gT_n 4 ?_
          refine ⟨rfl, px_ge (X := i) (Y := nI p.1.length) (rfl) ((kP.2 p rfl).1) (fun κ2 => ?_) (fun κ2 => ?_)⟩
          · refine gT_n 2 ?_
            show gT _ 133 22 _ _ _ _ _
            refine gT_n 3 ?_
            refine ⟨fun c => absurd c (by decide), fun _ => ?_⟩
            refine gT_n 3 ?_
            exact ⟨_, _, I, J, P, rfl, rfl, ⟨(pif_pos hh).mpr ((pif_neg hj).mpr ⟨rfl, rfl⟩), hO0⟩, hC0, hM0⟩
          · refine gT_n 3 ?_
            show gT _ 133 22 _ _ _ _ _
            refine gT_n 3 ?_
            refine ⟨fun _ => ?_, fun c => absurd (by decide) c⟩
            exact absurd (inZ_of (by omega) hh.1 (by first | exact κ2 | exact Int32.not_le.mpr κ2)) hj
  · refine gT_n 2 ?_
    refine px_lt (X := i) (Y := (0)) (rfl) (rfl) (fun κ1 => ?_) (fun κ1 => ?_)
    · refine gT_n 2 ?_
      exact ⟨_, _, I, J, P, rfl, rfl, ⟨(pif_neg hh).mpr ⟨rfl, rfl⟩, hO0⟩, hC0, hM0⟩
    · refine gT_n 3 ?_
      refine ⟨rfl, gTM.use (c_mayB) (Nat.le_refl _) (fun r u hq => ?_)⟩
      obtain ⟨rfl, ⟨rfl, β2⟩ | ⟨rfl, β2⟩⟩ := hq  -- X11_mayBecome[w, v]
      · refine gT_n 1 ?_
        refine ⟨fun _ => ?_, fun c => absurd c (by decide)⟩
        exact absurd ⟨κ1, β2⟩ hh
      · refine gT_n 1 ?_
        refine ⟨fun c => absurd (by decide) c, fun _ => ?_⟩
        refine gT_n 2 ?_
        exact ⟨_, _, I, J, P, rfl, rfl, ⟨(pif_neg hh).mpr ⟨rfl, rfl⟩, hO0⟩, hC0, hM0⟩
theorem o_alter_m {d : Nat} {s s' : zS} {x : Int32} {I : Nat → Nat → Int32} {J : Nat → Nat → Int64} {P : Nat → Nat} {i w v : Int32} (hO : sOK s) (hS : (fIt s i (aOK w v) (fun p k x s' => x = idF (ig p.1 k) w.toNatClampNeg ∧ s' = setI s p k (qAl (ig p.1 k) v w.toNatClampNeg))) x s') (hC : RC s' I J P) (hM : RM s I J) : gTM (d + 14) 237 [.ref 171, .int i, .int w, .int v] (gST I J P) (pM x s') := by
  obtain ⟨tp, fn, t, W, nm, pr, ch, i0, i1⟩ := s
  have hO0 := hO
  have hM0 := hM
  obtain ⟨oTp, oT, oW, oN, oP, oI0, oI1⟩ := hO
  obtain ⟨jTp, jF, jT, jSp, jW, jN, jP, jC, jI0, jI1, jB, jL⟩ := hM
  dsimp only at oTp oT oW oN oP oI0 oI1 jTp jF jT jSp jW jN jP jC jI0 jI1
  try dsimp only at hS
  by_cases hh : ¬ i < 0 ∧ aOK w v
  · replace hS := (pif_pos hh).mp hS
    cases pr with
    | none =>
      obtain ⟨rfl, rfl⟩ := hS
      refine gT_n 5 ?_
      refine ⟨rfl, gTM.use (m_isAl1 hh.2) (Nat.le_refl _) (fun r u hq => ?_)⟩
      obtain ⟨rfl, rfl⟩ := hq  -- X12_isAltered[w, v]
      refine gT_n 1 ?_
      refine ⟨rfl, rfl, ?_⟩
      refine gT_n 2 ?_
      refine px_lt (X := i) (Y := (0)) (rfl) (rfl) (fun κ1 => ?_) (fun κ1 => ?_)
      · refine gT_n 3 ?_
        show gT _ 237 10 _ _ _ _ _
        refine gT_n 3 ?_
        refine ⟨fun c => absurd c (by decide), fun _ => ?_⟩
        refine gT_n 2 ?_
        exact absurd κ1 hh.1
      · refine gT_n 2 ?_
        refine ⟨fun _ => ?_, fun c => absurd c (by decide)⟩
        refine gT_n 3 ?_
        refine ⟨rfl, fun c => absurd c (kpT (p := fun z : Int32 => ¬ (¬ z = 0)) (show _ = (0 : Int32) from jP.1) (by decide)), fun _ => ?_⟩
        refine gT_n 3 ?_
        show gT _ 237 10 _ _ _ _ _
        refine gT_n 3 ?_
        refine ⟨fun c => absurd c (by decide), fun _ => ?_⟩
        refine gT_n 2 ?_
        exact ⟨I, J, P, rfl, rfl, hC, hM0⟩
    | some p =>
      obtain ⟨h10, hoI, -⟩ := oP p rfl
      by_cases hj : inZ p.1.length i
      · have hT := (pif_pos hj).mp hS
        clear hS
        obtain ⟨k, hk, rfl, hS⟩ := hT
        try dsimp only at hS
        have hI := (jP.2 p rfl).2.2.2.2 k hk
        have hq := hoI _ (ig_mem hk)
        rcases hh.2 with ⟨rfl, hv⟩ | ⟨rfl, hv⟩ | ⟨rfl, hv⟩ | ⟨rfl, hv⟩ | ⟨rfl, hv⟩ | ⟨rfl, hv⟩
        · obtain ⟨m, hm, e⟩ := rngN (n := 63) (by omega) hv
          subst e
          refine gT_n 5 ?_
          refine ⟨rfl, gTM.use (m_isAl1 (Or.inl ⟨rfl, hv⟩)) (Nat.le_refl _) (fun r u hq => ?_)⟩
          obtain ⟨rfl, rfl⟩ := hq  -- X12_isAltered[K4, nI m]
          refine gT_n 1 ?_
          refine ⟨rfl, rfl, ?_⟩
          refine gT_n 2 ?_
          refine ⟨fun c => absurd c (nI_pos (by omega)), fun _ => ?_⟩
          refine gT_n 2 ?_
          refine ⟨fun _ => ?_, fun c => absurd c (by decide)⟩
          refine gT_n 3 ?_
          refine ⟨rfl, fun _ => ?_, fun c => absurd c (kpT (p := fun z : Int32 => ¬ z = 0) (show _ = (1 : Int32) from jP.1) (by decide))⟩
          refine gT_n 4 ?_
          refine ⟨rfl, pk_lt k p.1.length (fun κ1 => ?_) (fun κ1 => ?_) (rfl) ((jP.2 p rfl).1) (by omega) (by omega)⟩
          · refine gT_n 2 ?_
            show gT _ 237 10 _ _ _ _ _
            refine gT_n 3 ?_
            refine ⟨fun _ => ?_, fun c => absurd (by decide) c⟩
            refine gT_n 4 ?_
            refine ⟨rfl, rfl, ?_⟩
            refine gT_n 7 ?_
            refine ⟨rfl, gTM.use (m_in1 (x := 0) (z := 10) rfl rfl (by decide)) (Nat.le_refl _) (fun r u hq => ?_)⟩
            obtain ⟨rfl, rfl⟩ := hq  -- X12_in[i2l(K4), lN 0, lN 10]
            refine gT_n 1 ?_
            refine ⟨rfl, rfl, ?_⟩
            refine gT_n 2 ?_
            refine ⟨fun c => absurd c (nI_pos (by omega)), fun _ => ?_⟩
            refine gT_n 2 ?_
            refine ⟨fun _ => ?_, fun c => absurd c (by decide)⟩
            refine gT_n 3 ?_
            refine ⟨rfl, fun _ => ?_, fun c => absurd c (kpT (p := fun z : Int32 => ¬ z = 0) (show _ = (1 : Int32) from jP.1) (by decide))⟩
            refine gT_n 4 ?_
            refine ⟨rfl, pk_lt k p.1.length (fun _ => ?_) (fun c => by first | exact absurd κ1 c | exact absurd c κ1 | (exfalso; omega)) (rfl) ((jP.2 p rfl).1) (by omega) (by omega)⟩
            refine gT_n 2 ?_
            show gT _ 232 14 _ _ _ _ _
            refine gT_n 3 ?_
            refine ⟨fun _ => ?_, fun c => absurd (by decide) c⟩
            refine gT_n 2 ?_
            refine ⟨fun c => absurd c (by decide), fun _ => ⟨fun c => absurd c (by decide), fun _ => ⟨fun c => absurd c (by decide), fun _ => ⟨fun c => absurd c (by decide), fun _ => ⟨fun _ => ?_, fun c => absurd rfl c⟩⟩⟩⟩⟩
            refine gT_n 5 ?_
            refine ⟨rfl, rfl, (pk_in k 10 (by omega) (rfl)), ?_⟩
            show gT _ 237 26 _ _ _ _ _
            refine gT_n 1 ?_
            refine gT_k (L := [(5, .int (nI (ig p.1 k).2.2.2.2.1)), (4, .int 0), (0, .ref 171), (1, .int (nI k)), (2, .int 4), (3, .int (nI m))]) ?_ ⟨(viI ((rdI (rfl) (by omega) hI.1.2.2.1))), rfl, rfl, rfl, rfl, rfl, trivial⟩ rfl
            refine gT_n 5 ?_
            refine ⟨rfl, rfl, ?_⟩
            refine gT_n 2 ?_
            refine ⟨fun _ => ?_, fun c => absurd rfl c⟩
            refine gT_n 5 ?_
            refine ⟨rfl, rfl, (pk_in k 10 (by omega) (rfl)), ?_⟩
            refine gT_iv (n := k) (X := (nI m)) (rfl) (by omega) (rfl) ?_
            refine gT_n 2 ?_
            refine ⟨rfl, ?_⟩
            show gT _ 237 35 _ _ _ _ _
            refine gT_n 2 ?_
            obtain ⟨rfl, rfl⟩ := hS
            exact ⟨_, J, P, rfl, ri (rfl), hC, ⟨jTp, jF, jT, jSp, jW, jN, ⟨jP.1, fun r hr => by
              cases hr
              exact mP_set (jP.2 p rfl) hk ⟨⟨hI.1.1, hI.1.2.1, upd_at.trans (congrArg nI (nI_clamp (show m < 2 ^ 31 by omega))).symm, hI.1.2.2.2.1, hI.1.2.2.2.2⟩, hI.2⟩ (fun j hj r h => ⟨⟨h.1.1, h.1.2.1, (if_neg hj).trans h.1.2.2.1, h.1.2.2.2.1, h.1.2.2.2.2⟩, h.2⟩)⟩, jC, jI0, jI1, jB, jL⟩⟩
          · refine gT_n 3 ?_
            show gT _ 237 10 _ _ _ _ _
            refine gT_n 3 ?_
            refine ⟨fun c => absurd c (by decide), fun _ => ?_⟩
            refine gT_n 2 ?_
            exact absurd hk (by omega)
        · refine gT_n 5 ?_
          refine ⟨rfl, gTM.use (m_isAl1 (Or.inr (Or.inl ⟨rfl, hv⟩))) (Nat.le_refl _) (fun r u hq => ?_)⟩
          obtain ⟨rfl, rfl⟩ := hq  -- X12_isAltered[K5, v]
          refine gT_n 1 ?_
          refine ⟨rfl, rfl, ?_⟩
          refine gT_n 2 ?_
          refine ⟨fun c => absurd c (nI_pos (by omega)), fun _ => ?_⟩
          refine gT_n 2 ?_
          refine ⟨fun _ => ?_, fun c => absurd c (by decide)⟩
          refine gT_n 3 ?_
          refine ⟨rfl, fun _ => ?_, fun c => absurd c (kpT (p := fun z : Int32 => ¬ z = 0) (show _ = (1 : Int32) from jP.1) (by decide))⟩
          refine gT_n 4 ?_
          refine ⟨rfl, pk_lt k p.1.length (fun κ1 => ?_) (fun κ1 => ?_) (rfl) ((jP.2 p rfl).1) (by omega) (by omega)⟩
          · refine gT_n 2 ?_
            show gT _ 237 10 _ _ _ _ _
            refine gT_n 3 ?_
            refine ⟨fun _ => ?_, fun c => absurd (by decide) c⟩
            refine gT_n 4 ?_
            refine ⟨rfl, rfl, ?_⟩
            refine gT_n 7 ?_
            refine ⟨rfl, gTM.use (m_in1 (x := 0) (z := 10) rfl rfl (by decide)) (Nat.le_refl _) (fun r u hq => ?_)⟩
            obtain ⟨rfl, rfl⟩ := hq  -- X12_in[i2l(K5), lN 0, lN 10]
            refine gT_n 1 ?_
            refine ⟨rfl, rfl, ?_⟩
            refine gT_n 2 ?_
            refine ⟨fun c => absurd c (nI_pos (by omega)), fun _ => ?_⟩
            refine gT_n 2 ?_
            refine ⟨fun _ => ?_, fun c => absurd c (by decide)⟩
            refine gT_n 3 ?_
            refine ⟨rfl, fun _ => ?_, fun c => absurd c (kpT (p := fun z : Int32 => ¬ z = 0) (show _ = (1 : Int32) from jP.1) (by decide))⟩
            refine gT_n 4 ?_
            refine ⟨rfl, pk_lt k p.1.length (fun _ => ?_) (fun c => by first | exact absurd κ1 c | exact absurd c κ1 | (exfalso; omega)) (rfl) ((jP.2 p rfl).1) (by omega) (by omega)⟩
            refine gT_n 2 ?_
            show gT _ 232 14 _ _ _ _ _
            refine gT_n 3 ?_
            refine ⟨fun _ => ?_, fun c => absurd (by decide) c⟩
            refine gT_n 2 ?_
            refine ⟨fun c => absurd c (by decide), fun _ => ⟨fun c => absurd c (by decide), fun _ => ⟨fun c => absurd c (by decide), fun _ => ⟨fun c => absurd c (by decide), fun _ => ⟨fun c => absurd c (by decide), fun _ => ⟨fun _ => ?_, fun c => absurd rfl c⟩⟩⟩⟩⟩⟩
            refine gT_n 11 ?_
            refine ⟨rfl, rfl, (pk_in (((3 * k) + 5) - 5) 30 (by omega) (pk_subE (n := ((3 * k) + 5)) (k := 5) (pk_addE (n := (3 * k)) (k := 5) (pk_mulE (n := 3) (k := k) (rfl) (rfl)) (rfl)) (rfl) (by omega))), ?_⟩
            show gT _ 237 26 _ _ _ _ _
            refine gT_n 1 ?_
            refine gT_k (L := [(5, .int (ig p.1 k).2.2.2.2.2.1.1), (4, .int 0), (0, .ref 171), (1, .int (nI k)), (2, .int 5), (3, .int v)]) ?_ ⟨(viI ((rdI (Eq.trans (pk_subE (n := ((3 * k) + 5)) (k := 5) (pk_addE (n := (3 * k)) (k := 5) (pk_mulE (n := 3) (k := k) (rfl) (rfl)) (rfl)) (rfl) (by omega)) (congrArg nI (show (((3 * k) + 5) - 5) = 3 * k + 0 by omega))) (by omega) hI.2.2.1))), rfl, rfl, rfl, rfl, rfl, trivial⟩ rfl
            refine gT_n 5 ?_
            refine ⟨rfl, rfl, ?_⟩
            refine gT_n 2 ?_
            refine ⟨fun c => absurd c (by decide), fun _ => ⟨fun c => absurd c (by decide), fun _ => ⟨fun c => absurd c (by decide), fun _ => ?_⟩⟩⟩
            refine gT_n 11 ?_
            refine ⟨rfl, rfl, (pk_in (((3 * k) + 5) - 5) 30 (by omega) (pk_subE (n := ((3 * k) + 5)) (k := 5) (pk_addE (n := (3 * k)) (k := 5) (pk_mulE (n := 3) (k := k) (rfl) (rfl)) (rfl)) (rfl) (by omega))), ?_⟩
            refine gT_iv (n := (((3 * k) + 5) - 5)) (X := v) (pk_subE (n := ((3 * k) + 5)) (k := 5) (pk_addE (n := (3 * k)) (k := 5) (pk_mulE (n := 3) (k := k) (rfl) (rfl)) (rfl)) (rfl) (by omega)) (by omega) (rfl) ?_
            refine gT_n 1 ?_
            refine ⟨rfl, ?_⟩
            show gT _ 237 35 _ _ _ _ _
            refine gT_n 2 ?_
            obtain ⟨rfl, rfl⟩ := hS
            exact ⟨_, J, P, rfl, ri (rfl), hC, ⟨jTp, jF, jT, jSp, jW, jN, ⟨jP.1, fun r hr => by
              cases hr
              exact mP_set (jP.2 p rfl) hk ⟨hI.1, hI.2.1, upd_at, (if_neg (by omega)).trans hI.2.2.2.1, (if_neg (by omega)).trans hI.2.2.2.2⟩ (fun j hj r h => ⟨h.1, h.2.1, (if_neg (by omega)).trans h.2.2.1, (if_neg (by omega)).trans h.2.2.2.1, (if_neg (by omega)).trans h.2.2.2.2⟩)⟩, jC, jI0, jI1, jB, jL⟩⟩
          · refine gT_n 3 ?_
            show gT _ 237 10 _ _ _ _ _
            refine gT_n 3 ?_
            refine ⟨fun c => absurd c (by decide), fun _ => ?_⟩
            refine gT_n 2 ?_
            exact absurd hk (by omega)
        · refine gT_n 5 ?_
          refine ⟨rfl, gTM.use (m_isAl1 (Or.inr (Or.inr (Or.inl ⟨rfl, hv⟩)))) (Nat.le_refl _) (fun r u hq => ?_)⟩
          obtain ⟨rfl, rfl⟩ := hq  -- X12_isAltered[K6, v]
          refine gT_n 1 ?_
          refine ⟨rfl, rfl, ?_⟩
          refine gT_n 2 ?_
          refine ⟨fun c => absurd c (nI_pos (by omega)), fun _ => ?_⟩
          refine gT_n 2 ?_
          refine ⟨fun _ => ?_, fun c => absurd c (by decide)⟩
          refine gT_n 3 ?_
          refine ⟨rfl, fun _ => ?_, fun c => absurd c (kpT (p := fun z : Int32 => ¬ z = 0) (show _ = (1 : Int32) from jP.1) (by decide))⟩
          refine gT_n 4 ?_
          refine ⟨rfl, pk_lt k p.1.length (fun κ1 => ?_) (fun κ1 => ?_) (rfl) ((jP.2 p rfl).1) (by omega) (by omega)⟩
          · refine gT_n 2 ?_
            show gT _ 237 10 _ _ _ _ _
            refine gT_n 3 ?_
            refine ⟨fun _ => ?_, fun c => absurd (by decide) c⟩
            refine gT_n 4 ?_
            refine ⟨rfl, rfl, ?_⟩
            refine gT_n 7 ?_
            refine ⟨rfl, gTM.use (m_in1 (x := 0) (z := 10) rfl rfl (by decide)) (Nat.le_refl _) (fun r u hq => ?_)⟩
            obtain ⟨rfl, rfl⟩ := hq  -- X12_in[i2l(K6), lN 0, lN 10]
            refine gT_n 1 ?_
            refine ⟨rfl, rfl, ?_⟩
            refine gT_n 2 ?_
            refine ⟨fun c => absurd c (nI_pos (by omega)), fun _ => ?_⟩
            refine gT_n 2 ?_
            refine ⟨fun _ => ?_, fun c => absurd c (by decide)⟩
            refine gT_n 3 ?_
            refine ⟨rfl, fun _ => ?_, fun c => absurd c (kpT (p := fun z : Int32 => ¬ z = 0) (show _ = (1 : Int32) from jP.1) (by decide))⟩
            refine gT_n 4 ?_
            refine ⟨rfl, pk_lt k p.1.length (fun _ => ?_) (fun c => by first | exact absurd κ1 c | exact absurd c κ1 | (exfalso; omega)) (rfl) ((jP.2 p rfl).1) (by omega) (by omega)⟩
            refine gT_n 2 ?_
            show gT _ 232 14 _ _ _ _ _
            refine gT_n 3 ?_
            refine ⟨fun _ => ?_, fun c => absurd (by decide) c⟩
            refine gT_n 2 ?_
            refine ⟨fun c => absurd c (by decide), fun _ => ⟨fun c => absurd c (by decide), fun _ => ⟨fun c => absurd c (by decide), fun _ => ⟨fun c => absurd c (by decide), fun _ => ⟨fun c => absurd c (by decide), fun _ => ⟨fun c => absurd c (by decide), fun _ => ⟨fun _ => ?_, fun c => absurd rfl c⟩⟩⟩⟩⟩⟩⟩
            refine gT_n 11 ?_
            refine ⟨rfl, rfl, (pk_in (((3 * k) + 6) - 5) 30 (by omega) (pk_subE (n := ((3 * k) + 6)) (k := 5) (pk_addE (n := (3 * k)) (k := 6) (pk_mulE (n := 3) (k := k) (rfl) (rfl)) (rfl)) (rfl) (by omega))), ?_⟩
            show gT _ 237 26 _ _ _ _ _
            refine gT_n 1 ?_
            refine gT_k (L := [(5, .int (ig p.1 k).2.2.2.2.2.1.2.1), (4, .int 0), (0, .ref 171), (1, .int (nI k)), (2, .int 6), (3, .int v)]) ?_ ⟨(viI ((rdI (Eq.trans (pk_subE (n := ((3 * k) + 6)) (k := 5) (pk_addE (n := (3 * k)) (k := 6) (pk_mulE (n := 3) (k := k) (rfl) (rfl)) (rfl)) (rfl) (by omega)) (congrArg nI (show (((3 * k) + 6) - 5) = 3 * k + 1 by omega))) (by omega) hI.2.2.2.1))), rfl, rfl, rfl, rfl, rfl, trivial⟩ rfl
            refine gT_n 5 ?_
            refine ⟨rfl, rfl, ?_⟩
            refine gT_n 2 ?_
            refine ⟨fun c => absurd c (by decide), fun _ => ⟨fun c => absurd c (by decide), fun _ => ⟨fun c => absurd c (by decide), fun _ => ?_⟩⟩⟩
            refine gT_n 11 ?_
            refine ⟨rfl, rfl, (pk_in (((3 * k) + 6) - 5) 30 (by omega) (pk_subE (n := ((3 * k) + 6)) (k := 5) (pk_addE (n := (3 * k)) (k := 6) (pk_mulE (n := 3) (k := k) (rfl) (rfl)) (rfl)) (rfl) (by omega))), ?_⟩
            refine gT_iv (n := (((3 * k) + 6) - 5)) (X := v) (pk_subE (n := ((3 * k) + 6)) (k := 5) (pk_addE (n := (3 * k)) (k := 6) (pk_mulE (n := 3) (k := k) (rfl) (rfl)) (rfl)) (rfl) (by omega)) (by omega) (rfl) ?_
            refine gT_n 1 ?_
            refine ⟨rfl, ?_⟩
            show gT _ 237 35 _ _ _ _ _
            refine gT_n 2 ?_
            obtain ⟨rfl, rfl⟩ := hS
            exact ⟨_, J, P, rfl, ri (rfl), hC, ⟨jTp, jF, jT, jSp, jW, jN, ⟨jP.1, fun r hr => by
              cases hr
              exact mP_set (jP.2 p rfl) hk ⟨hI.1, hI.2.1, (if_neg (by omega)).trans hI.2.2.1, upd_at, (if_neg (by omega)).trans hI.2.2.2.2⟩ (fun j hj r h => ⟨h.1, h.2.1, (if_neg (by omega)).trans h.2.2.1, (if_neg (by omega)).trans h.2.2.2.1, (if_neg (by omega)).trans h.2.2.2.2⟩)⟩, jC, jI0, jI1, jB, jL⟩⟩
          · refine gT_n 3 ?_
            show gT _ 237 10 _ _ _ _ _
            refine gT_n 3 ?_
            refine ⟨fun c => absurd c (by decide), fun _ => ?_⟩
            refine gT_n 2 ?_
            exact absurd hk (by omega)
        · refine gT_n 5 ?_
          refine ⟨rfl, gTM.use (m_isAl1 (Or.inr (Or.inr (Or.inr (Or.inl ⟨rfl, hv⟩))))) (Nat.le_refl _) (fun r u hq => ?_)⟩
          obtain ⟨rfl, rfl⟩ := hq  -- X12_isAltered[K7, v]
          refine gT_n 1 ?_
          refine ⟨rfl, rfl, ?_⟩
          refine gT_n 2 ?_
          refine ⟨fun c => absurd c (nI_pos (by omega)), fun _ => ?_⟩
          refine gT_n 2 ?_
          refine ⟨fun _ => ?_, fun c => absurd c (by decide)⟩
          refine gT_n 3 ?_
          refine ⟨rfl, fun _ => ?_, fun c => absurd c (kpT (p := fun z : Int32 => ¬ z = 0) (show _ = (1 : Int32) from jP.1) (by decide))⟩
          refine gT_n 4 ?_
          refine ⟨rfl, pk_lt k p.1.length (fun κ1 => ?_) (fun κ1 => ?_) (rfl) ((jP.2 p rfl).1) (by omega) (by omega)⟩
          · refine gT_n 2 ?_
            show gT _ 237 10 _ _ _ _ _
            refine gT_n 3 ?_
            refine ⟨fun _ => ?_, fun c => absurd (by decide) c⟩
            refine gT_n 4 ?_
            refine ⟨rfl, rfl, ?_⟩
            refine gT_n 7 ?_
            refine ⟨rfl, gTM.use (m_in1 (x := 0) (z := 10) rfl rfl (by decide)) (Nat.le_refl _) (fun r u hq => ?_)⟩
            obtain ⟨rfl, rfl⟩ := hq  -- X12_in[i2l(K7), lN 0, lN 10]
            refine gT_n 1 ?_
            refine ⟨rfl, rfl, ?_⟩
            refine gT_n 2 ?_
            refine ⟨fun c => absurd c (nI_pos (by omega)), fun _ => ?_⟩
            refine gT_n 2 ?_
            refine ⟨fun _ => ?_, fun c => absurd c (by decide)⟩
            refine gT_n 3 ?_
            refine ⟨rfl, fun _ => ?_, fun c => absurd c (kpT (p := fun z : Int32 => ¬ z = 0) (show _ = (1 : Int32) from jP.1) (by decide))⟩
            refine gT_n 4 ?_
            refine ⟨rfl, pk_lt k p.1.length (fun _ => ?_) (fun c => by first | exact absurd κ1 c | exact absurd c κ1 | (exfalso; omega)) (rfl) ((jP.2 p rfl).1) (by omega) (by omega)⟩
            refine gT_n 2 ?_
            show gT _ 232 14 _ _ _ _ _
            refine gT_n 3 ?_
            refine ⟨fun _ => ?_, fun c => absurd (by decide) c⟩
            refine gT_n 2 ?_
            refine ⟨fun c => absurd c (by decide), fun _ => ⟨fun c => absurd c (by decide), fun _ => ⟨fun c => absurd c (by decide), fun _ => ⟨fun c => absurd c (by decide), fun _ => ⟨fun c => absurd c (by decide), fun _ => ⟨fun c => absurd c (by decide), fun _ => ⟨fun c => absurd c (by decide), fun _ => ⟨fun _ => ?_, fun c => absurd rfl c⟩⟩⟩⟩⟩⟩⟩⟩
            refine gT_n 11 ?_
            refine ⟨rfl, rfl, (pk_in (((3 * k) + 7) - 5) 30 (by omega) (pk_subE (n := ((3 * k) + 7)) (k := 5) (pk_addE (n := (3 * k)) (k := 7) (pk_mulE (n := 3) (k := k) (rfl) (rfl)) (rfl)) (rfl) (by omega))), ?_⟩
            show gT _ 237 26 _ _ _ _ _
            refine gT_n 1 ?_
            refine gT_k (L := [(5, .int (ig p.1 k).2.2.2.2.2.1.2.2), (4, .int 0), (0, .ref 171), (1, .int (nI k)), (2, .int 7), (3, .int v)]) ?_ ⟨(viI ((rdI (Eq.trans (pk_subE (n := ((3 * k) + 7)) (k := 5) (pk_addE (n := (3 * k)) (k := 7) (pk_mulE (n := 3) (k := k) (rfl) (rfl)) (rfl)) (rfl) (by omega)) (congrArg nI (show (((3 * k) + 7) - 5) = 3 * k + 2 by omega))) (by omega) hI.2.2.2.2))), rfl, rfl, rfl, rfl, rfl, trivial⟩ rfl
            refine gT_n 5 ?_
            refine ⟨rfl, rfl, ?_⟩
            refine gT_n 2 ?_
            refine ⟨fun c => absurd c (by decide), fun _ => ⟨fun c => absurd c (by decide), fun _ => ⟨fun c => absurd c (by decide), fun _ => ?_⟩⟩⟩
            refine gT_n 11 ?_
            refine ⟨rfl, rfl, (pk_in (((3 * k) + 7) - 5) 30 (by omega) (pk_subE (n := ((3 * k) + 7)) (k := 5) (pk_addE (n := (3 * k)) (k := 7) (pk_mulE (n := 3) (k := k) (rfl) (rfl)) (rfl)) (rfl) (by omega))), ?_⟩
            refine gT_iv (n := (((3 * k) + 7) - 5)) (X := v) (pk_subE (n := ((3 * k) + 7)) (k := 5) (pk_addE (n := (3 * k)) (k := 7) (pk_mulE (n := 3) (k := k) (rfl) (rfl)) (rfl)) (rfl) (by omega)) (by omega) (rfl) ?_
            refine gT_n 1 ?_
            refine ⟨rfl, ?_⟩
            show gT _ 237 35 _ _ _ _ _
            refine gT_n 2 ?_
            obtain ⟨rfl, rfl⟩ := hS
            exact ⟨_, J, P, rfl, ri (rfl), hC, ⟨jTp, jF, jT, jSp, jW, jN, ⟨jP.1, fun r hr => by
              cases hr
              exact mP_set (jP.2 p rfl) hk ⟨hI.1, hI.2.1, (if_neg (by omega)).trans hI.2.2.1, (if_neg (by omega)).trans hI.2.2.2.1, upd_at⟩ (fun j hj r h => ⟨h.1, h.2.1, (if_neg (by omega)).trans h.2.2.1, (if_neg (by omega)).trans h.2.2.2.1, (if_neg (by omega)).trans h.2.2.2.2⟩)⟩, jC, jI0, jI1, jB, jL⟩⟩
          · refine gT_n 3 ?_
            show gT _ 237 10 _ _ _ _ _
            refine gT_n 3 ?_
            refine ⟨fun c => absurd c (by decide), fun _ => ?_⟩
            refine gT_n 2 ?_
            exact absurd hk (by omega)
        · refine gT_n 5 ?_
          refine ⟨rfl, gTM.use (m_isAl1 (Or.inr (Or.inr (Or.inr (Or.inr (Or.inl ⟨rfl, hv⟩)))))) (Nat.le_refl _) (fun r u hq => ?_)⟩
          obtain ⟨rfl, rfl⟩ := hq  -- X12_isAltered[K8, v]
          refine gT_n 1 ?_
          refine ⟨rfl, rfl, ?_⟩
          refine gT_n 2 ?_
          refine ⟨fun c => absurd c (nI_pos (by omega)), fun _ => ?_⟩
          refine gT_n 2 ?_
          refine ⟨fun _ => ?_, fun c => absurd c (by decide)⟩
          refine gT_n 3 ?_
          refine ⟨rfl, fun _ => ?_, fun c => absurd c (kpT (p := fun z : Int32 => ¬ z = 0) (show _ = (1 : Int32) from jP.1) (by decide))⟩
          refine gT_n 4 ?_
          refine ⟨rfl, pk_lt k p.1.length (fun κ1 => ?_) (fun κ1 => ?_) (rfl) ((jP.2 p rfl).1) (by omega) (by omega)⟩
          · refine gT_n 2 ?_
            show gT _ 237 10 _ _ _ _ _
            refine gT_n 3 ?_
            refine ⟨fun _ => ?_, fun c => absurd (by decide) c⟩
            refine gT_n 4 ?_
            refine ⟨rfl, rfl, ?_⟩
            refine gT_n 7 ?_
            refine ⟨rfl, gTM.use (m_in1 (x := 0) (z := 10) rfl rfl (by decide)) (Nat.le_refl _) (fun r u hq => ?_)⟩
            obtain ⟨rfl, rfl⟩ := hq  -- X12_in[i2l(K8), lN 0, lN 10]
            refine gT_n 1 ?_
            refine ⟨rfl, rfl, ?_⟩
            refine gT_n 2 ?_
            refine ⟨fun c => absurd c (nI_pos (by omega)), fun _ => ?_⟩
            refine gT_n 2 ?_
            refine ⟨fun _ => ?_, fun c => absurd c (by decide)⟩
            refine gT_n 3 ?_
            refine ⟨rfl, fun _ => ?_, fun c => absurd c (kpT (p := fun z : Int32 => ¬ z = 0) (show _ = (1 : Int32) from jP.1) (by decide))⟩
            refine gT_n 4 ?_
            refine ⟨rfl, pk_lt k p.1.length (fun _ => ?_) (fun c => by first | exact absurd κ1 c | exact absurd c κ1 | (exfalso; omega)) (rfl) ((jP.2 p rfl).1) (by omega) (by omega)⟩
            refine gT_n 2 ?_
            show gT _ 232 14 _ _ _ _ _
            refine gT_n 3 ?_
            refine ⟨fun _ => ?_, fun c => absurd (by decide) c⟩
            refine gT_n 2 ?_
            refine ⟨fun c => absurd c (by decide), fun _ => ⟨fun c => absurd c (by decide), fun _ => ⟨fun c => absurd c (by decide), fun _ => ⟨fun c => absurd c (by decide), fun _ => ⟨fun c => absurd c (by decide), fun _ => ⟨fun c => absurd c (by decide), fun _ => ⟨fun c => absurd c (by decide), fun _ => ⟨fun c => absurd c (by decide), fun _ => ⟨fun _ => ?_, fun c => absurd rfl c⟩⟩⟩⟩⟩⟩⟩⟩⟩
            refine gT_n 5 ?_
            refine ⟨rfl, rfl, (pk_in k 10 (by omega) (rfl)), ?_⟩
            show gT _ 237 26 _ _ _ _ _
            refine gT_n 1 ?_
            refine gT_k (L := [(5, .int (ig p.1 k).2.2.2.2.2.2.1), (4, .int 0), (0, .ref 171), (1, .int (nI k)), (2, .int 8), (3, .int v)]) ?_ ⟨(viI ((rdI (rfl) (by omega) hI.1.2.2.2.1))), rfl, rfl, rfl, rfl, rfl, trivial⟩ rfl
            refine gT_n 5 ?_
            refine ⟨rfl, rfl, ?_⟩
            refine gT_n 2 ?_
            refine ⟨fun c => absurd c (by decide), fun _ => ⟨fun _ => ?_, fun c => absurd rfl c⟩⟩
            refine gT_n 5 ?_
            refine ⟨rfl, rfl, (pk_in k 10 (by omega) (rfl)), ?_⟩
            refine gT_iv (n := k) (X := v) (rfl) (by omega) (rfl) ?_
            refine gT_n 2 ?_
            refine ⟨rfl, ?_⟩
            show gT _ 237 35 _ _ _ _ _
            refine gT_n 2 ?_
            obtain ⟨rfl, rfl⟩ := hS
            exact ⟨_, J, P, rfl, ri (rfl), hC, ⟨jTp, jF, jT, jSp, jW, jN, ⟨jP.1, fun r hr => by
              cases hr
              exact mP_set (jP.2 p rfl) hk ⟨⟨hI.1.1, hI.1.2.1, hI.1.2.2.1, upd_at, hI.1.2.2.2.2⟩, hI.2⟩ (fun j hj r h => ⟨⟨h.1.1, h.1.2.1, h.1.2.2.1, (if_neg hj).trans h.1.2.2.2.1, h.1.2.2.2.2⟩, h.2⟩)⟩, jC, jI0, jI1, jB, jL⟩⟩
          · refine gT_n 3 ?_
            show gT _ 237 10 _ _ _ _ _
            refine gT_n 3 ?_
            refine ⟨fun c => absurd c (by decide), fun _ => ?_⟩
            refine gT_n 2 ?_
            exact absurd hk (by omega)
        · refine gT_n 5 ?_
          refine ⟨rfl, gTM.use (m_isAl1 (Or.inr (Or.inr (Or.inr (Or.inr (Or.inr (⟨rfl, hv⟩))))))) (Nat.le_refl _) (fun r u hq => ?_)⟩
          obtain ⟨rfl, rfl⟩ := hq  -- X12_isAltered[K9, v]
          refine gT_n 1 ?_
          refine ⟨rfl, rfl, ?_⟩
          refine gT_n 2 ?_
          refine ⟨fun c => absurd c (nI_pos (by omega)), fun _ => ?_⟩
          refine gT_n 2 ?_
          refine ⟨fun _ => ?_, fun c => absurd c (by decide)⟩
          refine gT_n 3 ?_
          refine ⟨rfl, fun _ => ?_, fun c => absurd c (kpT (p := fun z : Int32 => ¬ z = 0) (show _ = (1 : Int32) from jP.1) (by decide))⟩
          refine gT_n 4 ?_
          refine ⟨rfl, pk_lt k p.1.length (fun κ1 => ?_) (fun κ1 => ?_) (rfl) ((jP.2 p rfl).1) (by omega) (by omega)⟩
          · refine gT_n 2 ?_
            show gT _ 237 10 _ _ _ _ _
            refine gT_n 3 ?_
            refine ⟨fun _ => ?_, fun c => absurd (by decide) c⟩
            refine gT_n 4 ?_
            refine ⟨rfl, rfl, ?_⟩
            refine gT_n 7 ?_
            refine ⟨rfl, gTM.use (m_in1 (x := 0) (z := 10) rfl rfl (by decide)) (Nat.le_refl _) (fun r u hq => ?_)⟩
            obtain ⟨rfl, rfl⟩ := hq  -- X12_in[i2l(K9), lN 0, lN 10]
            refine gT_n 1 ?_
            refine ⟨rfl, rfl, ?_⟩
            refine gT_n 2 ?_
            refine ⟨fun c => absurd c (nI_pos (by omega)), fun _ => ?_⟩
            refine gT_n 2 ?_
            refine ⟨fun _ => ?_, fun c => absurd c (by decide)⟩
            refine gT_n 3 ?_
            refine ⟨rfl, fun _ => ?_, fun c => absurd c (kpT (p := fun z : Int32 => ¬ z = 0) (show _ = (1 : Int32) from jP.1) (by decide))⟩
            refine gT_n 4 ?_
            refine ⟨rfl, pk_lt k p.1.length (fun _ => ?_) (fun c => by first | exact absurd κ1 c | exact absurd c κ1 | (exfalso; omega)) (rfl) ((jP.2 p rfl).1) (by omega) (by omega)⟩
            refine gT_n 2 ?_
            show gT _ 232 14 _ _ _ _ _
            refine gT_n 3 ?_
            refine ⟨fun _ => ?_, fun c => absurd (by decide) c⟩
            refine gT_n 2 ?_
            refine ⟨fun c => absurd c (by decide), fun _ => ⟨fun c => absurd c (by decide), fun _ => ⟨fun c => absurd c (by decide), fun _ => ⟨fun c => absurd c (by decide), fun _ => ⟨fun c => absurd c (by decide), fun _ => ⟨fun c => absurd c (by decide), fun _ => ⟨fun c => absurd c (by decide), fun _ => ⟨fun c => absurd c (by decide), fun _ => ⟨fun c => absurd c (by decide), fun _ => ⟨fun _ => ?_, fun c => absurd rfl c⟩⟩⟩⟩⟩⟩⟩⟩⟩⟩
            refine gT_n 5 ?_
            refine ⟨rfl, rfl, (pk_in k 10 (by omega) (rfl)), ?_⟩
            show gT _ 237 26 _ _ _ _ _
            refine gT_n 1 ?_
            refine gT_k (L := [(5, .int (ig p.1 k).2.2.2.2.2.2.2), (4, .int 0), (0, .ref 171), (1, .int (nI k)), (2, .int 9), (3, .int v)]) ?_ ⟨(viI ((rdI (rfl) (by omega) hI.1.2.2.2.2))), rfl, rfl, rfl, rfl, rfl, trivial⟩ rfl
            refine gT_n 5 ?_
            refine ⟨rfl, rfl, ?_⟩
            refine gT_n 2 ?_
            refine ⟨fun c => absurd c (by decide), fun _ => ⟨fun c => absurd c (by decide), fun _ => ⟨fun _ => ?_, fun c => absurd rfl c⟩⟩⟩
            refine gT_n 5 ?_
            refine ⟨rfl, rfl, (pk_in k 10 (by omega) (rfl)), ?_⟩
            refine gT_iv (n := k) (X := v) (rfl) (by omega) (rfl) ?_
            refine gT_n 2 ?_
            refine ⟨rfl, ?_⟩
            show gT _ 237 35 _ _ _ _ _
            refine gT_n 2 ?_
            obtain ⟨rfl, rfl⟩ := hS
            exact ⟨_, J, P, rfl, ri (rfl), hC, ⟨jTp, jF, jT, jSp, jW, jN, ⟨jP.1, fun r hr => by
              cases hr
              exact mP_set (jP.2 p rfl) hk ⟨⟨hI.1.1, hI.1.2.1, hI.1.2.2.1, hI.1.2.2.2.1, upd_at⟩, hI.2⟩ (fun j hj r h => ⟨⟨h.1.1, h.1.2.1, h.1.2.2.1, h.1.2.2.2.1, (if_neg hj).trans h.1.2.2.2.2⟩, h.2⟩)⟩, jC, jI0, jI1, jB, jL⟩⟩
          · refine gT_n 3 ?_
            show gT _ 237 10 _ _ _ _ _
            refine gT_n 3 ?_
            refine ⟨fun c => absurd c (by decide), fun _ => ?_⟩
            refine gT_n 2 ?_
            exact absurd hk (by omega)
      · obtain ⟨rfl, rfl⟩ := (pif_neg hj).mp hS
        refine gT_n 5 ?_
        refine ⟨rfl, gTM.use (m_isAl1 hh.2) (Nat.le_refl _) (fun r u hq => ?_)⟩
        obtain ⟨rfl, rfl⟩ := hq  -- X12_isAltered[w, v]
        refine gT_n 1 ?_
        refine ⟨rfl, rfl, ?_⟩
        refine gT_n 2 ?_
        refine px_lt (X := i) (Y := (0)) (rfl) (rfl) (fun κ1 => ?_) (fun κ1 => ?_)
        · refine gT_n 3 ?_
          show gT _ 237 10 _ _ _ _ _
          refine gT_n 3 ?_
          refine ⟨fun c => absurd c (by decide), fun _ => ?_⟩
          refine gT_n 2 ?_
          exact absurd κ1 hh.1
        · refine gT_n 2 ?_
          refine ⟨fun _ => ?_, fun c => absurd c (by decide)⟩
          refine gT_n 3 ?_
          refine ⟨rfl, fun _ => ?_, fun c => absurd c (kpT (p := fun z : Int32 => ¬ z = 0) (show _ = (1 : Int32) from jP.1) (by decide))⟩
          refine gT_n 4 ?_
          refine ⟨rfl, px_lt (X := i) (Y := nI p.1.length) (rfl) ((jP.2 p rfl).1) (fun κ2 => ?_) (fun κ2 => ?_)⟩
          · refine gT_n 2 ?_
            show gT _ 237 10 _ _ _ _ _
            refine gT_n 3 ?_
            refine ⟨fun _ => ?_, fun c => absurd (by decide) c⟩
            exact absurd (inZ_of (by omega) hh.1 (by first | exact κ2 | exact Int32.not_le.mpr κ2)) hj
          · refine gT_n 3 ?_
            show gT _ 237 10 _ _ _ _ _
            refine gT_n 3 ?_
            refine ⟨fun c => absurd c (by decide), fun _ => ?_⟩
            refine gT_n 2 ?_
            exact ⟨I, J, P, rfl, rfl, hC, hM0⟩
  · obtain ⟨rfl, rfl⟩ := (pif_neg hh).mp hS
    by_cases hw : aOK w v
    · have hi : i < 0 := Int32.not_le.mp (fun q => hh ⟨Int32.not_lt.mpr q, hw⟩)
      refine gT_n 5 ?_
      refine ⟨rfl, gTM.use (m_isAl1 hw) (Nat.le_refl _) (fun r u hq => ?_)⟩
      obtain ⟨rfl, rfl⟩ := hq  -- X12_isAltered[w, v]
      refine gT_n 1 ?_
      refine ⟨rfl, rfl, gTM.use (m_wrong_lo hi) (Nat.le_refl _) (fun r u hq => ?_)⟩
      obtain ⟨rfl, rfl⟩ := hq  -- X12_wrong[R171, i, K1]
      refine gT_n 3 ?_
      refine ⟨fun c => absurd c (by decide), fun _ => ?_⟩
      refine gT_n 2 ?_
      exact ⟨I, J, P, rfl, rfl, hC, hM0⟩
    · refine gT_n 5 ?_
      refine ⟨rfl, gTM.use (m_isAl0 hw) (Nat.le_refl _) (fun r u hq => ?_)⟩
      obtain ⟨rfl, rfl⟩ := hq  -- X12_isAltered[w, v]
      refine gT_n 1 ?_
      refine ⟨rfl, rfl, gTM.use (m_wrong_0) (Nat.le_refl _) (fun r u hq => ?_)⟩
      obtain ⟨rfl, rfl⟩ := hq  -- X12_wrong[R171, i, K0]
      refine gT_n 3 ?_
      refine ⟨fun c => absurd c (by decide), fun _ => ?_⟩
      refine gT_n 2 ?_
      exact ⟨I, J, P, rfl, rfl, hC, hM0⟩
