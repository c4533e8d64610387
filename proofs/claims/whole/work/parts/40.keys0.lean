/-! lemmas of the walk -/
theorem px_eq {x y X Y : Int32} {A B : Prop} (ex : x = X) (ey : y = Y) (f : X = Y → A) (g : ¬ X = Y → B) : (x = y → A) ∧ (¬ x = y → B) := by
  subst ex ey; exact ⟨f, g⟩
theorem px_ne {x y X Y : Int32} {A B : Prop} (ex : x = X) (ey : y = Y) (f : ¬ X = Y → A) (g : X = Y → B) : (¬ x = y → A) ∧ (x = y → B) := by
  subst ex ey; exact ⟨f, g⟩
theorem px_lt {x y X Y : Int32} {A B : Prop} (ex : x = X) (ey : y = Y) (f : X < Y → A) (g : ¬ X < Y → B) : (x < y → A) ∧ (¬ x < y → B) := by
  subst ex ey; exact ⟨f, g⟩
theorem px_le {x y X Y : Int32} {A B : Prop} (ex : x = X) (ey : y = Y) (f : X ≤ Y → A) (g : ¬ X ≤ Y → B) : (x ≤ y → A) ∧ (¬ x ≤ y → B) := by
  subst ex ey; exact ⟨f, g⟩
theorem px_gt {x y X Y : Int32} {A B : Prop} (ex : x = X) (ey : y = Y) (f : Y < X → A) (g : ¬ Y < X → B) : (y < x → A) ∧ (¬ y < x → B) := by
  subst ex ey; exact ⟨f, g⟩
theorem px_ge {x y X Y : Int32} {A B : Prop} (ex : x = X) (ey : y = Y) (f : Y ≤ X → A) (g : ¬ Y ≤ X → B) : (y ≤ x → A) ∧ (¬ y ≤ x → B) := by
  subst ex ey; exact ⟨f, g⟩
theorem k2E {f : Int32 → Int32 → Int32} {x y X Y r : Int32} (ex : x = X) (ey : y = Y) (h : f X Y = r) : f x y = r := by
  subst ex ey; exact h
theorem viI {x y : Int32} (h : x = y) : some (Value.int x) = some (Value.int y) := by rw [h]
theorem viL {x y : Int64} (h : x = y) : some (Value.long x) = some (Value.long y) := by rw [h]
theorem gT_ix {d y pc o n : Nat} {L : gL} {st : List Value} {cu : Nat × Nat} {w : gW} {T x : Int32} {Q : Option Value → gW → Prop} (e : T = nI n) (hn : n < 2 ^ 31) (h : gT d y pc L st cu (w.1, gupI w.2.1 o n x, w.2.2) Q) : gT d y pc L st cu (w.1, gupI w.2.1 o T.toNatClampNeg x, w.2.2) Q := by
  rw [e, nI_clamp hn]; exact h
theorem gT_ixL {d y pc o n : Nat} {L : gL} {st : List Value} {cu : Nat × Nat} {w : gW} {T : Int32} {x : Int64} {Q : Option Value → gW → Prop} (e : T = nI n) (hn : n < 2 ^ 31) (h : gT d y pc L st cu (w.1, w.2.1, gupL w.2.2.1 o n x, w.2.2.2) Q) : gT d y pc L st cu (w.1, w.2.1, gupL w.2.2.1 o T.toNatClampNeg x, w.2.2.2) Q := by
  rw [e, nI_clamp hn]; exact h
theorem c_has1 {d : Nat} {z : Int32} {t : zT} {I : Nat → Nat → Int32} {J : Nat → Nat → Int64} {P : Nat → Nat} (hz : zOK t) (hT : cT0 (I 12 4) (J 13) (I 14) (I 15) t) (h : inZ t.1 z) : gTM d 85 [.ref 12, .int z] (gST I J P) (fun r u => u = gST I J P ∧ r = some (.int 1)) := by
  refine gTM.use (c_has hz hT) (Nat.le_refl _) (fun r u hq => ?_)
  obtain ⟨rfl, ⟨rfl, b1⟩ | ⟨rfl, b1⟩⟩ := hq
  · exact ⟨rfl, rfl⟩
  · exact absurd h b1
theorem c_has0 {d : Nat} {z : Int32} {t : zT} {I : Nat → Nat → Int32} {J : Nat → Nat → Int64} {P : Nat → Nat} (hz : zOK t) (hT : cT0 (I 12 4) (J 13) (I 14) (I 15) t) (h : ¬ inZ t.1 z) : gTM d 85 [.ref 12, .int z] (gST I J P) (fun r u => u = gST I J P ∧ r = some (.int 0)) := by
  refine gTM.use (c_has hz hT) (Nat.le_refl _) (fun r u hq => ?_)
  obtain ⟨rfl, ⟨rfl, b1⟩ | ⟨rfl, b1⟩⟩ := hq
  · exact absurd b1 h
  · exact ⟨rfl, rfl⟩
theorem m_isZone1 {d : Nat} {z : Int32} {t : zT} {I : Nat → Nat → Int32} {J : Nat → Nat → Int64} {P : Nat → Nat} (hz : zOK t) (hT : mT (I 171 2) (J 172) (I 173) t) (h : inZ t.1 z) : gTM (d + 1) 202 [.ref 171, .int z] (gST I J P) (fun r u => u = gST I J P ∧ r = some (.int 1)) := by
  refine gTM.use (m_isZone hz hT) (Nat.le_refl _) (fun r u hq => ?_)
  obtain ⟨rfl, ⟨rfl, b1⟩ | ⟨rfl, b1⟩⟩ := hq
  · exact ⟨rfl, rfl⟩
  · exact absurd h b1
theorem m_isZone0 {d : Nat} {z : Int32} {t : zT} {I : Nat → Nat → Int32} {J : Nat → Nat → Int64} {P : Nat → Nat} (hz : zOK t) (hT : mT (I 171 2) (J 172) (I 173) t) (h : ¬ inZ t.1 z) : gTM (d + 1) 202 [.ref 171, .int z] (gST I J P) (fun r u => u = gST I J P ∧ r = some (.int 0)) := by
  refine gTM.use (m_isZone hz hT) (Nat.le_refl _) (fun r u hq => ?_)
  obtain ⟨rfl, ⟨rfl, b1⟩ | ⟨rfl, b1⟩⟩ := hq
  · exact absurd b1 h
  · exact ⟨rfl, rfl⟩
theorem c_isKey {d : Nat} {k : Int32} {w : gW} : gTM d 153 [.int k] w (gB w (1 ≤ k ∧ k ≤ 999)) := by
  refine gT_n 3 ?_
  refine ⟨fun κ1 => ?_, fun κ1 => ?_⟩
  · refine gT_n 2 ?_
    refine ⟨(Or.inl rfl), ?_⟩
    exact ⟨rfl, Or.inr ⟨rfl, by first | exact rng_lo κ1 | exact fun z => absurd κ2 (Int32.not_lt.mpr z.2)⟩⟩
  · refine gT_n 3 ?_
    refine ⟨fun κ2 => ?_, fun κ2 => ?_⟩
    · refine gT_n 2 ?_
      refine ⟨(Or.inl rfl), ?_⟩
      exact ⟨rfl, Or.inr ⟨rfl, by first | exact rng_lo κ1 | exact fun z => absurd κ2 (Int32.not_lt.mpr z.2)⟩⟩
    · refine gT_n 3 ?_
      refine ⟨(Or.inr rfl), ?_⟩
      exact ⟨rfl, Or.inl ⟨rfl, rng_in κ1 (Int32.not_lt.mp κ2)⟩⟩
theorem c_isSort {d : Nat} {k : Int32} {w : gW} : gTM d 152 [.int k] w (gB w (inZ 3 k)) := by
  refine gT_n 2 ?_
  refine ⟨fun κ1 => ?_, fun κ1 => ?_⟩
  · refine gT_n 2 ?_
    refine ⟨(Or.inl rfl), ?_⟩
    exact ⟨rfl, Or.inr ⟨rfl, by first | exact inZ_lo (by omega) κ1 | exact inZ_hi (by omega) κ2 | exact inZ_hi (by omega) (Int32.not_lt.mp κ2)⟩⟩
  · refine gT_n 3 ?_
    refine ⟨fun κ2 => ?_, fun κ2 => ?_⟩
    · refine gT_n 2 ?_
      refine ⟨(Or.inl rfl), ?_⟩
      exact ⟨rfl, Or.inr ⟨rfl, by first | exact inZ_lo (by omega) κ1 | exact inZ_hi (by omega) κ2 | exact inZ_hi (by omega) (Int32.not_lt.mp κ2)⟩⟩
    · refine gT_n 3 ?_
      refine ⟨(Or.inr rfl), ?_⟩
      exact ⟨rfl, Or.inl ⟨rfl, inZ_of (by omega) κ1 (fun z => by first | exact κ2 z | exact absurd κ2 (Int32.not_lt.mpr z))⟩⟩
theorem m_isKey {d : Nat} {k : Int32} {w : gW} : gTM (d + 1) 261 [.int k] w (gB w (1 ≤ k ∧ k ≤ 999)) := by
  refine gT_n 5 ?_
  refine ⟨rfl, gTM.use (m_inI (x := 1) (z := 999) rfl rfl) (Nat.le_refl _) (fun r u hq => ?_)⟩
  obtain ⟨rfl, ⟨rfl, β1⟩ | ⟨rfl, β1⟩⟩ := hq  -- X12_in[i2l(k), lN 1, lN 999]
  · refine gT_n 1 ?_
    refine ⟨(Or.inr rfl), ?_⟩
    exact ⟨rfl, Or.inl ⟨rfl, β1⟩⟩
  · refine gT_n 1 ?_
    refine ⟨(Or.inl rfl), ?_⟩
    exact ⟨rfl, Or.inr ⟨rfl, β1⟩⟩
theorem c_isKey1 {d : Nat} {k : Int32} {w : gW} (h : (1 ≤ k ∧ k ≤ 999)) : gTM d 153 [.int k] w (fun r u => u = w ∧ r = some (.int 1)) := by
  refine gTM.use c_isKey (Nat.le_refl _) (fun r u hq => ?_)
  obtain ⟨rfl, ⟨rfl, b1⟩ | ⟨rfl, b1⟩⟩ := hq
  · exact ⟨rfl, rfl⟩
  · exact absurd h b1
theorem c_isKey0 {d : Nat} {k : Int32} {w : gW} (h : ¬ (1 ≤ k ∧ k ≤ 999)) : gTM d 153 [.int k] w (fun r u => u = w ∧ r = some (.int 0)) := by
  refine gTM.use c_isKey (Nat.le_refl _) (fun r u hq => ?_)
  obtain ⟨rfl, ⟨rfl, b1⟩ | ⟨rfl, b1⟩⟩ := hq
  · exact absurd b1 h
  · exact ⟨rfl, rfl⟩
theorem m_isKey1 {d : Nat} {k : Int32} {w : gW} (h : (1 ≤ k ∧ k ≤ 999)) : gTM (d + 1) 261 [.int k] w (fun r u => u = w ∧ r = some (.int 1)) := by
  refine gTM.use m_isKey (Nat.le_refl _) (fun r u hq => ?_)
  obtain ⟨rfl, ⟨rfl, b1⟩ | ⟨rfl, b1⟩⟩ := hq
  · exact ⟨rfl, rfl⟩
  · exact absurd h b1
theorem m_isKey0 {d : Nat} {k : Int32} {w : gW} (h : ¬ (1 ≤ k ∧ k ≤ 999)) : gTM (d + 1) 261 [.int k] w (fun r u => u = w ∧ r = some (.int 0)) := by
  refine gTM.use m_isKey (Nat.le_refl _) (fun r u hq => ?_)
  obtain ⟨rfl, ⟨rfl, b1⟩ | ⟨rfl, b1⟩⟩ := hq
  · exact absurd b1 h
  · exact ⟨rfl, rfl⟩
