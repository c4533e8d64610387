/-! the reference's chain of zones -/
theorem gT_c51 {d y pc : Nat} {L : gL} {st : List Value} {cu : Nat × Nat} {I : Nat → Nat → Int32} {J : Nat → Nat → Int64} {P : Nat → Nat} {A : Nat → Int32} {c x X : Int32} {Q : Option Value → gW → Prop} (ev : x = X) (h : gT d y pc L st cu (gST (m1 (gupI I 171 51 X) 201 A) J P) Q) : gT d y pc L st cu ((gST (m1 (gupI I 171 51 c) 201 A) J P).1, gupI (gST (m1 (gupI I 171 51 c) 201 A) J P).2.1 171 51 x, (gST (m1 (gupI I 171 51 c) 201 A) J P).2.2) Q := by
  subst ev
  have e : gupI (m1 (gupI I 171 51 c) 201 A) 171 51 x = m1 (gupI I 171 51 x) 201 A := by
    funext o
    by_cases h1 : o = 201
    · subst h1; rfl
    · rw [m1_n h1]
      by_cases h2 : o = 171
      · subst h2
        show upd (upd (I 171) 51 c) 51 x = upd (I 171) 51 x
        exact upd_upd
      · rw [gupI_n h2, m1_n h1, gupI_n h2, gupI_n h2]
  show gT d y pc L st cu (gST (gupI (m1 (gupI I 171 51 c) 201 A) 171 51 x) J P) Q
  rw [e]; exact h
theorem c51_self {I : Nat → Nat → Int32} : m1 (gupI I 171 51 (I 171 51)) 201 (I 201) = I := by
  funext o
  by_cases h1 : o = 201
  · subst h1; rfl
  · rw [m1_n h1]
    by_cases h2 : o = 171
    · subst h2; exact upd_self
    · rw [gupI_n h2]
theorem m_parentOf0 {d : Nat} {t : zT} {I : Nat → Nat → Int32} {J : Nat → Nat → Int64} {P : Nat → Nat} {z : Nat} (hz : zOK t) (hT : mT (I 171 2) (J 172) (I 173) t) (h0 : z = 0) : gTM (d + 5) 166 [.ref 171, .int (nI z)] (gST I J P) (fun r u => u = gST I J P ∧ r = some (.int (-4))) := by
  subst h0
  exact m_parentOf hz hT hz.1
theorem m_chains1 {d z : Nat} {t : zT} {I : Nat → Nat → Int32} {J : Nat → Nat → Int64} {P : Nat → Nat} (hz : zOK t) (hT : mT (I 171 2) (J 172) (I 173) t) (hw : z < t.1)  (e0 : zc t z 0 = 0) : gTM (d + 6) 227 [.ref 171, .int (nI z)] (gST I J P) (fun r u => r = none ∧ ∃ A : Nat → Int32, u = gST (m1 (gupI I 171 51 (nI 1)) 201 A) J P ∧ A 0 = nI (zc t z 0)) := by
  have h4 := hz.2.1
  have key : gTM (d + 6) 227 [.ref 171, .int (nI (zc t z 0))] (gST (m1 (gupI I 171 51 (I 171 51)) 201 (I 201)) J P) (fun r u => r = none ∧ ∃ A : Nat → Int32, u = gST (m1 (gupI I 171 51 (nI 1)) 201 A) J P ∧ A 0 = nI (zc t z 0)) := by
    refine gT_n 3 ?_
    refine ⟨rfl, ?_⟩
    refine gT_c51 (X := 0) (rfl) ?_
    refine gT_n 5 ?_
    refine ⟨fun c => absurd c (nI_neg (rfl) (Nat.lt_of_lt_of_le (zc_lt hz hw 0) (Nat.le_trans h4 (by decide)))), fun _ => ?_⟩
    refine gT_n 3 ?_
    refine ⟨rfl, ?_⟩
    refine gT_k (L := [(3, .int 0), (2, .int (nI ((zc t z 0)))), (0, .ref 171), (1, .int (nI ((zc t z 0))))]) ?_ ⟨(viI ((show _ = (0 : Int32) from rfl))), rfl, rfl, rfl, trivial⟩ rfl
    refine gT_n 2 ?_
    refine ⟨fun _ => ?_, fun c => absurd (by decide) c⟩
    refine gT_n 5 ?_
    refine ⟨rfl, rfl, (pk_inS (m := 4) (k := 0) (rfl) (by decide) (rfl)), ?_⟩
    refine gT_m1 (a := 201) (n := 0) (X := (nI ((zc t z 0)))) (rfl) (by omega) (rfl) ?_
    refine gT_n 6 ?_
    refine ⟨rfl, rfl, ?_⟩
    refine gT_c51 (X := 1) ((k2E (f := fun x y : Int32 => x + y) (show _ = (0 : Int32) from rfl) (rfl : _ = (1 : Int32)) (show ((0 : Int32) + 1) = 1 by decide))) ?_
    refine gT_n 3 ?_
    refine ⟨rfl, rfl, gTM.use (m_parentOf0 hz hT e0) (Nat.le_refl _) (fun r u hq => ?_)⟩
    obtain ⟨rfl, rfl⟩ := hq  -- X12_parentOf[R171, nI ((zc t z 0))]
    refine gT_n 5 ?_
    refine ⟨fun _ => ?_, fun c => absurd (by decide) c⟩
    refine gT_n 1 ?_
    refine ⟨rfl, ?_⟩
    exact ⟨rfl, _, rfl, rfl⟩
  rw [c51_self] at key
  exact key
theorem m_chains2 {d z : Nat} {t : zT} {I : Nat → Nat → Int32} {J : Nat → Nat → Int64} {P : Nat → Nat} (hz : zOK t) (hT : mT (I 171 2) (J 172) (I 173) t) (hw : z < t.1) (e0 : ¬ zc t z 0 = 0) (e1 : zc t z 1 = 0) : gTM (d + 6) 227 [.ref 171, .int (nI z)] (gST I J P) (fun r u => r = none ∧ ∃ A : Nat → Int32, u = gST (m1 (gupI I 171 51 (nI 2)) 201 A) J P ∧ A 0 = nI (zc t z 1) ∧ A 1 = nI (zc t z 0)) := by
  have h4 := hz.2.1
  have key : gTM (d + 6) 227 [.ref 171, .int (nI (zc t z 0))] (gST (m1 (gupI I 171 51 (I 171 51)) 201 (I 201)) J P) (fun r u => r = none ∧ ∃ A : Nat → Int32, u = gST (m1 (gupI I 171 51 (nI 2)) 201 A) J P ∧ A 0 = nI (zc t z 1) ∧ A 1 = nI (zc t z 0)) := by
    refine gT_n 3 ?_
    refine ⟨rfl, ?_⟩
    refine gT_c51 (X := 0) (rfl) ?_
    refine gT_n 5 ?_
    refine ⟨fun c => absurd c (nI_neg (rfl) (Nat.lt_of_lt_of_le (zc_lt hz hw 0) (Nat.le_trans h4 (by decide)))), fun _ => ?_⟩
    refine gT_n 3 ?_
    refine ⟨rfl, ?_⟩
    refine gT_k (L := [(3, .int 0), (2, .int (nI ((zc t z 0)))), (0, .ref 171), (1, .int (nI ((zc t z 0))))]) ?_ ⟨(viI ((show _ = (0 : Int32) from rfl))), rfl, rfl, rfl, trivial⟩ rfl
    refine gT_n 2 ?_
    refine ⟨fun _ => ?_, fun c => absurd (by decide) c⟩
    refine gT_n 5 ?_
    refine ⟨rfl, rfl, (pk_inS (m := 4) (k := 0) (rfl) (by decide) (rfl)), ?_⟩
    refine gT_m1 (a := 201) (n := 0) (X := (nI ((zc t z 0)))) (rfl) (by omega) (rfl) ?_
    refine gT_n 6 ?_
    refine ⟨rfl, rfl, ?_⟩
    refine gT_c51 (X := 1) ((k2E (f := fun x y : Int32 => x + y) (show _ = (0 : Int32) from rfl) (rfl : _ = (1 : Int32)) (show ((0 : Int32) + 1) = 1 by decide))) ?_
    refine gT_n 3 ?_
    refine ⟨rfl, rfl, gTM.use (m_parentOf1 hz hT (by omega) (zc_lt hz hw 0)) (Nat.le_refl _) (fun r u hq => ?_)⟩
    obtain ⟨rfl, rfl⟩ := hq  -- X12_parentOf[R171, nI ((zc t z 0))]
    refine gT_n 5 ?_
    refine ⟨fun c => absurd c (nI_neg (rfl) (Nat.lt_of_lt_of_le (zc_lt hz hw 1) (Nat.le_trans h4 (by decide)))), fun _ => ?_⟩
    refine gT_n 3 ?_
    refine ⟨rfl, ?_⟩
    refine gT_k (L := [(3, .int 1), (2, .int (nI ((zc t z 1)))), (0, .ref 171), (1, .int (nI ((zc t z 0))))]) ?_ ⟨(viI ((show _ = (1 : Int32) from rfl))), rfl, rfl, rfl, trivial⟩ rfl
    refine gT_n 2 ?_
    refine ⟨fun c => absurd c (by decide), fun _ => ?_⟩
    refine gT_n 10 ?_
    refine ⟨rfl, rfl, rfl, (pk_inS (m := 4) (k := 0) (rfl) (by decide) (rfl)), rfl, (pk_inS (m := 4) (k := 1) (rfl) (by decide) (rfl)), ?_⟩
    refine gT_m1 (a := 201) (n := 1) (X := (nI ((zc t z 0)))) (rfl) (by omega) (rfl) ?_
    refine gT_n 4 ?_
    refine ⟨fun _ => ?_, fun c => absurd (by decide) c⟩
    refine gT_n 5 ?_
    refine ⟨rfl, rfl, (pk_inS (m := 4) (k := 0) (rfl) (by decide) (rfl)), ?_⟩
    refine gT_m1 (a := 201) (n := 0) (X := (nI ((zc t z 1)))) (rfl) (by omega) (rfl) ?_
    refine gT_n 6 ?_
    refine ⟨rfl, rfl, ?_⟩
    refine gT_c51 (X := 2) ((k2E (f := fun x y : Int32 => x + y) (show _ = (1 : Int32) from rfl) (rfl : _ = (1 : Int32)) (show ((1 : Int32) + 1) = 2 by decide))) ?_
    refine gT_n 3 ?_
    refine ⟨rfl, rfl, gTM.use (m_parentOf0 hz hT e1) (Nat.le_refl _) (fun r u hq => ?_)⟩
    obtain ⟨rfl, rfl⟩ := hq  -- X12_parentOf[R171, nI ((zc t z 1))]
    refine gT_n 5 ?_
    refine ⟨fun _ => ?_, fun c => absurd (by decide) c⟩
    refine gT_n 1 ?_
    refine ⟨rfl, ?_⟩
    exact ⟨rfl, _, rfl, rfl, rfl⟩
  rw [c51_self] at key
  exact key
theorem m_chains3 {d z : Nat} {t : zT} {I : Nat → Nat → Int32} {J : Nat → Nat → Int64} {P : Nat → Nat} (hz : zOK t) (hT : mT (I 171 2) (J 172) (I 173) t) (hw : z < t.1) (e0 : ¬ zc t z 0 = 0) (e1 : ¬ zc t z 1 = 0) (e2 : zc t z 2 = 0) : gTM (d + 6) 227 [.ref 171, .int (nI z)] (gST I J P) (fun r u => r = none ∧ ∃ A : Nat → Int32, u = gST (m1 (gupI I 171 51 (nI 3)) 201 A) J P ∧ A 0 = nI (zc t z 2) ∧ A 1 = nI (zc t z 1) ∧ A 2 = nI (zc t z 0)) := by
  have h4 := hz.2.1
  have key : gTM (d + 6) 227 [.ref 171, .int (nI (zc t z 0))] (gST (m1 (gupI I 171 51 (I 171 51)) 201 (I 201)) J P) (fun r u => r = none ∧ ∃ A : Nat → Int32, u = gST (m1 (gupI I 171 51 (nI 3)) 201 A) J P ∧ A 0 = nI (zc t z 2) ∧ A 1 = nI (zc t z 1) ∧ A 2 = nI (zc t z 0)) := by
    refine gT_n 3 ?_
    refine ⟨rfl, ?_⟩
    refine gT_c51 (X := 0) (rfl) ?_
    refine gT_n 5 ?_
    refine ⟨fun c => absurd c (nI_neg (rfl) (Nat.lt_of_lt_of_le (zc_lt hz hw 0) (Nat.le_trans h4 (by decide)))), fun _ => ?_⟩
    refine gT_n 3 ?_
    refine ⟨rfl, ?_⟩
    refine gT_k (L := [(3, .int 0), (2, .int (nI ((zc t z 0)))), (0, .ref 171), (1, .int (nI ((zc t z 0))))]) ?_ ⟨(viI ((show _ = (0 : Int32) from rfl))), rfl, rfl, rfl, trivial⟩ rfl
    refine gT_n 2 ?_
    refine ⟨fun _ => ?_, fun c => absurd (by decide) c⟩
    refine gT_n 5 ?_
    refine ⟨rfl, rfl, (pk_inS (m := 4) (k := 0) (rfl) (by decide) (rfl)), ?_⟩
    refine gT_m1 (a := 201) (n := 0) (X := (nI ((zc t z 0)))) (rfl) (by omega) (rfl) ?_
    refine gT_n 6 ?_
    refine ⟨rfl, rfl, ?_⟩
    refine gT_c51 (X := 1) ((k2E (f := fun x y : Int32 => x + y) (show _ = (0 : Int32) from rfl) (rfl : _ = (1 : Int32)) (show ((0 : Int32) + 1) = 1 by decide))) ?_
    refine gT_n 3 ?_
    refine ⟨rfl, rfl, gTM.use (m_parentOf1 hz hT (by omega) (zc_lt hz hw 0)) (Nat.le_refl _) (fun r u hq => ?_)⟩
    obtain ⟨rfl, rfl⟩ := hq  -- X12_parentOf[R171, nI ((zc t z 0))]
    refine gT_n 5 ?_
    refine ⟨fun c => absurd c (nI_neg (rfl) (Nat.lt_of_lt_of_le (zc_lt hz hw 1) (Nat.le_trans h4 (by decide)))), fun _ => ?_⟩
    refine gT_n 3 ?_
    refine ⟨rfl, ?_⟩
    refine gT_k (L := [(3, .int 1), (2, .int (nI ((zc t z 1)))), (0, .ref 171), (1, .int (nI ((zc t z 0))))]) ?_ ⟨(viI ((show _ = (1 : Int32) from rfl))), rfl, rfl, rfl, trivial⟩ rfl
    refine gT_n 2 ?_
    refine ⟨fun c => absurd c (by decide), fun _ => ?_⟩
    refine gT_n 10 ?_
    refine ⟨rfl, rfl, rfl, (pk_inS (m := 4) (k := 0) (rfl) (by decide) (rfl)), rfl, (pk_inS (m := 4) (k := 1) (rfl) (by decide) (rfl)), ?_⟩
    refine gT_m1 (a := 201) (n := 1) (X := (nI ((zc t z 0)))) (rfl) (by omega) (rfl) ?_
    refine gT_n 4 ?_
    refine ⟨fun _ => ?_, fun c => absurd (by decide) c⟩
    refine gT_n 5 ?_
    refine ⟨rfl, rfl, (pk_inS (m := 4) (k := 0) (rfl) (by decide) (rfl)), ?_⟩
    refine gT_m1 (a := 201) (n := 0) (X := (nI ((zc t z 1)))) (rfl) (by omega) (rfl) ?_
    refine gT_n 6 ?_
    refine ⟨rfl, rfl, ?_⟩
    refine gT_c51 (X := 2) ((k2E (f := fun x y : Int32 => x + y) (show _ = (1 : Int32) from rfl) (rfl : _ = (1 : Int32)) (show ((1 : Int32) + 1) = 2 by decide))) ?_
    refine gT_n 3 ?_
    refine ⟨rfl, rfl, gTM.use (m_parentOf1 hz hT (by omega) (zc_lt hz hw 1)) (Nat.le_refl _) (fun r u hq => ?_)⟩
    obtain ⟨rfl, rfl⟩ := hq  -- X12_parentOf[R171, nI ((zc t z 1))]
    refine gT_n 5 ?_
    refine ⟨fun c => absurd c (nI_neg (rfl) (Nat.lt_of_lt_of_le (zc_lt hz hw 2) (Nat.le_trans h4 (by decide)))), fun _ => ?_⟩
    refine gT_n 3 ?_
    refine ⟨rfl, ?_⟩
    refine gT_k (L := [(3, .int 2), (2, .int (nI ((zc t z 2)))), (0, .ref 171), (1, .int (nI ((zc t z 0))))]) ?_ ⟨(viI ((show _ = (2 : Int32) from rfl))), rfl, rfl, rfl, trivial⟩ rfl
    refine gT_n 2 ?_
    refine ⟨fun c => absurd c (by decide), fun _ => ?_⟩
    refine gT_n 10 ?_
    refine ⟨rfl, rfl, rfl, (pk_inS (m := 4) (k := 1) (rfl) (by decide) (rfl)), rfl, (pk_inS (m := 4) (k := 2) (rfl) (by decide) (rfl)), ?_⟩
    refine gT_m1 (a := 201) (n := 2) (X := (nI ((zc t z 0)))) (rfl) (by omega) (rfl) ?_
    refine gT_n 4 ?_
    refine ⟨fun c => absurd c (by decide), fun _ => ?_⟩
    refine gT_n 10 ?_
    refine ⟨rfl, rfl, rfl, (pk_inS (m := 4) (k := 0) (rfl) (by decide) (rfl)), rfl, (pk_inS (m := 4) (k := 1) (rfl) (by decide) (rfl)), ?_⟩
    refine gT_m1 (a := 201) (n := 1) (X := (nI ((zc t z 1)))) (rfl) (by omega) (rfl) ?_
    refine gT_n 4 ?_
    refine ⟨fun _ => ?_, fun c => absurd (by decide) c⟩
    refine gT_n 5 ?_
    refine ⟨rfl, rfl, (pk_inS (m := 4) (k := 0) (rfl) (by decide) (rfl)), ?_⟩
    refine gT_m1 (a := 201) (n := 0) (X := (nI ((zc t z 2)))) (rfl) (by omega) (rfl) ?_
    refine gT_n 6 ?_
    refine ⟨rfl, rfl, ?_⟩
    refine gT_c51 (X := 3) ((k2E (f := fun x y : Int32 => x + y) (show _ = (2 : Int32) from rfl) (rfl : _ = (1 : Int32)) (show ((2 : Int32) + 1) = 3 by decide))) ?_
    refine gT_n 3 ?_
    refine ⟨rfl, rfl, gTM.use (m_parentOf0 hz hT e2) (Nat.le_refl _) (fun r u hq => ?_)⟩
    obtain ⟨rfl, rfl⟩ := hq  -- X12_parentOf[R171, nI ((zc t z 2))]
    refine gT_n 5 ?_
    refine ⟨fun _ => ?_, fun c => absurd (by decide) c⟩
    refine gT_n 1 ?_
    refine ⟨rfl, ?_⟩
    exact ⟨rfl, _, rfl, rfl, rfl, rfl⟩
  rw [c51_self] at key
  exact key
theorem m_chains4 {d z : Nat} {t : zT} {I : Nat → Nat → Int32} {J : Nat → Nat → Int64} {P : Nat → Nat} (hz : zOK t) (hT : mT (I 171 2) (J 172) (I 173) t) (hw : z < t.1) (e0 : ¬ zc t z 0 = 0) (e1 : ¬ zc t z 1 = 0) (e2 : ¬ zc t z 2 = 0) (e3 : zc t z 3 = 0) : gTM (d + 6) 227 [.ref 171, .int (nI z)] (gST I J P) (fun r u => r = none ∧ ∃ A : Nat → Int32, u = gST (m1 (gupI I 171 51 (nI 4)) 201 A) J P ∧ A 0 = nI (zc t z 3) ∧ A 1 = nI (zc t z 2) ∧ A 2 = nI (zc t z 1) ∧ A 3 = nI (zc t z 0)) := by
  have h4 := hz.2.1
  have key : gTM (d + 6) 227 [.ref 171, .int (nI (zc t z 0))] (gST (m1 (gupI I 171 51 (I 171 51)) 201 (I 201)) J P) (fun r u => r = none ∧ ∃ A : Nat → Int32, u = gST (m1 (gupI I 171 51 (nI 4)) 201 A) J P ∧ A 0 = nI (zc t z 3) ∧ A 1 = nI (zc t z 2) ∧ A 2 = nI (zc t z 1) ∧ A 3 = nI (zc t z 0)) := by
    refine gT_n 3 ?_
    refine ⟨rfl, ?_⟩
    refine gT_c51 (X := 0) (rfl) ?_
    refine gT_n 5 ?_
    refine ⟨fun c => absurd c (nI_neg (rfl) (Nat.lt_of_lt_of_le (zc_lt hz hw 0) (Nat.le_trans h4 (by decide)))), fun _ => ?_⟩
    refine gT_n 3 ?_
    refine ⟨rfl, ?_⟩
    refine gT_k (L := [(3, .int 0), (2, .int (nI ((zc t z 0)))), (0, .ref 171), (1, .int (nI ((zc t z 0))))]) ?_ ⟨(viI ((show _ = (0 : Int32) from rfl))), rfl, rfl, rfl, trivial⟩ rfl
    refine gT_n 2 ?_
    refine ⟨fun _ => ?_, fun c => absurd (by decide) c⟩
    refine gT_n 5 ?_
    refine ⟨rfl, rfl, (pk_inS (m := 4) (k := 0) (rfl) (by decide) (rfl)), ?_⟩
    refine gT_m1 (a := 201) (n := 0) (X := (nI ((zc t z 0)))) (rfl) (by omega) (rfl) ?_
    refine gT_n 6 ?_
    refine ⟨rfl, rfl, ?_⟩
    refine gT_c51 (X := 1) ((k2E (f := fun x y : Int32 => x + y) (show _ = (0 : Int32) from rfl) (rfl : _ = (1 : Int32)) (show ((0 : Int32) + 1) = 1 by decide))) ?_
    refine gT_n 3 ?_
    refine ⟨rfl, rfl, gTM.use (m_parentOf1 hz hT (by omega) (zc_lt hz hw 0)) (Nat.le_refl _) (fun r u hq => ?_)⟩
    obtain ⟨rfl, rfl⟩ := hq  -- X12_parentOf[R171, nI ((zc t z 0))]
    refine gT_n 5 ?_
    refine ⟨fun c => absurd c (nI_neg (rfl) (Nat.lt_of_lt_of_le (zc_lt hz hw 1) (Nat.le_trans h4 (by decide)))), fun _ => ?_⟩
    refine gT_n 3 ?_
    refine ⟨rfl, ?_⟩
    refine gT_k (L := [(3, .int 1), (2, .int (nI ((zc t z 1)))), (0, .ref 171), (1, .int (nI ((zc t z 0))))]) ?_ ⟨(viI ((show _ = (1 : Int32) from rfl))), rfl, rfl, rfl, trivial⟩ rfl
    refine gT_n 2 ?_
    refine ⟨fun c => absurd c (by decide), fun _ => ?_⟩
    refine gT_n 10 ?_
    refine ⟨rfl, rfl, rfl, (pk_inS (m := 4) (k := 0) (rfl) (by decide) (rfl)), rfl, (pk_inS (m := 4) (k := 1) (rfl) (by decide) (rfl)), ?_⟩
    refine gT_m1 (a := 201) (n := 1) (X := (nI ((zc t z 0)))) (rfl) (by omega) (rfl) ?_
    refine gT_n 4 ?_
    refine ⟨fun _ => ?_, fun c => absurd (by decide) c⟩
    refine gT_n 5 ?_
    refine ⟨rfl, rfl, (pk_inS (m := 4) (k := 0) (rfl) (by decide) (rfl)), ?_⟩
    refine gT_m1 (a := 201) (n := 0) (X := (nI ((zc t z 1)))) (rfl) (by omega) (rfl) ?_
    refine gT_n 6 ?_
    refine ⟨rfl, rfl, ?_⟩
    refine gT_c51 (X := 2) ((k2E (f := fun x y : Int32 => x + y) (show _ = (1 : Int32) from rfl) (rfl : _ = (1 : Int32)) (show ((1 : Int32) + 1) = 2 by decide))) ?_
    refine gT_n 3 ?_
    refine ⟨rfl, rfl, gTM.use (m_parentOf1 hz hT (by omega) (zc_lt hz hw 1)) (Nat.le_refl _) (fun r u hq => ?_)⟩
    obtain ⟨rfl, rfl⟩ := hq  -- X12_parentOf[R171, nI ((zc t z 1))]
    refine gT_n 5 ?_
    refine ⟨fun c => absurd c (nI_neg (rfl) (Nat.lt_of_lt_of_le (zc_lt hz hw 2) (Nat.le_trans h4 (by decide)))), fun _ => ?_⟩
    refine gT_n 3 ?_
    refine ⟨rfl, ?_⟩
    refine gT_k (L := [(3, .int 2), (2, .int (nI ((zc t z 2)))), (0, .ref 171), (1, .int (nI ((zc t z 0))))]) ?_ ⟨(viI ((show _ = (2 : Int32) from rfl))), rfl, rfl, rfl, trivial⟩ rfl
    refine gT_n 2 ?_
    refine ⟨fun c => absurd c (by decide), fun _ => ?_⟩
    refine gT_n 10 ?_
    refine ⟨rfl, rfl, rfl, (pk_inS (m := 4) (k := 1) (rfl) (by decide) (rfl)), rfl, (pk_inS (m := 4) (k := 2) (rfl) (by decide) (rfl)), ?_⟩
    refine gT_m1 (a := 201) (n := 2) (X := (nI ((zc t z 0)))) (rfl) (by omega) (rfl) ?_
    refine gT_n 4 ?_
    refine ⟨fun c => absurd c (by decide), fun _ => ?_⟩
    refine gT_n 10 ?_
    refine ⟨rfl, rfl, rfl, (pk_inS (m := 4) (k := 0) (rfl) (by decide) (rfl)), rfl, (pk_inS (m := 4) (k := 1) (rfl) (by decide) (rfl)), ?_⟩
    refine gT_m1 (a := 201) (n := 1) (X := (nI ((zc t z 1)))) (rfl) (by omega) (rfl) ?_
    refine gT_n 4 ?_
    refine ⟨fun _ => ?_, fun c => absurd (by decide) c⟩
    refine gT_n 5 ?_
    refine ⟨rfl, rfl, (pk_inS (m := 4) (k := 0) (rfl) (by decide) (rfl)), ?_⟩
    refine gT_m1 (a := 201) (n := 0) (X := (nI ((zc t z 2)))) (rfl) (by omega) (rfl) ?_
    refine gT_n 6 ?_
    refine ⟨rfl, rfl, ?_⟩
    refine gT_c51 (X := 3) ((k2E (f := fun x y : Int32 => x + y) (show _ = (2 : Int32) from rfl) (rfl : _ = (1 : Int32)) (show ((2 : Int32) + 1) = 3 by decide))) ?_
    refine gT_n 3 ?_
    refine ⟨rfl, rfl, gTM.use (m_parentOf1 hz hT (by omega) (zc_lt hz hw 2)) (Nat.le_refl _) (fun r u hq => ?_)⟩
    obtain ⟨rfl, rfl⟩ := hq  -- X12_parentOf[R171, nI ((zc t z 2))]
    refine gT_n 5 ?_
    refine ⟨fun c => absurd c (nI_neg (rfl) (Nat.lt_of_lt_of_le (zc_lt hz hw 3) (Nat.le_trans h4 (by decide)))), fun _ => ?_⟩
    refine gT_n 3 ?_
    refine ⟨rfl, ?_⟩
    refine gT_k (L := [(3, .int 3), (2, .int (nI ((zc t z 3)))), (0, .ref 171), (1, .int (nI ((zc t z 0))))]) ?_ ⟨(viI ((show _ = (3 : Int32) from rfl))), rfl, rfl, rfl, trivial⟩ rfl
    refine gT_n 2 ?_
    refine ⟨fun c => absurd c (by decide), fun _ => ?_⟩
    refine gT_n 10 ?_
    refine ⟨rfl, rfl, rfl, (pk_inS (m := 4) (k := 2) (rfl) (by decide) (rfl)), rfl, (pk_inS (m := 4) (k := 3) (rfl) (by decide) (rfl)), ?_⟩
    refine gT_m1 (a := 201) (n := 3) (X := (nI ((zc t z 0)))) (rfl) (by omega) (rfl) ?_
    refine gT_n 4 ?_
    refine ⟨fun c => absurd c (by decide), fun _ => ?_⟩
    refine gT_n 10 ?_
    refine ⟨rfl, rfl, rfl, (pk_inS (m := 4) (k := 1) (rfl) (by decide) (rfl)), rfl, (pk_inS (m := 4) (k := 2) (rfl) (by decide) (rfl)), ?_⟩
    refine gT_m1 (a := 201) (n := 2) (X := (nI ((zc t z 1)))) (rfl) (by omega) (rfl) ?_
    refine gT_n 4 ?_
    refine ⟨fun c => absurd c (by decide), fun _ => ?_⟩
    refine gT_n 10 ?_
    refine ⟨rfl, rfl, rfl, (pk_inS (m := 4) (k := 0) (rfl) (by decide) (rfl)), rfl, (pk_inS (m := 4) (k := 1) (rfl) (by decide) (rfl)), ?_⟩
    refine gT_m1 (a := 201) (n := 1) (X := (nI ((zc t z 2)))) (rfl) (by omega) (rfl) ?_
    refine gT_n 4 ?_
    refine ⟨fun _ => ?_, fun c => absurd (by decide) c⟩
    refine gT_n 5 ?_
    refine ⟨rfl, rfl, (pk_inS (m := 4) (k := 0) (rfl) (by decide) (rfl)), ?_⟩
    refine gT_m1 (a := 201) (n := 0) (X := (nI ((zc t z 3)))) (rfl) (by omega) (rfl) ?_
    refine gT_n 6 ?_
    refine ⟨rfl, rfl, ?_⟩
    refine gT_c51 (X := 4) ((k2E (f := fun x y : Int32 => x + y) (show _ = (3 : Int32) from rfl) (rfl : _ = (1 : Int32)) (show ((3 : Int32) + 1) = 4 by decide))) ?_
    refine gT_n 3 ?_
    refine ⟨rfl, rfl, gTM.use (m_parentOf0 hz hT e3) (Nat.le_refl _) (fun r u hq => ?_)⟩
    obtain ⟨rfl, rfl⟩ := hq  -- X12_parentOf[R171, nI ((zc t z 3))]
    refine gT_n 5 ?_
    refine ⟨fun _ => ?_, fun c => absurd (by decide) c⟩
    refine gT_n 1 ?_
    refine ⟨rfl, ?_⟩
    exact ⟨rfl, _, rfl, rfl, rfl, rfl, rfl⟩
  rw [c51_self] at key
  exact key
