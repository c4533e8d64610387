/-! words, numbers, labels: the class -/
def isWd (b : Nat → Nat) (q : tk3) (cs : List Nat) : Prop := q.2.2 = 1 ∧ q.2.1 - q.1 = cs.length ∧ ∀ j, j < cs.length → b (q.1 + j) = cs.getD j 0
/-- a token as it comes -/
def tIs (n : Nat) (b : Nat → Nat) (q : tk3) : Prop := ∃ a, adv n b a (.inr q)
theorem c_isW0 {d : Nat} {I X : Nat → Nat → Int32} {J Y : Nat → Nat → Int64} {P : Nat → Nat} {n : Nat} {b : Nat → Nat} (hT : tpe I n b) {q : tk3} (hta : tIs n b q) (hq : qT X q) : gTM (d + 3) 67 [.ref 1, .ref 1000000] (gST (uM I X) (uJ J Y) P) (gB (gST (uM I X) (uJ J Y) P) (isWd b q [122, 111, 110, 101])) := by
  have hn2 := hT.2.1
  obtain ⟨aq, hadv⟩ := hta
  obtain ⟨r1, r2, r3, r4, r5, r6, r7, r8⟩ := adv_r hadv
  refine gT_n 4 ?_
  refine ⟨rfl, pk_ne q.2.2 1 (fun κ1 => ?_) (fun κ1 => ?_) (hq.2.1) (rfl) (by omega) (by omega)⟩
  · refine gT_n 2 ?_
    refine ⟨(Or.inl rfl), ?_⟩
    exact ⟨rfl, Or.inr ⟨rfl, fun c => by have h1 := c.1; have h2 : q.2.1 - q.1 = 4 := c.2.1; omega⟩⟩
  · refine gT_n 8 ?_
    refine ⟨rfl, rfl, rfl, rfl, (by decide), (by decide), pk_eq (q.2.1 - q.1) 4 (fun κ2 => ?_) (fun κ2 => ?_) (pk_subE (n := q.2.1) (k := q.1) (hq.1) (hq.2.2.1) (by omega)) (rfl) (by omega) (by omega)⟩
    · refine gT_n 6 ?_
      refine ⟨rfl, rfl, (by decide), (by decide), fun c => absurd c (by decide), fun _ => ?_⟩
      refine gT_n 11 ?_
      refine ⟨rfl, rfl, (Or.inl rfl), (pk_in (q.1 + 0) 200 (by omega) (pk_addE (n := q.1) (k := 0) (hq.2.2.1) (rfl))), rfl, rfl, (by decide), (by decide), (pk_in 0 4 (by decide) rfl), pk_eq ((b (q.1 + 0))) 122 (fun κ3 => ?_) (fun κ3 => ?_) ((rdI (pk_addE (n := q.1) (k := 0) (hq.2.2.1) (rfl)) (by omega) (hT.2.2 _ (by omega)).1)) (rfl) (by have := (hT.2.2 (q.1 + 0) (by omega)).2; omega) (by omega)⟩
      · refine gT_n 6 ?_
        refine ⟨rfl, rfl, (by decide), (by decide), fun c => absurd c (by decide), fun _ => ?_⟩
        refine gT_n 11 ?_
        refine ⟨rfl, rfl, (Or.inl rfl), (pk_in (q.1 + 1) 200 (by omega) (pk_addE (n := q.1) (k := 1) (hq.2.2.1) (rfl))), rfl, rfl, (by decide), (by decide), (pk_in 1 4 (by decide) rfl), pk_eq ((b (q.1 + 1))) 111 (fun κ4 => ?_) (fun κ4 => ?_) ((rdI (pk_addE (n := q.1) (k := 1) (hq.2.2.1) (rfl)) (by omega) (hT.2.2 _ (by omega)).1)) (rfl) (by have := (hT.2.2 (q.1 + 1) (by omega)).2; omega) (by omega)⟩
        · refine gT_n 6 ?_
          refine ⟨rfl, rfl, (by decide), (by decide), fun c => absurd c (by decide), fun _ => ?_⟩
          refine gT_n 11 ?_
          refine ⟨rfl, rfl, (Or.inl rfl), (pk_in (q.1 + 2) 200 (by omega) (pk_addE (n := q.1) (k := 2) (hq.2.2.1) (rfl))), rfl, rfl, (by decide), (by decide), (pk_in 2 4 (by decide) rfl), pk_eq ((b (q.1 + 2))) 110 (fun κ5 => ?_) (fun κ5 => ?_) ((rdI (pk_addE (n := q.1) (k := 2) (hq.2.2.1) (rfl)) (by omega) (hT.2.2 _ (by omega)).1)) (rfl) (by have := (hT.2.2 (q.1 + 2) (by omega)).2; omega) (by omega)⟩
          · refine gT_n 6 ?_
            refine ⟨rfl, rfl, (by decide), (by decide), fun c => absurd c (by decide), fun _ => ?_⟩
            refine gT_n 11 ?_
            refine ⟨rfl, rfl, (Or.inl rfl), (pk_in (q.1 + 3) 200 (by omega) (pk_addE (n := q.1) (k := 3) (hq.2.2.1) (rfl))), rfl, rfl, (by decide), (by decide), (pk_in 3 4 (by decide) rfl), pk_eq ((b (q.1 + 3))) 101 (fun κ6 => ?_) (fun κ6 => ?_) ((rdI (pk_addE (n := q.1) (k := 3) (hq.2.2.1) (rfl)) (by omega) (hT.2.2 _ (by omega)).1)) (rfl) (by have := (hT.2.2 (q.1 + 3) (by omega)).2; omega) (by omega)⟩
            · refine gT_n 6 ?_
              refine ⟨rfl, rfl, (by decide), (by decide), fun _ => ?_, fun c => absurd (by decide) c⟩
              refine gT_n 2 ?_
              refine ⟨(Or.inr rfl), ?_⟩
              exact ⟨rfl, Or.inl ⟨rfl, by omega, by show q.2.1 - q.1 = 4; omega, fun j hj => by
                have hj : j < 4 := hj
                have hc : j = 0 ∨ j = 1 ∨ j = 2 ∨ j = 3 := by omega
                rcases hc with rfl | rfl | rfl | rfl
                · exact κ3
                · exact κ4
                · exact κ5
                · exact κ6⟩⟩
            · refine gT_n 2 ?_
              refine ⟨(Or.inl rfl), ?_⟩
              exact ⟨rfl, Or.inr ⟨rfl, fun c => κ6 (c.2.2 3 (by decide))⟩⟩
          · refine gT_n 2 ?_
            refine ⟨(Or.inl rfl), ?_⟩
            exact ⟨rfl, Or.inr ⟨rfl, fun c => κ5 (c.2.2 2 (by decide))⟩⟩
        · refine gT_n 2 ?_
          refine ⟨(Or.inl rfl), ?_⟩
          exact ⟨rfl, Or.inr ⟨rfl, fun c => κ4 (c.2.2 1 (by decide))⟩⟩
      · refine gT_n 2 ?_
        refine ⟨(Or.inl rfl), ?_⟩
        exact ⟨rfl, Or.inr ⟨rfl, fun c => κ3 (c.2.2 0 (by decide))⟩⟩
    · refine gT_n 2 ?_
      refine ⟨(Or.inl rfl), ?_⟩
      exact ⟨rfl, Or.inr ⟨rfl, fun c => by have h1 := c.1; have h2 : q.2.1 - q.1 = 4 := c.2.1; omega⟩⟩
theorem c_isW1 {d : Nat} {I X : Nat → Nat → Int32} {J Y : Nat → Nat → Int64} {P : Nat → Nat} {n : Nat} {b : Nat → Nat} (hT : tpe I n b) {q : tk3} (hta : tIs n b q) (hq : qT X q) : gTM (d + 3) 67 [.ref 1, .ref 1000001] (gST (uM I X) (uJ J Y) P) (gB (gST (uM I X) (uJ J Y) P) (isWd b q [112, 108, 97, 105, 110])) := by
  have hn2 := hT.2.1
  obtain ⟨aq, hadv⟩ := hta
  obtain ⟨r1, r2, r3, r4, r5, r6, r7, r8⟩ := adv_r hadv
  refine gT_n 4 ?_
  refine ⟨rfl, pk_ne q.2.2 1 (fun κ1 => ?_) (fun κ1 => ?_) (hq.2.1) (rfl) (by omega) (by omega)⟩
  · refine gT_n 2 ?_
    refine ⟨(Or.inl rfl), ?_⟩
    exact ⟨rfl, Or.inr ⟨rfl, fun c => by have h1 := c.1; have h2 : q.2.1 - q.1 = 5 := c.2.1; omega⟩⟩
  · refine gT_n 8 ?_
    refine ⟨rfl, rfl, rfl, rfl, (by decide), (by decide), pk_eq (q.2.1 - q.1) 5 (fun κ2 => ?_) (fun κ2 => ?_) (pk_subE (n := q.2.1) (k := q.1) (hq.1) (hq.2.2.1) (by omega)) (rfl) (by omega) (by omega)⟩
    · refine gT_n 6 ?_
      refine ⟨rfl, rfl, (by decide), (by decide), fun c => absurd c (by decide), fun _ => ?_⟩
      refine gT_n 11 ?_
      refine ⟨rfl, rfl, (Or.inl rfl), (pk_in (q.1 + 0) 200 (by omega) (pk_addE (n := q.1) (k := 0) (hq.2.2.1) (rfl))), rfl, rfl, (by decide), (by decide), (pk_in 0 5 (by decide) rfl), pk_eq ((b (q.1 + 0))) 112 (fun κ3 => ?_) (fun κ3 => ?_) ((rdI (pk_addE (n := q.1) (k := 0) (hq.2.2.1) (rfl)) (by omega) (hT.2.2 _ (by omega)).1)) (rfl) (by have := (hT.2.2 (q.1 + 0) (by omega)).2; omega) (by omega)⟩
      · refine gT_n 6 ?_
        refine ⟨rfl, rfl, (by decide), (by decide), fun c => absurd c (by decide), fun _ => ?_⟩
        refine gT_n 11 ?_
        refine ⟨rfl, rfl, (Or.inl rfl), (pk_in (q.1 + 1) 200 (by omega) (pk_addE (n := q.1) (k := 1) (hq.2.2.1) (rfl))), rfl, rfl, (by decide), (by decide), (pk_in 1 5 (by decide) rfl), pk_eq ((b (q.1 + 1))) 108 (fun κ4 => ?_) (fun κ4 => ?_) ((rdI (pk_addE (n := q.1) (k := 1) (hq.2.2.1) (rfl)) (by omega) (hT.2.2 _ (by omega)).1)) (rfl) (by have := (hT.2.2 (q.1 + 1) (by omega)).2; omega) (by omega)⟩
        · refine gT_n 6 ?_
          refine ⟨rfl, rfl, (by decide), (by decide), fun c => absurd c (by decide), fun _ => ?_⟩
          refine gT_n 11 ?_
          refine ⟨rfl, rfl, (Or.inl rfl), (pk_in (q.1 + 2) 200 (by omega) (pk_addE (n := q.1) (k := 2) (hq.2.2.1) (rfl))), rfl, rfl, (by decide), (by decide), (pk_in 2 5 (by decide) rfl), pk_eq ((b (q.1 + 2))) 97 (fun κ5 => ?_) (fun κ5 => ?_) ((rdI (pk_addE (n := q.1) (k := 2) (hq.2.2.1) (rfl)) (by omega) (hT.2.2 _ (by omega)).1)) (rfl) (by have := (hT.2.2 (q.1 + 2) (by omega)).2; omega) (by omega)⟩
          · refine gT_n 6 ?_
            refine ⟨rfl, rfl, (by decide), (by decide), fun c => absurd c (by decide), fun _ => ?_⟩
            refine gT_n 11 ?_
            refine ⟨rfl, rfl, (Or.inl rfl), (pk_in (q.1 + 3) 200 (by omega) (pk_addE (n := q.1) (k := 3) (hq.2.2.1) (rfl))), rfl, rfl, (by decide), (by decide), (pk_in 3 5 (by decide) rfl), pk_eq ((b (q.1 + 3))) 105 (fun κ6 => ?_) (fun κ6 => ?_) ((rdI (pk_addE (n := q.1) (k := 3) (hq.2.2.1) (rfl)) (by omega) (hT.2.2 _ (by omega)).1)) (rfl) (by have := (hT.2.2 (q.1 + 3) (by omega)).2; omega) (by omega)⟩
            · refine gT_n 6 ?_
              refine ⟨rfl, rfl, (by decide), (by decide), fun c => absurd c (by decide), fun _ => ?_⟩
              refine gT_n 11 ?_
              refine ⟨rfl, rfl, (Or.inl rfl), (pk_in (q.1 + 4) 200 (by omega) (pk_addE (n := q.1) (k := 4) (hq.2.2.1) (rfl))), rfl, rfl, (by decide), (by decide), (pk_in 4 5 (by decide) rfl), pk_eq ((b (q.1 + 4))) 110 (fun κ7 => ?_) (fun κ7 => ?_) ((rdI (pk_addE (n := q.1) (k := 4) (hq.2.2.1) (rfl)) (by omega) (hT.2.2 _ (by omega)).1)) (rfl) (by have := (hT.2.2 (q.1 + 4) (by omega)).2; omega) (by omega)⟩
              · refine gT_n 6 ?_
                refine ⟨rfl, rfl, (by decide), (by decide), fun _ => ?_, fun c => absurd (by decide) c⟩
                refine gT_n 2 ?_
                refine ⟨(Or.inr rfl), ?_⟩
                exact ⟨rfl, Or.inl ⟨rfl, by omega, by show q.2.1 - q.1 = 5; omega, fun j hj => by
                  have hj : j < 5 := hj
                  have hc : j = 0 ∨ j = 1 ∨ j = 2 ∨ j = 3 ∨ j = 4 := by omega
                  rcases hc with rfl | rfl | rfl | rfl | rfl
                  · exact κ3
                  · exact κ4
                  · exact κ5
                  · exact κ6
                  · exact κ7⟩⟩
              · refine gT_n 2 ?_
                refine ⟨(Or.inl rfl), ?_⟩
                exact ⟨rfl, Or.inr ⟨rfl, fun c => κ7 (c.2.2 4 (by decide))⟩⟩
            · refine gT_n 2 ?_
              refine ⟨(Or.inl rfl), ?_⟩
              exact ⟨rfl, Or.inr ⟨rfl, fun c => κ6 (c.2.2 3 (by decide))⟩⟩
          · refine gT_n 2 ?_
            refine ⟨(Or.inl rfl), ?_⟩
            exact ⟨rfl, Or.inr ⟨rfl, fun c => κ5 (c.2.2 2 (by decide))⟩⟩
        · refine gT_n 2 ?_
          refine ⟨(Or.inl rfl), ?_⟩
          exact ⟨rfl, Or.inr ⟨rfl, fun c => κ4 (c.2.2 1 (by decide))⟩⟩
      · refine gT_n 2 ?_
        refine ⟨(Or.inl rfl), ?_⟩
        exact ⟨rfl, Or.inr ⟨rfl, fun c => κ3 (c.2.2 0 (by decide))⟩⟩
    · refine gT_n 2 ?_
      refine ⟨(Or.inl rfl), ?_⟩
      exact ⟨rfl, Or.inr ⟨rfl, fun c => by have h1 := c.1; have h2 : q.2.1 - q.1 = 5 := c.2.1; omega⟩⟩
theorem c_isW2 {d : Nat} {I X : Nat → Nat → Int32} {J Y : Nat → Nat → Int64} {P : Nat → Nat} {n : Nat} {b : Nat → Nat} (hT : tpe I n b) {q : tk3} (hta : tIs n b q) (hq : qT X q) : gTM (d + 3) 67 [.ref 1, .ref 1000002] (gST (uM I X) (uJ J Y) P) (gB (gST (uM I X) (uJ J Y) P) (isWd b q [114, 101, 99])) := by
  have hn2 := hT.2.1
  obtain ⟨aq, hadv⟩ := hta
  obtain ⟨r1, r2, r3, r4, r5, r6, r7, r8⟩ := adv_r hadv
  refine gT_n 4 ?_
  refine ⟨rfl, pk_ne q.2.2 1 (fun κ1 => ?_) (fun κ1 => ?_) (hq.2.1) (rfl) (by omega) (by omega)⟩
  · refine gT_n 2 ?_
    refine ⟨(Or.inl rfl), ?_⟩
    exact ⟨rfl, Or.inr ⟨rfl, fun c => by have h1 := c.1; have h2 : q.2.1 - q.1 = 3 := c.2.1; omega⟩⟩
  · refine gT_n 8 ?_
    refine ⟨rfl, rfl, rfl, rfl, (by decide), (by decide), pk_eq (q.2.1 - q.1) 3 (fun κ2 => ?_) (fun κ2 => ?_) (pk_subE (n := q.2.1) (k := q.1) (hq.1) (hq.2.2.1) (by omega)) (rfl) (by omega) (by omega)⟩
    · refine gT_n 6 ?_
      refine ⟨rfl, rfl, (by decide), (by decide), fun c => absurd c (by decide), fun _ => ?_⟩
      refine gT_n 11 ?_
      refine ⟨rfl, rfl, (Or.inl rfl), (pk_in (q.1 + 0) 200 (by omega) (pk_addE (n := q.1) (k := 0) (hq.2.2.1) (rfl))), rfl, rfl, (by decide), (by decide), (pk_in 0 3 (by decide) rfl), pk_eq ((b (q.1 + 0))) 114 (fun κ3 => ?_) (fun κ3 => ?_) ((rdI (pk_addE (n := q.1) (k := 0) (hq.2.2.1) (rfl)) (by omega) (hT.2.2 _ (by omega)).1)) (rfl) (by have := (hT.2.2 (q.1 + 0) (by omega)).2; omega) (by omega)⟩
      · refine gT_n 6 ?_
        refine ⟨rfl, rfl, (by decide), (by decide), fun c => absurd c (by decide), fun _ => ?_⟩
        refine gT_n 11 ?_
        refine ⟨rfl, rfl, (Or.inl rfl), (pk_in (q.1 + 1) 200 (by omega) (pk_addE (n := q.1) (k := 1) (hq.2.2.1) (rfl))), rfl, rfl, (by decide), (by decide), (pk_in 1 3 (by decide) rfl), pk_eq ((b (q.1 + 1))) 101 (fun κ4 => ?_) (fun κ4 => ?_) ((rdI (pk_addE (n := q.1) (k := 1) (hq.2.2.1) (rfl)) (by omega) (hT.2.2 _ (by omega)).1)) (rfl) (by have := (hT.2.2 (q.1 + 1) (by omega)).2; omega) (by omega)⟩
        · refine gT_n 6 ?_
          refine ⟨rfl, rfl, (by decide), (by decide), fun c => absurd c (by decide), fun _ => ?_⟩
          refine gT_n 11 ?_
          refine ⟨rfl, rfl, (Or.inl rfl), (pk_in (q.1 + 2) 200 (by omega) (pk_addE (n := q.1) (k := 2) (hq.2.2.1) (rfl))), rfl, rfl, (by decide), (by decide), (pk_in 2 3 (by decide) rfl), pk_eq ((b (q.1 + 2))) 99 (fun κ5 => ?_) (fun κ5 => ?_) ((rdI (pk_addE (n := q.1) (k := 2) (hq.2.2.1) (rfl)) (by omega) (hT.2.2 _ (by omega)).1)) (rfl) (by have := (hT.2.2 (q.1 + 2) (by omega)).2; omega) (by omega)⟩
          · refine gT_n 6 ?_
            refine ⟨rfl, rfl, (by decide), (by decide), fun _ => ?_, fun c => absurd (by decide) c⟩
            refine gT_n 2 ?_
            refine ⟨(Or.inr rfl), ?_⟩
            exact ⟨rfl, Or.inl ⟨rfl, by omega, by show q.2.1 - q.1 = 3; omega, fun j hj => by
              have hj : j < 3 := hj
              have hc : j = 0 ∨ j = 1 ∨ j = 2 := by omega
              rcases hc with rfl | rfl | rfl
              · exact κ3
              · exact κ4
              · exact κ5⟩⟩
          · refine gT_n 2 ?_
            refine ⟨(Or.inl rfl), ?_⟩
            exact ⟨rfl, Or.inr ⟨rfl, fun c => κ5 (c.2.2 2 (by decide))⟩⟩
        · refine gT_n 2 ?_
          refine ⟨(Or.inl rfl), ?_⟩
          exact ⟨rfl, Or.inr ⟨rfl, fun c => κ4 (c.2.2 1 (by decide))⟩⟩
      · refine gT_n 2 ?_
        refine ⟨(Or.inl rfl), ?_⟩
        exact ⟨rfl, Or.inr ⟨rfl, fun c => κ3 (c.2.2 0 (by decide))⟩⟩
    · refine gT_n 2 ?_
      refine ⟨(Or.inl rfl), ?_⟩
      exact ⟨rfl, Or.inr ⟨rfl, fun c => by have h1 := c.1; have h2 : q.2.1 - q.1 = 3 := c.2.1; omega⟩⟩
theorem c_isW3 {d : Nat} {I X : Nat → Nat → Int32} {J Y : Nat → Nat → Int64} {P : Nat → Nat} {n : Nat} {b : Nat → Nat} (hT : tpe I n b) {q : tk3} (hta : tIs n b q) (hq : qT X q) : gTM (d + 3) 67 [.ref 1, .ref 1000003] (gST (uM I X) (uJ J Y) P) (gB (gST (uM I X) (uJ J Y) P) (isWd b q [115, 112, 97, 110])) := by
  have hn2 := hT.2.1
  obtain ⟨aq, hadv⟩ := hta
  obtain ⟨r1, r2, r3, r4, r5, r6, r7, r8⟩ := adv_r hadv
  refine gT_n 4 ?_
  refine ⟨rfl, pk_ne q.2.2 1 (fun κ1 => ?_) (fun κ1 => ?_) (hq.2.1) (rfl) (by omega) (by omega)⟩
  · refine gT_n 2 ?_
    refine ⟨(Or.inl rfl), ?_⟩
    exact ⟨rfl, Or.inr ⟨rfl, fun c => by have h1 := c.1; have h2 : q.2.1 - q.1 = 4 := c.2.1; omega⟩⟩
  · refine gT_n 8 ?_
    refine ⟨rfl, rfl, rfl, rfl, (by decide), (by decide), pk_eq (q.2.1 - q.1) 4 (fun κ2 => ?_) (fun κ2 => ?_) (pk_subE (n := q.2.1) (k := q.1) (hq.1) (hq.2.2.1) (by omega)) (rfl) (by omega) (by omega)⟩
    · refine gT_n 6 ?_
      refine ⟨rfl, rfl, (by decide), (by decide), fun c => absurd c (by decide), fun _ => ?_⟩
      refine gT_n 11 ?_
      refine ⟨rfl, rfl, (Or.inl rfl), (pk_in (q.1 + 0) 200 (by omega) (pk_addE (n := q.1) (k := 0) (hq.2.2.1) (rfl))), rfl, rfl, (by decide), (by decide), (pk_in 0 4 (by decide) rfl), pk_eq ((b (q.1 + 0))) 115 (fun κ3 => ?_) (fun κ3 => ?_) ((rdI (pk_addE (n := q.1) (k := 0) (hq.2.2.1) (rfl)) (by omega) (hT.2.2 _ (by omega)).1)) (rfl) (by have := (hT.2.2 (q.1 + 0) (by omega)).2; omega) (by omega)⟩
      · refine gT_n 6 ?_
        refine ⟨rfl, rfl, (by decide), (by decide), fun c => absurd c (by decide), fun _ => ?_⟩
        refine gT_n 11 ?_
        refine ⟨rfl, rfl, (Or.inl rfl), (pk_in (q.1 + 1) 200 (by omega) (pk_addE (n := q.1) (k := 1) (hq.2.2.1) (rfl))), rfl, rfl, (by decide), (by decide), (pk_in 1 4 (by decide) rfl), pk_eq ((b (q.1 + 1))) 112 (fun κ4 => ?_) (fun κ4 => ?_) ((rdI (pk_addE (n := q.1) (k := 1) (hq.2.2.1) (rfl)) (by omega) (hT.2.2 _ (by omega)).1)) (rfl) (by have := (hT.2.2 (q.1 + 1) (by omega)).2; omega) (by omega)⟩
        · refine gT_n 6 ?_
          refine ⟨rfl, rfl, (by decide), (by decide), fun c => absurd c (by decide), fun _ => ?_⟩
          refine gT_n 11 ?_
          refine ⟨rfl, rfl, (Or.inl rfl), (pk_in (q.1 + 2) 200 (by omega) (pk_addE (n := q.1) (k := 2) (hq.2.2.1) (rfl))), rfl, rfl, (by decide), (by decide), (pk_in 2 4 (by decide) rfl), pk_eq ((b (q.1 + 2))) 97 (fun κ5 => ?_) (fun κ5 => ?_) ((rdI (pk_addE (n := q.1) (k := 2) (hq.2.2.1) (rfl)) (by omega) (hT.2.2 _ (by omega)).1)) (rfl) (by have := (hT.2.2 (q.1 + 2) (by omega)).2; omega) (by omega)⟩
          · refine gT_n 6 ?_
            refine ⟨rfl, rfl, (by decide), (by decide), fun c => absurd c (by decide), fun _ => ?_⟩
            refine gT_n 11 ?_
            refine ⟨rfl, rfl, (Or.inl rfl), (pk_in (q.1 + 3) 200 (by omega) (pk_addE (n := q.1) (k := 3) (hq.2.2.1) (rfl))), rfl, rfl, (by decide), (by decide), (pk_in 3 4 (by decide) rfl), pk_eq ((b (q.1 + 3))) 110 (fun κ6 => ?_) (fun κ6 => ?_) ((rdI (pk_addE (n := q.1) (k := 3) (hq.2.2.1) (rfl)) (by omega) (hT.2.2 _ (by omega)).1)) (rfl) (by have := (hT.2.2 (q.1 + 3) (by omega)).2; omega) (by omega)⟩
            · refine gT_n 6 ?_
              refine ⟨rfl, rfl, (by decide), (by decide), fun _ => ?_, fun c => absurd (by decide) c⟩
              refine gT_n 2 ?_
              refine ⟨(Or.inr rfl), ?_⟩
              exact ⟨rfl, Or.inl ⟨rfl, by omega, by show q.2.1 - q.1 = 4; omega, fun j hj => by
                have hj : j < 4 := hj
                have hc : j = 0 ∨ j = 1 ∨ j = 2 ∨ j = 3 := by omega
                rcases hc with rfl | rfl | rfl | rfl
                · exact κ3
                · exact κ4
                · exact κ5
                · exact κ6⟩⟩
            · refine gT_n 2 ?_
              refine ⟨(Or.inl rfl), ?_⟩
              exact ⟨rfl, Or.inr ⟨rfl, fun c => κ6 (c.2.2 3 (by decide))⟩⟩
          · refine gT_n 2 ?_
            refine ⟨(Or.inl rfl), ?_⟩
            exact ⟨rfl, Or.inr ⟨rfl, fun c => κ5 (c.2.2 2 (by decide))⟩⟩
        · refine gT_n 2 ?_
          refine ⟨(Or.inl rfl), ?_⟩
          exact ⟨rfl, Or.inr ⟨rfl, fun c => κ4 (c.2.2 1 (by decide))⟩⟩
      · refine gT_n 2 ?_
        refine ⟨(Or.inl rfl), ?_⟩
        exact ⟨rfl, Or.inr ⟨rfl, fun c => κ3 (c.2.2 0 (by decide))⟩⟩
    · refine gT_n 2 ?_
      refine ⟨(Or.inl rfl), ?_⟩
      exact ⟨rfl, Or.inr ⟨rfl, fun c => by have h1 := c.1; have h2 : q.2.1 - q.1 = 4 := c.2.1; omega⟩⟩
theorem c_isW4 {d : Nat} {I X : Nat → Nat → Int32} {J Y : Nat → Nat → Int64} {P : Nat → Nat} {n : Nat} {b : Nat → Nat} (hT : tpe I n b) {q : tk3} (hta : tIs n b q) (hq : qT X q) : gTM (d + 3) 67 [.ref 1, .ref 1000004] (gST (uM I X) (uJ J Y) P) (gB (gST (uM I X) (uJ J Y) P) (isWd b q [97])) := by
  have hn2 := hT.2.1
  obtain ⟨aq, hadv⟩ := hta
  obtain ⟨r1, r2, r3, r4, r5, r6, r7, r8⟩ := adv_r hadv
  refine gT_n 4 ?_
  refine ⟨rfl, pk_ne q.2.2 1 (fun κ1 => ?_) (fun κ1 => ?_) (hq.2.1) (rfl) (by omega) (by omega)⟩
  · refine gT_n 2 ?_
    refine ⟨(Or.inl rfl), ?_⟩
    exact ⟨rfl, Or.inr ⟨rfl, fun c => by have h1 := c.1; have h2 : q.2.1 - q.1 = 1 := c.2.1; omega⟩⟩
  · refine gT_n 8 ?_
    refine ⟨rfl, rfl, rfl, rfl, (by decide), (by decide), pk_eq (q.2.1 - q.1) 1 (fun κ2 => ?_) (fun κ2 => ?_) (pk_subE (n := q.2.1) (k := q.1) (hq.1) (hq.2.2.1) (by omega)) (rfl) (by omega) (by omega)⟩
    · refine gT_n 6 ?_
      refine ⟨rfl, rfl, (by decide), (by decide), fun c => absurd c (by decide), fun _ => ?_⟩
      refine gT_n 11 ?_
      refine ⟨rfl, rfl, (Or.inl rfl), (pk_in (q.1 + 0) 200 (by omega) (pk_addE (n := q.1) (k := 0) (hq.2.2.1) (rfl))), rfl, rfl, (by decide), (by decide), (pk_in 0 1 (by decide) rfl), pk_eq ((b (q.1 + 0))) 97 (fun κ3 => ?_) (fun κ3 => ?_) ((rdI (pk_addE (n := q.1) (k := 0) (hq.2.2.1) (rfl)) (by omega) (hT.2.2 _ (by omega)).1)) (rfl) (by have := (hT.2.2 (q.1 + 0) (by omega)).2; omega) (by omega)⟩
      · refine gT_n 6 ?_
        refine ⟨rfl, rfl, (by decide), (by decide), fun _ => ?_, fun c => absurd (by decide) c⟩
        refine gT_n 2 ?_
        refine ⟨(Or.inr rfl), ?_⟩
        exact ⟨rfl, Or.inl ⟨rfl, by omega, by show q.2.1 - q.1 = 1; omega, fun j hj => by obtain rfl : j = 0 := Nat.lt_one_iff.mp hj; exact κ3⟩⟩
      · refine gT_n 2 ?_
        refine ⟨(Or.inl rfl), ?_⟩
        exact ⟨rfl, Or.inr ⟨rfl, fun c => κ3 (c.2.2 0 (by decide))⟩⟩
    · refine gT_n 2 ?_
      refine ⟨(Or.inl rfl), ?_⟩
      exact ⟨rfl, Or.inr ⟨rfl, fun c => by have h1 := c.1; have h2 : q.2.1 - q.1 = 1 := c.2.1; omega⟩⟩
theorem c_isW5 {d : Nat} {I X : Nat → Nat → Int32} {J Y : Nat → Nat → Int64} {P : Nat → Nat} {n : Nat} {b : Nat → Nat} (hT : tpe I n b) {q : tk3} (hta : tIs n b q) (hq : qT X q) : gTM (d + 3) 67 [.ref 1, .ref 1000005] (gST (uM I X) (uJ J Y) P) (gB (gST (uM I X) (uJ J Y) P) (isWd b q [116])) := by
  have hn2 := hT.2.1
  obtain ⟨aq, hadv⟩ := hta
  obtain ⟨r1, r2, r3, r4, r5, r6, r7, r8⟩ := adv_r hadv
  refine gT_n 4 ?_
  refine ⟨rfl, pk_ne q.2.2 1 (fun κ1 => ?_) (fun κ1 => ?_) (hq.2.1) (rfl) (by omega) (by omega)⟩
  · refine gT_n 2 ?_
    refine ⟨(Or.inl rfl), ?_⟩
    exact ⟨rfl, Or.inr ⟨rfl, fun c => by have h1 := c.1; have h2 : q.2.1 - q.1 = 1 := c.2.1; omega⟩⟩
  · refine gT_n 8 ?_
    refine ⟨rfl, rfl, rfl, rfl, (by decide), (by decide), pk_eq (q.2.1 - q.1) 1 (fun κ2 => ?_) (fun κ2 => ?_) (pk_subE (n := q.2.1) (k := q.1) (hq.1) (hq.2.2.1) (by omega)) (rfl) (by omega) (by omega)⟩
    · refine gT_n 6 ?_
      refine ⟨rfl, rfl, (by decide), (by decide), fun c => absurd c (by decide), fun _ => ?_⟩
      refine gT_n 11 ?_
      refine ⟨rfl, rfl, (Or.inl rfl), (pk_in (q.1 + 0) 200 (by omega) (pk_addE (n := q.1) (k := 0) (hq.2.2.1) (rfl))), rfl, rfl, (by decide), (by decide), (pk_in 0 1 (by decide) rfl), pk_eq ((b (q.1 + 0))) 116 (fun κ3 => ?_) (fun κ3 => ?_) ((rdI (pk_addE (n := q.1) (k := 0) (hq.2.2.1) (rfl)) (by omega) (hT.2.2 _ (by omega)).1)) (rfl) (by have := (hT.2.2 (q.1 + 0) (by omega)).2; omega) (by omega)⟩
      · refine gT_n 6 ?_
        refine ⟨rfl, rfl, (by decide), (by decide), fun _ => ?_, fun c => absurd (by decide) c⟩
        refine gT_n 2 ?_
        refine ⟨(Or.inr rfl), ?_⟩
        exact ⟨rfl, Or.inl ⟨rfl, by omega, by show q.2.1 - q.1 = 1; omega, fun j hj => by obtain rfl : j = 0 := Nat.lt_one_iff.mp hj; exact κ3⟩⟩
      · refine gT_n 2 ?_
        refine ⟨(Or.inl rfl), ?_⟩
        exact ⟨rfl, Or.inr ⟨rfl, fun c => κ3 (c.2.2 0 (by decide))⟩⟩
    · refine gT_n 2 ?_
      refine ⟨(Or.inl rfl), ?_⟩
      exact ⟨rfl, Or.inr ⟨rfl, fun c => by have h1 := c.1; have h2 : q.2.1 - q.1 = 1 := c.2.1; omega⟩⟩
theorem c_isW6 {d : Nat} {I X : Nat → Nat → Int32} {J Y : Nat → Nat → Int64} {P : Nat → Nat} {n : Nat} {b : Nat → Nat} (hT : tpe I n b) {q : tk3} (hta : tIs n b q) (hq : qT X q) : gTM (d + 3) 67 [.ref 1, .ref 1000006] (gST (uM I X) (uJ J Y) P) (gB (gST (uM I X) (uJ J Y) P) (isWd b q [109])) := by
  have hn2 := hT.2.1
  obtain ⟨aq, hadv⟩ := hta
  obtain ⟨r1, r2, r3, r4, r5, r6, r7, r8⟩ := adv_r hadv
  refine gT_n 4 ?_
  refine ⟨rfl, pk_ne q.2.2 1 (fun κ1 => ?_) (fun κ1 => ?_) (hq.2.1) (rfl) (by omega) (by omega)⟩
  · refine gT_n 2 ?_
    refine ⟨(Or.inl rfl), ?_⟩
    exact ⟨rfl, Or.inr ⟨rfl, fun c => by have h1 := c.1; have h2 : q.2.1 - q.1 = 1 := c.2.1; omega⟩⟩
  · refine gT_n 8 ?_
    refine ⟨rfl, rfl, rfl, rfl, (by decide), (by decide), pk_eq (q.2.1 - q.1) 1 (fun κ2 => ?_) (fun κ2 => ?_) (pk_subE (n := q.2.1) (k := q.1) (hq.1) (hq.2.2.1) (by omega)) (rfl) (by omega) (by omega)⟩
    · refine gT_n 6 ?_
      refine ⟨rfl, rfl, (by decide), (by decide), fun c => absurd c (by decide), fun _ => ?_⟩
      refine gT_n 11 ?_
      refine ⟨rfl, rfl, (Or.inl rfl), (pk_in (q.1 + 0) 200 (by omega) (pk_addE (n := q.1) (k := 0) (hq.2.2.1) (rfl))), rfl, rfl, (by decide), (by decide), (pk_in 0 1 (by decide) rfl), pk_eq ((b (q.1 + 0))) 109 (fun κ3 => ?_) (fun κ3 => ?_) ((rdI (pk_addE (n := q.1) (k := 0) (hq.2.2.1) (rfl)) (by omega) (hT.2.2 _ (by omega)).1)) (rfl) (by have := (hT.2.2 (q.1 + 0) (by omega)).2; omega) (by omega)⟩
      · refine gT_n 6 ?_
        refine ⟨rfl, rfl, (by decide), (by decide), fun _ => ?_, fun c => absurd (by decide) c⟩
        refine gT_n 2 ?_
        refine ⟨(Or.inr rfl), ?_⟩
        exact ⟨rfl, Or.inl ⟨rfl, by omega, by show q.2.1 - q.1 = 1; omega, fun j hj => by obtain rfl : j = 0 := Nat.lt_one_iff.mp hj; exact κ3⟩⟩
      · refine gT_n 2 ?_
        refine ⟨(Or.inl rfl), ?_⟩
        exact ⟨rfl, Or.inr ⟨rfl, fun c => κ3 (c.2.2 0 (by decide))⟩⟩
    · refine gT_n 2 ?_
      refine ⟨(Or.inl rfl), ?_⟩
      exact ⟨rfl, Or.inr ⟨rfl, fun c => by have h1 := c.1; have h2 : q.2.1 - q.1 = 1 := c.2.1; omega⟩⟩
def num (b : Nat → Nat) (q : tk3) : Nat := if q.2.1 - q.1 = 1 then b q.1 - 48 else 10 * (b q.1 - 48) + (b (q.1 + 1) - 48)
theorem c_number {d : Nat} {I X : Nat → Nat → Int32} {J Y : Nat → Nat → Int64} {P : Nat → Nat} {n : Nat} {b : Nat → Nat} (hT : tpe I n b) {q : tk3} (hta : tIs n b q) (hq : qT X q) (h2 : q.2.2 = 2) : gTM d 72 [.ref 1] (gST (uM I X) (uJ J Y) P) (fun r u => u = (gST (uM I X) (uJ J Y) P) ∧ r = some (.int (nI (num b q)))) := by
  have hn2 := hT.2.1
  obtain ⟨aq, hadv⟩ := hta
  obtain ⟨r1, r2, r3, r4, r5, r6, r7, r8⟩ := adv_r hadv
  obtain ⟨r8, r9⟩ := r8 h2
  have r6 : q.1 < q.2.1 := by omega
  have d0 := r8 q.1 (by omega) r6
  have l0 : ∀ v i, i = q.2.1 → v = num b q → gT d 72 7 [(1, .int (nI v)), (2, .int (nI i)), (0, .ref 1)] [] (0, 0) (gST (uM I X) (uJ J Y) P) (fun r u => u = (gST (uM I X) (uJ J Y) P) ∧ r = some (.int (nI (num b q)))) := by
    intro v i hi hv
    refine gT_n 4 ?_
    refine ⟨rfl, pk_le q.2.1 i (fun κ1 => ?_) (fun κ1 => ?_) (hq.1) (rfl) (by omega) (by omega)⟩
    · refine gT_n 2 ?_
      exact ⟨rfl, by rw [hv]⟩
    · exact absurd (show i < q.2.1 by omega) (by omega)
  have l1 : ∀ v i, i + 1 = q.2.1 → v < 1000 → v * 10 + b i - 48 = num b q → gT d 72 7 [(1, .int (nI v)), (2, .int (nI i)), (0, .ref 1)] [] (0, 0) (gST (uM I X) (uJ J Y) P) (fun r u => u = (gST (uM I X) (uJ J Y) P) ∧ r = some (.int (nI (num b q)))) := by
    intro v i hi hv1 hv
    have hd := r8 i (by omega) (by omega)
    refine gT_n 4 ?_
    refine ⟨rfl, pk_le q.2.1 i (fun κ1 => ?_) (fun κ1 => ?_) (hq.1) (rfl) (by omega) (by omega)⟩
    · exact absurd (show q.2.1 ≤ n from r3) (by omega)
    · refine gT_n 4 ?_
      refine ⟨rfl, pk_le n i (fun κ2 => ?_) (fun κ2 => ?_) (hT.1) (rfl) (by omega) (by omega)⟩
      · exact absurd (show q.2.1 ≤ n from r3) (by omega)
      · refine gT_n 11 ?_
        refine ⟨rfl, (Or.inl rfl), (pk_in i 200 (by omega) (rfl)), ?_⟩
        refine gT_k (L := [(1, .int (nI (((v * 10) + ((b i))) - 48))), (2, .int (nI i)), (0, .ref 1)]) ?_ ⟨(viI (pk_subE (n := ((v * 10) + ((b i)))) (k := 48) (pk_addE (n := (v * 10)) (k := ((b i))) (pk_mulE (n := v) (k := 10) (rfl) (rfl)) ((rdI (rfl) (by omega) (hT.2.2 _ (by omega)).1))) (rfl) (by omega))), rfl, rfl, trivial⟩ rfl
        refine gT_n 2 ?_
        exact gT_k (l0 (v * 10 + b i - 48) (i + 1) (by omega) (by omega)) ⟨rfl, viI (nI_1 i), rfl, trivial⟩ rfl
  by_cases h1 : q.2.1 - q.1 = 1
  · have e : num b q = b q.1 - 48 := if_pos h1
    refine gT_n 5 ?_
    refine ⟨rfl, ?_⟩
    refine gT_k (L := [(2, .int (nI q.1)), (1, .int 0), (0, .ref 1)]) ?_ ⟨(viI (hq.2.2.1)), rfl, rfl, trivial⟩ rfl
    exact gT_k (l1 0 q.1 (by omega) (by omega) (by omega)) ⟨rfl, rfl, rfl, trivial⟩ rfl
  · have e : num b q = 10 * (b q.1 - 48) + (b (q.1 + 1) - 48) := if_neg h1
    have d1 := r8 (q.1 + 1) (by omega) (by omega)
    refine gT_n 5 ?_
    refine ⟨rfl, ?_⟩
    refine gT_k (L := [(2, .int (nI q.1)), (1, .int 0), (0, .ref 1)]) ?_ ⟨(viI (hq.2.2.1)), rfl, rfl, trivial⟩ rfl
    refine gT_k (L := [(1, .int (nI 0)), (2, .int (nI q.1)), (0, .ref 1)]) ?_ ⟨rfl, rfl, rfl, trivial⟩ rfl
    refine gT_n 4 ?_
    refine ⟨rfl, pk_le q.2.1 q.1 (fun κ1 => ?_) (fun κ1 => ?_) (hq.1) (rfl) (by omega) (by omega)⟩
    · exact absurd (show q.2.1 ≤ n from r3) (by omega)
    · refine gT_n 4 ?_
      refine ⟨rfl, pk_le n q.1 (fun κ2 => ?_) (fun κ2 => ?_) (hT.1) (rfl) (by omega) (by omega)⟩
      · exact absurd (show q.2.1 ≤ n from r3) (by omega)
      · refine gT_n 11 ?_
        refine ⟨rfl, (Or.inl rfl), (pk_in q.1 200 (by omega) (rfl)), ?_⟩
        refine gT_k (L := [(1, .int (nI (((0 * 10) + ((b q.1))) - 48))), (2, .int (nI q.1)), (0, .ref 1)]) ?_ ⟨(viI (pk_subE (n := ((0 * 10) + ((b q.1)))) (k := 48) (pk_addE (n := (0 * 10)) (k := ((b q.1))) (pk_mulE (n := 0) (k := 10) (rfl) (rfl)) ((rdI (rfl) (by omega) (hT.2.2 _ (by omega)).1))) (rfl) (by omega))), rfl, rfl, trivial⟩ rfl
        refine gT_n 2 ?_
        exact gT_k (l1 (b q.1 - 48) (q.1 + 1) (by omega) (by have := (hT.2.2 q.1 (by omega)).2; omega) (by omega)) ⟨viI (congrArg nI (by omega)), viI (nI_1 _), rfl, trivial⟩ rfl
def lt3 (b : Nat → Nat) (q : tk3) (k : Nat) : Nat := if q.1 + k < q.2.1 then b (q.1 + k) - 96 else 0
def lbW (b : Nat → Nat) (q : tk3) : Nat := 1024 * lt3 b q 0 + 32 * lt3 b q 1 + lt3 b q 2
theorem c_letterR0 {d : Nat} {I X : Nat → Nat → Int32} {J Y : Nat → Nat → Int64} {P : Nat → Nat} {n : Nat} {b : Nat → Nat} (hT : tpe I n b) {q : tk3} (hta : tIs n b q) (hq : qT X q) (h1 : q.2.2 = 1) : gTM d 76 [.ref 1, .int 0] (gST (uM I X) (uJ J Y) P) (fun r u => u = (gST (uM I X) (uJ J Y) P) ∧ r = some (.int (nI (lt3 b q 0)))) := by
  have hn2 := hT.2.1
  obtain ⟨aq, hadv⟩ := hta
  obtain ⟨r1, r2, r3, r4, r5, r6, r7, r8⟩ := adv_r hadv
  have h97 : q.1 + 0 < q.2.1 → 97 ≤ b (q.1 + 0) := fun h => (r7 h1 _ (by omega) h).1
  refine gT_n 5 ?_
  refine ⟨rfl, ?_⟩
  refine gT_k (L := [(2, .int (nI (q.1 + 0))), (0, .ref 1), (1, .int 0)]) ?_ ⟨(viI (pk_addE (n := q.1) (k := 0) (hq.2.2.1) (rfl))), rfl, rfl, trivial⟩ rfl
  refine gT_n 4 ?_
  refine ⟨rfl, pk_le q.2.1 (q.1 + 0) (fun κ1 => ?_) (fun κ1 => ?_) (hq.1) (rfl) (by omega) (by omega)⟩
  · refine gT_n 2 ?_
    exact ⟨rfl, ri (congrArg nI (if_neg (by omega : ¬ q.1 + 0 < q.2.1)).symm)⟩
  · refine gT_n 4 ?_
    refine ⟨rfl, pk_le n (q.1 + 0) (fun κ2 => ?_) (fun κ2 => ?_) (hT.1) (rfl) (by omega) (by omega)⟩
    · refine gT_n 2 ?_
      exact absurd (show q.2.1 ≤ n from r3) (by omega)
    · refine gT_n 10 ?_
      refine ⟨rfl, (Or.inl rfl), (pk_in (q.1 + 0) 200 (by omega) (rfl)), ?_⟩
      exact ⟨rfl, ri (Eq.trans (pk_addE (n := (((b (q.1 + 0))) - 97)) (k := 1) (pk_subE (n := ((b (q.1 + 0)))) (k := 97) ((rdI (rfl) (by omega) (hT.2.2 _ (by omega)).1)) (rfl) (by omega)) (rfl)) (congrArg nI (Eq.trans (show _ = b (q.1 + 0) - 96 by have := r7 h1 (q.1 + 0) (by omega) (by omega); omega) (if_pos (by omega : q.1 + 0 < q.2.1)).symm)))⟩
theorem c_letterR1 {d : Nat} {I X : Nat → Nat → Int32} {J Y : Nat → Nat → Int64} {P : Nat → Nat} {n : Nat} {b : Nat → Nat} (hT : tpe I n b) {q : tk3} (hta : tIs n b q) (hq : qT X q) (h1 : q.2.2 = 1) : gTM d 76 [.ref 1, .int 1] (gST (uM I X) (uJ J Y) P) (fun r u => u = (gST (uM I X) (uJ J Y) P) ∧ r = some (.int (nI (lt3 b q 1)))) := by
  have hn2 := hT.2.1
  obtain ⟨aq, hadv⟩ := hta
  obtain ⟨r1, r2, r3, r4, r5, r6, r7, r8⟩ := adv_r hadv
  have h97 : q.1 + 1 < q.2.1 → 97 ≤ b (q.1 + 1) := fun h => (r7 h1 _ (by omega) h).1
  refine gT_n 5 ?_
  refine ⟨rfl, ?_⟩
  refine gT_k (L := [(2, .int (nI (q.1 + 1))), (0, .ref 1), (1, .int 1)]) ?_ ⟨(viI (pk_addE (n := q.1) (k := 1) (hq.2.2.1) (rfl))), rfl, rfl, trivial⟩ rfl
  refine gT_n 4 ?_
  refine ⟨rfl, pk_le q.2.1 (q.1 + 1) (fun κ1 => ?_) (fun κ1 => ?_) (hq.1) (rfl) (by omega) (by omega)⟩
  · refine gT_n 2 ?_
    exact ⟨rfl, ri (congrArg nI (if_neg (by omega : ¬ q.1 + 1 < q.2.1)).symm)⟩
  · refine gT_n 4 ?_
    refine ⟨rfl, pk_le n (q.1 + 1) (fun κ2 => ?_) (fun κ2 => ?_) (hT.1) (rfl) (by omega) (by omega)⟩
    · refine gT_n 2 ?_
      exact absurd (show q.2.1 ≤ n from r3) (by omega)
    · refine gT_n 10 ?_
      refine ⟨rfl, (Or.inl rfl), (pk_in (q.1 + 1) 200 (by omega) (rfl)), ?_⟩
      exact ⟨rfl, ri (Eq.trans (pk_addE (n := (((b (q.1 + 1))) - 97)) (k := 1) (pk_subE (n := ((b (q.1 + 1)))) (k := 97) ((rdI (rfl) (by omega) (hT.2.2 _ (by omega)).1)) (rfl) (by omega)) (rfl)) (congrArg nI (Eq.trans (show _ = b (q.1 + 1) - 96 by have := r7 h1 (q.1 + 1) (by omega) (by omega); omega) (if_pos (by omega : q.1 + 1 < q.2.1)).symm)))⟩
theorem c_letterR2 {d : Nat} {I X : Nat → Nat → Int32} {J Y : Nat → Nat → Int64} {P : Nat → Nat} {n : Nat} {b : Nat → Nat} (hT : tpe I n b) {q : tk3} (hta : tIs n b q) (hq : qT X q) (h1 : q.2.2 = 1) : gTM d 76 [.ref 1, .int 2] (gST (uM I X) (uJ J Y) P) (fun r u => u = (gST (uM I X) (uJ J Y) P) ∧ r = some (.int (nI (lt3 b q 2)))) := by
  have hn2 := hT.2.1
  obtain ⟨aq, hadv⟩ := hta
  obtain ⟨r1, r2, r3, r4, r5, r6, r7, r8⟩ := adv_r hadv
  have h97 : q.1 + 2 < q.2.1 → 97 ≤ b (q.1 + 2) := fun h => (r7 h1 _ (by omega) h).1
  refine gT_n 5 ?_
  refine ⟨rfl, ?_⟩
  refine gT_k (L := [(2, .int (nI (q.1 + 2))), (0, .ref 1), (1, .int 2)]) ?_ ⟨(viI (pk_addE (n := q.1) (k := 2) (hq.2.2.1) (rfl))), rfl, rfl, trivial⟩ rfl
  refine gT_n 4 ?_
  refine ⟨rfl, pk_le q.2.1 (q.1 + 2) (fun κ1 => ?_) (fun κ1 => ?_) (hq.1) (rfl) (by omega) (by omega)⟩
  · refine gT_n 2 ?_
    exact ⟨rfl, ri (congrArg nI (if_neg (by omega : ¬ q.1 + 2 < q.2.1)).symm)⟩
  · refine gT_n 4 ?_
    refine ⟨rfl, pk_le n (q.1 + 2) (fun κ2 => ?_) (fun κ2 => ?_) (hT.1) (rfl) (by omega) (by omega)⟩
    · refine gT_n 2 ?_
      exact absurd (show q.2.1 ≤ n from r3) (by omega)
    · refine gT_n 10 ?_
      refine ⟨rfl, (Or.inl rfl), (pk_in (q.1 + 2) 200 (by omega) (rfl)), ?_⟩
      exact ⟨rfl, ri (Eq.trans (pk_addE (n := (((b (q.1 + 2))) - 97)) (k := 1) (pk_subE (n := ((b (q.1 + 2)))) (k := 97) ((rdI (rfl) (by omega) (hT.2.2 _ (by omega)).1)) (rfl) (by omega)) (rfl)) (congrArg nI (Eq.trans (show _ = b (q.1 + 2) - 96 by have := r7 h1 (q.1 + 2) (by omega) (by omega); omega) (if_pos (by omega : q.1 + 2 < q.2.1)).symm)))⟩
theorem lbW_v {b : Nat → Nat} {q : tk3} (h : ∀ j, q.1 ≤ j → j < q.2.1 → 97 ≤ b j ∧ b j ≤ 122) (h1 : q.1 < q.2.1) : (1 ≤ lt3 b q 0 ∧ lt3 b q 0 ≤ 26) ∧ lt3 b q 1 ≤ 26 ∧ lt3 b q 2 ≤ 26 ∧ (lt3 b q 1 = 0 → lt3 b q 2 = 0) := by
  have h0 := h q.1 (by omega) h1
  have e0 : lt3 b q 0 = b q.1 - 96 := if_pos h1
  refine ⟨by omega, ?_, ?_, ?_⟩
  · unfold lt3
    by_cases c : q.1 + 1 < q.2.1
    · rw [if_pos c]; have := h (q.1 + 1) (by omega) c; omega
    · rw [if_neg c]; omega
  · unfold lt3
    by_cases c : q.1 + 2 < q.2.1
    · rw [if_pos c]; have := h (q.1 + 2) (by omega) c; omega
    · rw [if_neg c]; omega
  · unfold lt3
    by_cases c : q.1 + 1 < q.2.1
    · rw [if_pos c]; have := h (q.1 + 1) (by omega) c; omega
    · rw [if_neg c, if_neg (by omega)]; omega
theorem isL_n {i : Nat} (h1 : 1 ≤ i) (h2 : i ≤ 26) : isL (nI i) := ⟨nI_le (a := 1) h1 (by omega), nI_le (b := 26) h2 (by omega)⟩
theorem c_labelR {d : Nat} {I X : Nat → Nat → Int32} {J Y : Nat → Nat → Int64} {P : Nat → Nat} {n : Nat} {b : Nat → Nat} (hT : tpe I n b) {q : tk3} (hta : tIs n b q) (hq : qT X q) (h1 : q.2.2 = 1) : gTM (d + 2) 75 [.ref 1] (gST (uM I X) (uJ J Y) P) (fun r u => u = (gST (uM I X) (uJ J Y) P) ∧ r = some (.int (nI (lbW b q)))) := by
  have hta0 := hta
  have hn2 := hT.2.1
  obtain ⟨aq, hadv⟩ := hta
  obtain ⟨r1, r2, r3, r4, r5, r6, r7, r8⟩ := adv_r hadv
  have r6 : q.1 < q.2.1 := by omega
  obtain ⟨⟨v1, v2⟩, v3, v4, v5⟩ := lbW_v (r7 h1) r6
  have h27 : ¬ nI (lt3 b q 0) = 27 := fun e => by have := (nI_eq (a := lt3 b q 0) (b := 27) (by omega) (by omega)).mp e; omega
  have z0 : ∀ {i : Nat}, i ≤ 26 → nI i = 0 ∨ isL (nI i) := fun {i} h => by
    rcases Nat.eq_zero_or_pos i with e | e
    · rw [e]; exact Or.inl rfl
    · exact Or.inr (isL_n e h)
  have hok : okL (nI (lt3 b q 0)) (nI (lt3 b q 1)) (nI (lt3 b q 2)) := Or.inr ⟨h27, isL_n v1 v2, z0 v3, z0 v4, fun e => by rw [v5 ((nI_eq (a := lt3 b q 1) (b := 0) (by omega) (by omega)).mp e)]; rfl⟩
  refine gT_n 3 ?_
  refine ⟨rfl, rfl, gTM.use (c_letterR0 hT hta0 hq h1) (Nat.le_refl _) (fun r u hq => ?_)⟩
  obtain ⟨rfl, rfl⟩ := hq  -- X6_letterRead[R1, K0]
  refine gT_n 3 ?_
  refine ⟨rfl, rfl, gTM.use (c_letterR1 hT hta0 hq h1) (Nat.le_refl _) (fun r u hq => ?_)⟩
  obtain ⟨rfl, rfl⟩ := hq  -- X6_letterRead[R1, K1]
  refine gT_n 3 ?_
  refine ⟨rfl, rfl, gTM.use (c_letterR2 hT hta0 hq h1) (Nat.le_refl _) (fun r u hq => ?_)⟩
  obtain ⟨rfl, rfl⟩ := hq  -- X6_letterRead[R1, K2]
  refine gT_n 1 ?_
  refine ⟨rfl, gTM.use (c_labelOf) (Nat.le_refl _) (fun r u hq => ?_)⟩
  obtain ⟨rfl, ⟨y, z, hLB, hv, h0, hz, ok, rfl⟩ | ⟨rfl, ok⟩⟩ := hq  -- X3_labelOf[nI ((lt3 b q 0)), nI ((lt3 b q 1)), nI ((lt3 b q 2))]
  · refine gT_n 1 ?_
    rcases hLB with ⟨e, -⟩ | ⟨-, i, j, k, i1, i2, j2, k2, hjk, e1, e2, e3, rfl, -⟩
    · exact absurd e h27
    · have q1 := (nI_eq (a := lt3 b q 0) (b := i) (by omega) (by omega)).mp e1
      have q2 := (nI_eq (a := lt3 b q 1) (b := j) (by omega) (by omega)).mp e2
      have q3 := (nI_eq (a := lt3 b q 2) (b := k) (by omega) (by omega)).mp e3
      exact ⟨rfl, ri (congrArg nI (by unfold lbW; omega))⟩
  · refine gT_n 1 ?_
    exact absurd hok ok
