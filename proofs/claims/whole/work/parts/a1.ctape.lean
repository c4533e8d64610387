/-! the tape read: the class -/
theorem adv_f {n : Nat} {b : Nat → Nat} {a : Nat} {f : zF} (h : adv n b a (.inl f)) : ¬ f.1 = 0 := by
  obtain ⟨q, h1, h2⟩ := h
  by_cases c : tBad q
  · have e := (pif_pos c).mp h2
    cases e
    dsimp only
    decide
  · exact absurd ((pif_neg c).mp h2) (by simp)
theorem inl_f {α : Type} {c : Int32} {s : Nat} {f : zF} (hc : ¬ c = 0) (h : (Sum.inl f : zF ⊕ α) = .inl (c, s)) : ¬ f.1 = 0 := by
  cases h; exact hc
theorem inl_e {α β : Type} {f e : zF} (he : ¬ e.1 = 0) (h : (Sum.inl f : zF ⊕ α) = .inl e) : ¬ f.1 = 0 := by
  cases h; exact he
theorem inl_r {α : Type} {f : zF} {g : α} {P : Prop} (h : (Sum.inl f : zF ⊕ α) = .inr g) : P := absurd h (by simp)
theorem inr_l {α : Type} {f : zF} {g : α} {P : Prop} (h : (Sum.inr g : zF ⊕ α) = .inl f) : P := absurd h (by simp)
theorem advTo_f {n : Nat} {b : Nat → Nat} {a k : Nat} {f : zF} (h : advTo n b a k (.inl f)) : ¬ f.1 = 0 := by
  obtain ⟨r0, h0, h1⟩ := h
  cases r0 with
  | inl e => exact inl_e (β := Nat) (adv_f h0) h1
  | inr q0 =>
    have h1 : pif (q0.2.2 = k) ((Sum.inl f : zF ⊕ tk3) = Sum.inr q0) ((Sum.inl f : zF ⊕ tk3) = Sum.inl (2, q0.1)) := h1
    by_cases c : q0.2.2 = k
    · exact inl_r ((pif_pos c).mp h1)
    · exact inl_f (by decide) ((pif_neg c).mp h1)
theorem rNm_p {n : Nat} {b : Nat → Nat} : ∀ j ws q r, rNm n b j ws q r → (∀ f, r = .inl f → ¬ f.1 = 0) ∧ (∀ g, r = .inr g → q.2.1 ≤ g.2.1 ∧ tIs n b g.2)
  | 0, ws, q, r, h => by
    refine ⟨fun f e => ?_, fun g e => ?_⟩
    · subst e
      by_cases c : q.2.2 = 1 ∨ q.2.2 = 4
      · exact inl_f (by decide) ((pif_pos c).mp h)
      · exact inl_f (by decide) ((pif_neg c).mp h)
    · subst e
      by_cases c : q.2.2 = 1 ∨ q.2.2 = 4
      · exact inr_l ((pif_pos c).mp h)
      · exact inr_l ((pif_neg c).mp h)
  | j + 1, ws, q, r, h => by
    by_cases c : q.2.2 = 1 ∨ q.2.2 = 4
    · have h := (pif_pos c).mp h
      by_cases c2 : 3 < q.2.1 - q.1
      · have h := (pif_pos c2).mp h
        subst h
        exact ⟨fun f e => by cases e; dsimp only; decide, fun g e => inr_l e.symm⟩
      · obtain ⟨r1, h1, h2⟩ := (pif_neg c2).mp h
        cases r1 with
        | inl e1 =>
          have h2 : r = .inl e1 := h2
          subst h2
          exact ⟨fun f e => by cases e; exact adv_f h1, fun g e => inr_l e.symm⟩
        | inr q1 =>
          have p1 := adv_r h1
          have h2 : pif (q1.2.2 = 3) (∃ r2, adv n b q1.2.1 r2 ∧ match r2 with
            | .inl f => r = .inl f
            | .inr q2 => rNm n b j (lb b q :: ws) q2 r) (r = .inr (nOf (lb b q :: ws), q1)) := h2
          by_cases c3 : q1.2.2 = 3
          · obtain ⟨r2, h3, h4⟩ := (pif_pos c3).mp h2
            cases r2 with
            | inl e1 =>
              have h4 : r = .inl e1 := h4
              subst h4
              exact ⟨fun f e => by cases e; exact adv_f h3, fun g e => inr_l e.symm⟩
            | inr q2 =>
              have p2 := adv_r h3
              have ih := rNm_p j (lb b q :: ws) q2 r h4
              exact ⟨ih.1, fun g e => ⟨by have := (ih.2 g e).1; omega, (ih.2 g e).2⟩⟩
          · have h2 := (pif_neg c3).mp h2
            subst h2
            exact ⟨fun f e => inl_r e.symm, fun g e => by cases e; exact ⟨by show q.2.1 ≤ q1.1; omega, ⟨_, h1⟩⟩⟩
    · have h := (pif_neg c).mp h
      subst h
      exact ⟨fun f e => by cases e; dsimp only; decide, fun g e => inr_l e.symm⟩
theorem rName_p {n : Nat} {b : Nat → Nat} {a : Nat} {r : zF ⊕ (Nat × tk3)} (h : rName n b a r) : (∀ f, r = .inl f → ¬ f.1 = 0) ∧ (∀ g, r = .inr g → a ≤ g.2.1 ∧ tIs n b g.2) := by
  obtain ⟨r0, h0, h1⟩ := h
  cases r0 with
  | inl e1 =>
    have h1 : r = .inl e1 := h1
    subst h1
    exact ⟨fun f e => by cases e; exact adv_f h0, fun g e => inr_l e.symm⟩
  | inr q0 =>
    have p0 := adv_r h0
    have h1 : pif (q0.2.2 = 3) (∃ r2, adv n b q0.2.1 r2 ∧ match r2 with
      | .inl f => r = .inl f
      | .inr q2 => r = .inr (0, q2)) (rNm n b 4 [] q0 r) := h1
    by_cases c : q0.2.2 = 3
    · obtain ⟨r2, h3, h4⟩ := (pif_pos c).mp h1
      cases r2 with
      | inl e1 =>
        have h4 : r = .inl e1 := h4
        subst h4
        exact ⟨fun f e => by cases e; exact adv_f h3, fun g e => inr_l e.symm⟩
      | inr q2 =>
        have p2 := adv_r h3
        have h4 : r = .inr (0, q2) := h4
        subst h4
        exact ⟨fun f e => inl_r e.symm, fun g e => by cases e; exact ⟨by show a ≤ q2.1; omega, ⟨_, h3⟩⟩⟩
    · have ih := rNm_p 4 [] q0 r ((pif_neg c).mp h1)
      exact ⟨ih.1, fun g e => ⟨by have := (ih.2 g e).1; omega, (ih.2 g e).2⟩⟩
theorem advTo_p {n : Nat} {b : Nat → Nat} {a k : Nat} {q : tk3} (h : advTo n b a k (.inr q)) (hk : ¬ k = 0) : a ≤ q.1 ∧ q.1 < q.2.1 := by
  obtain ⟨h1, h2⟩ := advTo_r h
  have p := adv_r h1
  omega
theorem rZn_p {n : Nat} {b : Nat → Nat} {D : zD} {sg : Bool} {q : tk3} {r : zF ⊕ (zD × Nat)} (h : rZn n b D sg q r) : (∀ f, r = .inl f → ¬ f.1 = 0) ∧ (∀ g, r = .inr g → q.2.1 < g.2) := by
  by_cases c : 4 ≤ D.1.1
  · have h := (pif_pos c).mp h
    subst h
    exact ⟨fun f e => by cases e; dsimp only; decide, fun g e => inr_l e.symm⟩
  · obtain ⟨r1, h1, h2⟩ := (pif_neg c).mp h
    have pn := rName_p h1
    cases r1 with
    | inl e1 =>
      have h2 : r = .inl e1 := h2
      subst h2
      exact ⟨fun f e => by cases e; exact pn.1 _ rfl, fun g e => inr_l e.symm⟩
    | inr g1 =>
      obtain ⟨p1, a1, p2⟩ := pn.2 g1 rfl
      have p3 := adv_r p2
      have h2 : pif (g1.2.2.2 = 5) (pif (∃ z, z < D.1.1 ∧ D.1.2.1 z = g1.1) (r = .inl (5, g1.2.1)) (r = .inr ((tgrow D.1 g1.1 sg, D.2.1, D.2.2), g1.2.2.1))) (r = .inl (2, g1.2.1)) := h2
      by_cases c5 : g1.2.2.2 = 5
      · have h2 := (pif_pos c5).mp h2
        by_cases cz : ∃ z, z < D.1.1 ∧ D.1.2.1 z = g1.1
        · have h2 := (pif_pos cz).mp h2
          subst h2
          exact ⟨fun f e => by cases e; dsimp only; decide, fun g e => inr_l e.symm⟩
        · have h2 := (pif_neg cz).mp h2
          subst h2
          exact ⟨fun f e => inl_r e.symm, fun g e => by cases e; show q.2.1 < g1.2.2.1; omega⟩
      · have h2 := (pif_neg c5).mp h2
        subst h2
        exact ⟨fun f e => by cases e; dsimp only; decide, fun g e => inr_l e.symm⟩
theorem rRc2_p {n : Nat} {b : Nat → Nat} {D : zD} {m so : Nat} {q : tk3} {r : zF ⊕ (zD × Nat)} (h : rRc2 n b D m so q r) : (∀ f, r = .inl f → ¬ f.1 = 0) ∧ (∀ g, r = .inr g → q.2.1 < g.2) := by
  obtain ⟨r2, h2, h3⟩ := h
  cases r2 with
  | inl e1 =>
    have h3 : r = .inl e1 := h3
    subst h3
    exact ⟨fun f e => by cases e; exact advTo_f h2, fun g e => inr_l e.symm⟩
  | inr q2 =>
    have p2 := advTo_p h2 (by decide)
    obtain ⟨r3, h4, h5⟩ := h3
    cases r3 with
    | inl e1 =>
      have h5 : r = .inl e1 := h5
      subst h5
      exact ⟨fun f e => by cases e; exact advTo_f h4, fun g e => inr_l e.symm⟩
    | inr q3 =>
      have p3 := advTo_p h4 (by decide)
      have h5 : pif (rno D.2.1 m so) (r = .inr ((D.1, D.2.1 ++ [(m, so, num b q2)], D.2.2), q3.2.1)) (r = .inl (5, q3.1)) := h5
      by_cases c : rno D.2.1 m so
      · have h5 := (pif_pos c).mp h5
        subst h5
        exact ⟨fun f e => inl_r e.symm, fun g e => by cases e; show q.2.1 < q3.2.1; omega⟩
      · have h5 := (pif_neg c).mp h5
        subst h5
        exact ⟨fun f e => by cases e; dsimp only; decide, fun g e => inr_l e.symm⟩
theorem rRc_p {n : Nat} {b : Nat → Nat} {D : zD} {q : tk3} {r : zF ⊕ (zD × Nat)} (h : rRc n b D q r) : (∀ f, r = .inl f → ¬ f.1 = 0) ∧ (∀ g, r = .inr g → q.2.1 < g.2) := by
  by_cases c : 24 ≤ D.2.1.length
  · have h := (pif_pos c).mp h
    subst h
    exact ⟨fun f e => by cases e; dsimp only; decide, fun g e => inr_l e.symm⟩
  · obtain ⟨r1, h1, h2⟩ := (pif_neg c).mp h
    have pn := rName_p h1
    cases r1 with
    | inl e1 =>
      have h2 : r = .inl e1 := h2
      subst h2
      exact ⟨fun f e => by cases e; exact pn.1 _ rfl, fun g e => inr_l e.symm⟩
    | inr g1 =>
      obtain ⟨p1, a1, p2⟩ := pn.2 g1 rfl
      have p3 := adv_r p2
      have key : ∀ so, rRc2 n b D g1.1 so g1.2 r → (∀ f, r = .inl f → ¬ f.1 = 0) ∧ (∀ g, r = .inr g → q.2.1 < g.2) := fun so hh => ⟨(rRc2_p hh).1, fun g e => by have := (rRc2_p hh).2 g e; omega⟩
      have h2 : pif (isWd b g1.2 [97]) (rRc2 n b D g1.1 0 g1.2 r) (pif (isWd b g1.2 [116]) (rRc2 n b D g1.1 1 g1.2 r) (pif (isWd b g1.2 [109]) (rRc2 n b D g1.1 2 g1.2 r) (r = .inl (2, g1.2.1)))) := h2
      by_cases w1 : isWd b g1.2 [97]
      · exact key 0 ((pif_pos w1).mp h2)
      have h2 := (pif_neg w1).mp h2
      by_cases w2 : isWd b g1.2 [116]
      · exact key 1 ((pif_pos w2).mp h2)
      have h2 := (pif_neg w2).mp h2
      by_cases w3 : isWd b g1.2 [109]
      · exact key 2 ((pif_pos w3).mp h2)
      have h2 := (pif_neg w3).mp h2
      subst h2
      exact ⟨fun f e => by cases e; dsimp only; decide, fun g e => inr_l e.symm⟩
theorem rSp_p {n : Nat} {b : Nat → Nat} {D : zD} {q : tk3} {r : zF ⊕ (zD × Nat)} (h : rSp n b D q r) : (∀ f, r = .inl f → ¬ f.1 = 0) ∧ (∀ g, r = .inr g → q.2.1 < g.2) := by
  by_cases c : D.2.2 = true
  · have h := (pif_pos c).mp h
    subst h
    exact ⟨fun f e => by cases e; dsimp only; decide, fun g e => inr_l e.symm⟩
  · obtain ⟨r1, h1, h2⟩ := (pif_neg c).mp h
    cases r1 with
    | inl e1 =>
      have h2 : r = .inl e1 := h2
      subst h2
      exact ⟨fun f e => by cases e; exact advTo_f h1, fun g e => inr_l e.symm⟩
    | inr q1 =>
      have p1 := advTo_p h1 (by decide)
      have h2 : pif (1 ≤ num b q1 ∧ num b q1 ≤ 60) (∃ r2, advTo n b q1.2.1 5 r2 ∧ match r2 with
        | .inl f => r = .inl f
        | .inr q2 => r = .inr ((tspan D.1 (num b q1), D.2.1, true), q2.2.1)) (r = .inl (3, q1.1)) := h2
      by_cases c1 : 1 ≤ num b q1 ∧ num b q1 ≤ 60
      · obtain ⟨r2, h3, h4⟩ := (pif_pos c1).mp h2
        cases r2 with
        | inl e1 =>
          have h4 : r = .inl e1 := h4
          subst h4
          exact ⟨fun f e => by cases e; exact advTo_f h3, fun g e => inr_l e.symm⟩
        | inr q2 =>
          have p2 := advTo_p h3 (by decide)
          have h4 : r = .inr ((tspan D.1 (num b q1), D.2.1, true), q2.2.1) := h4
          subst h4
          exact ⟨fun f e => inl_r e.symm, fun g e => by cases e; show q.2.1 < q2.2.1; omega⟩
      · have h2 := (pif_neg c1).mp h2
        subst h2
        exact ⟨fun f e => by cases e; dsimp only; decide, fun g e => inr_l e.symm⟩
theorem rLn_p {n : Nat} {b : Nat → Nat} {D : zD} {q : tk3} {r : zF ⊕ (zD × Nat)} (h : rLn n b D q r) : (∀ f, r = .inl f → ¬ f.1 = 0) ∧ (∀ g, r = .inr g → q.2.1 < g.2) := by
  by_cases w1 : isWd b q [122, 111, 110, 101]
  · exact rZn_p ((pif_pos w1).mp h)
  have h := (pif_neg w1).mp h
  by_cases w2 : isWd b q [112, 108, 97, 105, 110]
  · exact rZn_p ((pif_pos w2).mp h)
  have h := (pif_neg w2).mp h
  by_cases w3 : isWd b q [114, 101, 99]
  · exact rRc_p ((pif_pos w3).mp h)
  have h := (pif_neg w3).mp h
  by_cases w4 : isWd b q [115, 112, 97, 110]
  · exact rSp_p ((pif_pos w4).mp h)
  have h := (pif_neg w4).mp h
  subst h
  exact ⟨fun f e => by cases e; dsimp only; decide, fun g e => inr_l e.symm⟩
/-- the lines -/
def rLs (n : Nat) (b : Nat → Nat) : Nat → Nat → zD → Nat → (zF ⊕ (zD × Nat)) → Prop
  | 0, a, D, k, r => False
  | f + 1, a, D, k, r => ∃ r0, adv n b a r0 ∧ match r0 with
    | .inl e => r = .inl e
    | .inr q => pif (q.2.2 = 0) (r = .inr (D, k)) (∃ r1, rLn n b D q r1 ∧ match r1 with
      | .inl e => r = .inl e
      | .inr g => rLs n b f g.2 g.1 (k + 1) r)
theorem rLs_f {n : Nat} {b : Nat → Nat} : ∀ f a D k e, rLs n b f a D k (.inl e) → ¬ e.1 = 0
  | 0, a, D, k, e, h => h.elim
  | f + 1, a, D, k, e, h => by
    obtain ⟨r0, h0, h1⟩ := h
    cases r0 with
    | inl e1 => exact inl_e (β := Nat) (adv_f h0) h1
    | inr q =>
      have h1 : pif (q.2.2 = 0) ((Sum.inl e : zF ⊕ (zD × Nat)) = .inr (D, k)) (∃ r1, rLn n b D q r1 ∧ match r1 with
        | .inl e' => (Sum.inl e : zF ⊕ (zD × Nat)) = .inl e'
        | .inr g => rLs n b f g.2 g.1 (k + 1) (.inl e)) := h1
      by_cases c : q.2.2 = 0
      · exact inl_r ((pif_pos c).mp h1)
      · obtain ⟨r1, h2, h3⟩ := (pif_neg c).mp h1
        cases r1 with
        | inl e1 => exact inl_e (β := Nat) ((rLn_p h2).1 _ rfl) h3
        | inr g => exact rLs_f f _ _ _ _ h3
theorem c_findP {d : Nat} {t : zT} {I X : Nat → Nat → Int32} {J Y : Nat → Nat → Int64} {P : Nat → Nat} (hz : zOK t) (hD : cT0 (X 3 4) (Y 4) (X 5) (X 6) t) : gTM (d + 2) 88 [.ref 3] (gST (uM I X) (uJ J Y) P) (fun r u => r = none ∧ ∃ X', u = gST (uM I X') (uJ J Y) P ∧ (∀ a, ¬ a = 7 → X' a = X a) ∧ X' 7 0 = X 7 0 ∧ ∀ y, 1 ≤ y → y < t.1 → X' 7 y = nI (zpa t y)) := by
  have h4 := hz.2.1
  have h1' := hz.1
  have loop : ∀ z, z ≤ t.1 → ∀ X2 : Nat → Nat → Int32, (∀ a, ¬ a = 7 → X2 a = X a) → X2 7 0 = X 7 0 → 1 ≤ z → (∀ y, 1 ≤ y → y < z → X2 7 y = nI (zpa t y)) → gT (d + 2) 88 2 [(1, .int (nI z)), (0, .ref 3)] [] (0, 0) (gST (uM I X2) (uJ J Y) P) (fun r u => r = none ∧ ∃ X', u = gST (uM I X') (uJ J Y) P ∧ (∀ a, ¬ a = 7 → X' a = X a) ∧ X' 7 0 = X 7 0 ∧ ∀ y, 1 ≤ y → y < t.1 → X' 7 y = nI (zpa t y)) := by
    refine loopU t.1 (fun z hi ih => ?_)
    intro X2 hfr h0 hz1 hpr
    have hD2 : cT0 (X2 3 4) (Y 4) (X2 5) (X2 6) t := by rw [hfr 3 (by decide), hfr 5 (by decide), hfr 6 (by decide)]; exact hD
    have hcp : z < t.1 → 1 ≤ cnt (t.2.1 z) := fun h => cnt_pos (hz.2.2.2.2.1 z h) (fun e => by have := hz.2.2.2.2.2 z 0 h (by omega) (e.trans hz.2.2.1.symm); omega)
    have hzp : zpa t z < t.1 := zof_lt hz _
    refine gT_n 4 ?_
    refine ⟨rfl, pk_le t.1 z (fun κ1 => ?_) (fun κ1 => ?_) (hD2.1) (rfl) (by omega) (by omega)⟩
    · refine gT_n 1 ?_
      refine ⟨rfl, ?_⟩
      exact ⟨rfl, X2, rfl, hfr, h0, fun y h1 h2 => hpr y h1 (by omega)⟩
    · refine gT_n 15 ?_
      refine ⟨rfl, rfl, rfl, (pk_in z 4 (by omega) (rfl)), rfl, rfl, (pk_in z 4 (by omega) (rfl)), rfl, gTM.useA (c_first (hz.2.2.2.2.1 z (by omega)).lt (by have := cnt_le (t.2.1 z); omega)) (Nat.le_refl _) (aL ((rdJ (rfl) (by omega) (hD2.2.1 z (by omega)))) (aI (pk_subE (n := ((cnt (t.2.1 z)))) (k := 1) ((rdI (rfl) (by omega) (hD2.2.2.1 z (by omega)))) (rfl) (by omega)) (rfl))) (fun r u hq => ?_)⟩
      obtain ⟨rfl, rfl⟩ := hq  -- X3_first[lN ((t.2.1 z)), nI (((cnt (t.2.1 z))) - 1)]
      refine gT_n 1 ?_
      refine ⟨rfl, rfl, gTM.use (c_zoneOf_3 (I := uM I X2) (J := uJ J Y) hz hD2 (Nat.lt_of_le_of_lt (nfst_le _ _) (hz.2.2.2.2.1 z (by omega)).lt)) (Nat.le_refl _) (fun r u hq => ?_)⟩
      obtain ⟨rfl, rfl⟩ := hq  -- X8_zoneOf[R3, lN ((nfst (t.2.1 z) (cnt (t.2.1 z) - 1)))]
      refine gT_n 1 ?_
      refine ⟨rfl, (pk_inS (m := 4) (k := z) (rfl) (by omega) (rfl)), ?_⟩
      refine gT_uA (b := 7) rfl (n := z) (X := (nI ((zpa t z)))) (rfl) (by omega) (rfl) ?_
      refine gT_n 2 ?_
      have e := ih (z + 1) (by omega) (by omega) (gupI X2 7 z (nI (zpa t z))) (fun a ha => (gupI_n ha).trans (hfr a ha)) (by rw [gupI_b, upd_ne (by omega)]; exact h0) (by omega) (fun y h1 h2 => by
        rw [gupI_b]
        by_cases g : y = z
        · subst g; exact upd_at
        · rw [upd_ne g]; exact hpr y h1 (by omega))
      rw [← nI_1 z] at e
      exact gT_k e ⟨rfl, rfl, trivial⟩ rfl
  refine gT_n 2 ?_
  exact gT_k (loop 1 (by omega) X (fun _ _ => rfl) rfl (by omega) (fun y h1 h2 => absurd h1 (by omega))) ⟨rfl, rfl, trivial⟩ rfl
def tOut (X' : Nat → Nat → Int32) (Y' : Nat → Nat → Int64) (r : Option Value) : zF ⊕ (zD × Nat) → Prop
  | .inl f => (∃ x, r = some (.int x)) ∧ (X' 1 4 = f.1 ∧ X' 1 5 = nI f.2) ∧ b6 X' Y'
  | .inr g => r = some (.int (nI g.2)) ∧ dft X' Y' g.1 ∧ dOK g.1 ∧ X' 1 4 = 0 ∧ ∀ y, 1 ≤ y → y < g.1.1.1 → X' 7 y = nI (zpa g.1.1 y)
theorem b6_7 {X X' : Nat → Nat → Int32} {Y : Nat → Nat → Int64} (h : ∀ a, ¬ a = 7 → X' a = X a) (g : b6 X Y) : b6 X' Y := by
  unfold b6; rw [h 3 (by decide), h 5 (by decide), h 6 (by decide)]; exact g
theorem dft_7 {X X' : Nat → Nat → Int32} {Y : Nat → Nat → Int64} {D : zD} (h : ∀ a, ¬ a = 7 → X' a = X a) (h0 : X' 7 0 = X 7 0) (g : dft X Y D) : dft X' Y D := by
  unfold dft at g ⊢
  rw [h 3 (by decide), h 5 (by decide), h 6 (by decide), h 8 (by decide), h 10 (by decide), h 11 (by decide), h 1 (by decide), h0]; exact g
theorem c_tapeL {d : Nat} {I : Nat → Nat → Int32} {J : Nat → Nat → Int64} {P : Nat → Nat} {n : Nat} {b : Nat → Nat} (hT : tpe I n b) {Z : zF ⊕ (zD × Nat) → Prop} : ∀ f a (D : zD) k (X : Nat → Nat → Int32) (Y : Nat → Nat → Int64), a ≤ n → 2 * k ≤ a → n + 1 ≤ a + f → dft X Y D → dOK D → X 1 6 = nI a → X 1 4 = 0 → (∀ r, rLs n b f a D k r → Z r) → gT (d + 6) 61 37 [(1, .int (nI k)), (0, .ref 1)] [] (0, 0) (gST (uM I X) (uJ J Y) P) (fun r u => ∃ rr X' Y', Z rr ∧ u = gST (uM I X') (uJ J Y') P ∧ tOut X' Y' r rr) := by
  have hn2 := hT.2.1
  intro f
  induction f with
  | zero =>
    intro a D k X Y ha h2k hf
    exact absurd hf (by omega)
  | succ f ih =>
    intro a D k X Y ha h2k hf hD hO hat h4 hZ
    refine gT_n 3 ?_
    refine pk_le 200 k (fun κ1 => ?_) (fun κ1 => ?_) (rfl) (rfl) (by omega) (by omega)
    · exact absurd h2k (by omega)
    · refine gT_n 2 ?_
      refine ⟨rfl, rfl, gTM.use (c_advanceB hT ha hat h4) (Nat.le_refl _) (fun r u hq => ?_)⟩
      obtain ⟨f, X1, hra, rfl, rfl, hf1, ho⟩ | ⟨q, X1, hra, rfl, rfl, hf1, hq⟩ := hq  -- X6_advance[R1]
      · refine gT_n 1 ?_
        refine ⟨fun _ => ?_, fun c => absurd (by decide) c⟩
        obtain ⟨tb, hb1, hb2⟩ := b6_fr hf1 (fun _ _ => rfl) (b6_d hD hO)
        refine gT_k (L := [(1, .int (nI k)), (0, .ref 1)]) ?_ ⟨rfl, rfl, trivial⟩ rfl
        refine gT_n 3 ?_
        refine ⟨rfl, rfl, rfl, gTM.use (c_findP hb1 hb2) (Nat.le_refl _) (fun r u hq => ?_)⟩
        obtain ⟨rfl, X9, rfl, hp7, hp0, hpp⟩ := hq  -- X8_findParents[R3]
        refine gT_n 2 ?_
        exact ⟨.inl f, X9, Y, hZ _ ⟨_, hra, rfl⟩, rfl, ⟨_, rfl⟩, (by rw [hp7 1 (by decide)]; exact ho), b6_7 hp7 ⟨tb, hb1, hb2⟩⟩
      · refine gT_n 1 ?_
        refine ⟨fun c => absurd c (by decide), fun _ => ?_⟩
        refine gT_n 3 ?_
        refine ⟨rfl, pk_eq q.2.2 0 (fun κ2 => ?_) (fun κ2 => ?_) (hq.2.1) (rfl) (by have := (adv_r hra).2.2.2.1; omega) (by omega)⟩
        · have hD1 := dft_fr hf1 (fun _ _ => rfl) hD
          refine gT_k (L := [(1, .int (nI k)), (0, .ref 1)]) ?_ ⟨rfl, rfl, trivial⟩ rfl
          refine gT_n 3 ?_
          refine ⟨rfl, rfl, rfl, gTM.use (c_findP hO.1 hD1.1) (Nat.le_refl _) (fun r u hq => ?_)⟩
          obtain ⟨rfl, X9, rfl, hp7, hp0, hpp⟩ := hq  -- X8_findParents[R3]
          refine gT_n 2 ?_
          exact ⟨.inr (D, k), X9, Y, hZ _ ⟨_, hra, (pif_pos κ2).mpr rfl⟩, rfl, rfl, dft_7 hp7 hp0 hD1, hO, (by rw [hp7 1 (by decide)]; exact hq.2.2.2), hpp⟩
        · refine gT_n 2 ?_
          refine ⟨rfl, rfl, gTM.use (c_readLine hT ⟨_, hra⟩ hq (dft_fr hf1 (fun _ _ => rfl) hD) hO) (Nat.le_refl _) (fun r u hq => ?_)⟩
          obtain ⟨f, X3, Y3, h1, rfl, rfl, ho3, hb3⟩ | ⟨g, X3, Y3, h1, rfl, rfl, hd3, hO3, hat3, h43, hgn⟩ := hq  -- X6_readLine[R1]
          · refine gT_n 1 ?_
            refine ⟨fun _ => ?_, fun c => absurd (by decide) c⟩
            obtain ⟨tb, hb1, hb2⟩ := hb3
            refine gT_k (L := [(1, .int (nI k)), (0, .ref 1)]) ?_ ⟨rfl, rfl, trivial⟩ rfl
            refine gT_n 3 ?_
            refine ⟨rfl, rfl, rfl, gTM.use (c_findP hb1 hb2) (Nat.le_refl _) (fun r u hq => ?_)⟩
            obtain ⟨rfl, X9, rfl, hp7, hp0, hpp⟩ := hq  -- X8_findParents[R3]
            refine gT_n 2 ?_
            exact ⟨.inl f, X9, Y3, hZ _ ⟨_, hra, (pif_neg κ2).mpr ⟨_, h1, rfl⟩⟩, rfl, ⟨_, rfl⟩, (by rw [hp7 1 (by decide)]; exact ho3), b6_7 hp7 ⟨tb, hb1, hb2⟩⟩
          · refine gT_n 1 ?_
            refine ⟨fun c => absurd c (by decide), fun _ => ?_⟩
            refine gT_n 2 ?_
            have hp := (rLn_p h1).2 g rfl
            have ha1 := adv_r hra
            have e := ih g.2 g.1 (k + 1) X3 Y3 (by omega) (by omega) (by omega) hd3 hO3 hat3 h43 (fun r h => hZ r ⟨_, hra, (pif_neg κ2).mpr ⟨_, h1, h⟩⟩)
            rw [← nI_1 k] at e
            exact gT_k e ⟨rfl, rfl, trivial⟩ rfl
def D0 : zD := ((1, fun _ => 0, fun _ => true, 10), [], false)
theorem D0_ok : dOK D0 := by
  refine ⟨⟨by decide, by decide, rfl, rfl, fun z _ => vn_0, fun y z hy hz _ => ?_⟩, ⟨by decide, fun q hq => absurd hq (by simp [D0]), by simp [D0]⟩, by decide⟩
  have hy : y < 1 := hy
  have hz : z < 1 := hz
  omega
theorem c_readTape {d : Nat} {I X : Nat → Nat → Int32} {J Y : Nat → Nat → Int64} {P : Nat → Nat} {n : Nat} {b : Nat → Nat} (hT : tpe I n b) (hb : ∀ z, z < 4 → X 6 z = 0 ∨ X 6 z = 1) : gTM (d + 6) 61 [.ref 1] (gST (uM I X) (uJ J Y) P) (fun r u => ∃ rr X' Y', rLs n b (n + 1) 0 D0 0 rr ∧ u = gST (uM I X') (uJ J Y') P ∧ tOut X' Y' r rr) := by
  refine gT_n 3 ?_
  refine ⟨rfl, rfl, rfl, ?_⟩
  refine gT_n 3 ?_
  refine ⟨rfl, ?_⟩
  refine gT_uC (b := 3) rfl (X := 1) (rfl) ?_
  refine gT_n 3 ?_
  refine ⟨rfl, ?_⟩
  refine gT_uC (b := 3) rfl (X := 10) (rfl) ?_
  refine gT_n 5 ?_
  refine ⟨rfl, rfl, (pk_inS (m := 4) (k := 0) (rfl) (by decide) (rfl)), ?_⟩
  refine gT_uN (b := 4) rfl (n := 0) (X := (lN 0)) (rfl) (by omega) (rfl) ?_
  refine gT_n 5 ?_
  refine ⟨rfl, rfl, (pk_inS (m := 4) (k := 0) (rfl) (by decide) (rfl)), ?_⟩
  refine gT_uA (b := 5) rfl (n := 0) (X := 0) (rfl) (by omega) (rfl) ?_
  refine gT_n 5 ?_
  refine ⟨rfl, (Or.inr rfl), (pk_inS (m := 4) (k := 0) (rfl) (by decide) (rfl)), (Or.inr ⟨rfl, Or.inr rfl⟩), ?_⟩
  refine gT_uA (b := 6) rfl (n := 0) (X := 1) (rfl) (by omega) (rfl) ?_
  refine gT_n 5 ?_
  refine ⟨rfl, rfl, (pk_inS (m := 4) (k := 0) (rfl) (by decide) (rfl)), ?_⟩
  refine gT_uA (b := 7) rfl (n := 0) (X := (-4)) (rfl) (by omega) (rfl) ?_
  refine gT_n 1 ?_
  refine ⟨rfl, ?_⟩
  show gT _ 61 7 _ _ _ _ _
  refine gT_n 4 ?_
  refine ⟨rfl, rfl, ?_⟩
  refine gT_uC (b := 8) rfl (X := 0) (rfl) ?_
  refine gT_n 3 ?_
  refine ⟨rfl, ?_⟩
  refine gT_uP rfl (X := 0) (rfl) ?_
  refine gT_n 3 ?_
  refine ⟨rfl, ?_⟩
  refine gT_uP rfl (X := 0) (rfl) ?_
  refine gT_n 3 ?_
  refine ⟨rfl, (Or.inl rfl), ?_⟩
  refine gT_uP rfl (X := 0) (rfl) ?_
  refine gT_n 3 ?_
  refine ⟨rfl, ?_⟩
  refine gT_uP rfl (X := 0) (rfl) ?_
  refine gT_n 2 ?_
  have hd : dft (gupI (gupI (gupI (gupI (gupI (gupI (gupI (gupI (gupI (gupI X 3 4 1) 3 5 10) 5 0 0) 6 0 1) 7 0 (-4)) 8 3 0) 1 4 0) 1 5 0) 1 9 0) 1 6 0) (gupL Y 4 0 (lN 0)) D0 := ⟨⟨rfl, fun z hz => ?_, fun z hz => ?_, fun z hz => ?_, fun z hz => ?_⟩, rfl, ⟨rfl, fun i hi => absurd hi (Nat.not_lt_zero i)⟩, rfl, rfl⟩
  · exact gT_k (c_tapeL (d := d) hT (Z := rLs n b (n + 1) 0 D0 0) (n + 1) 0 D0 0 _ _ (by omega) (by omega) (by omega) hd D0_ok rfl rfl (fun r h => h)) ⟨rfl, rfl, trivial⟩ rfl
  · obtain rfl : z = 0 := Nat.lt_one_iff.mp hz
    rfl
  · obtain rfl : z = 0 := Nat.lt_one_iff.mp hz
    rfl
  · obtain rfl : z = 0 := Nat.lt_one_iff.mp hz
    rfl
  · show upd (X 6) 0 1 z = 0 ∨ upd (X 6) 0 1 z = 1
    by_cases e : z = 0
    · rw [upd_y e]; exact Or.inr rfl
    · rw [upd_ne e]; exact hb z hz
