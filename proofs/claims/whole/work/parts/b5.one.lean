/-! one answer only -/
def one {α : Type} (p : α → Prop) : Prop := ∀ r r', p r → p r' → r = r'
theorem one_eq {α : Type} {a : α} : one (fun r => r = a) := fun r r' h g => h.trans g.symm
theorem one_pif {α : Type} {c : Prop} {p q : α → Prop} (hp : one p) (hq : one q) : one (fun r => pif c (p r) (q r)) := fun r r' h g => by
  by_cases e : c
  · exact hp r r' ((pif_pos e).mp h) ((pif_pos e).mp g)
  · exact hq r r' ((pif_neg e).mp h) ((pif_neg e).mp g)
theorem one_ex {α β : Type} {p : β → Prop} {q : β → α → Prop} (hp : one p) (hq : ∀ x, one (q x)) : one (fun r => ∃ x, p x ∧ q x r) := fun r r' h g => by
  obtain ⟨x, h1, h2⟩ := h
  obtain ⟨y, g1, g2⟩ := g
  obtain rfl := hp x y h1 g1
  exact hq x r r' h2 g2
theorem one_adv {n : Nat} {b : Nat → Nat} {a : Nat} : one (adv n b a) := fun r r' h g => adv_one h g
theorem one_advTo {n : Nat} {b : Nat → Nat} {a k : Nat} : one (advTo n b a k) := one_ex one_adv (fun x => by
  cases x with
  | inl f => exact one_eq
  | inr q => exact one_pif one_eq one_eq)
theorem one_rNm {n : Nat} {b : Nat → Nat} : ∀ j ws q, one (rNm n b j ws q)
  | 0, ws, q => one_pif one_eq one_eq
  | j + 1, ws, q => one_pif (one_pif one_eq (one_ex one_adv (fun x => by
      cases x with
      | inl f => exact one_eq
      | inr q1 => exact one_pif (one_ex one_adv (fun y => by
          cases y with
          | inl f => exact one_eq
          | inr q2 => exact one_rNm j (lb b q :: ws) q2)) one_eq))) one_eq
theorem one_rName {n : Nat} {b : Nat → Nat} {a : Nat} : one (rName n b a) := one_ex one_adv (fun x => by
  cases x with
  | inl f => exact one_eq
  | inr q => exact one_pif (one_ex one_adv (fun y => by
      cases y with
      | inl f => exact one_eq
      | inr q2 => exact one_eq)) (one_rNm _ _ _))
theorem one_rZn {n : Nat} {b : Nat → Nat} {D : zD} {sg : Bool} {q : tk3} : one (rZn n b D sg q) := one_pif one_eq (one_ex one_rName (fun x => by
  cases x with
  | inl f => exact one_eq
  | inr g => exact one_pif (one_pif one_eq one_eq) one_eq))
theorem one_rRc2 {n : Nat} {b : Nat → Nat} {D : zD} {m so : Nat} {q : tk3} : one (rRc2 n b D m so q) := one_ex one_advTo (fun x => by
  cases x with
  | inl f => exact one_eq
  | inr g => exact one_ex one_advTo (fun y => by
      cases y with
      | inl f => exact one_eq
      | inr q3 => exact one_pif one_eq one_eq))
theorem one_rRc {n : Nat} {b : Nat → Nat} {D : zD} {q : tk3} : one (rRc n b D q) := one_pif one_eq (one_ex one_rName (fun x => by
  cases x with
  | inl f => exact one_eq
  | inr g => exact one_pif one_rRc2 (one_pif one_rRc2 (one_pif one_rRc2 one_eq))))
theorem one_rSp {n : Nat} {b : Nat → Nat} {D : zD} {q : tk3} : one (rSp n b D q) := one_pif one_eq (one_ex one_advTo (fun x => by
  cases x with
  | inl f => exact one_eq
  | inr g => exact one_pif (one_ex one_advTo (fun y => by
      cases y with
      | inl f => exact one_eq
      | inr q2 => exact one_eq)) one_eq))
theorem one_rLn {n : Nat} {b : Nat → Nat} {D : zD} {q : tk3} : one (rLn n b D q) := one_pif one_rZn (one_pif one_rZn (one_pif one_rRc (one_pif one_rSp one_eq)))
theorem one_rLr {n : Nat} {b : Nat → Nat} {D : zD} {q : tk3} : one (rLr n b D q) := one_ex one_rLn (fun x => by
  cases x with
  | inl f => exact one_eq
  | inr g => exact one_ex one_adv (fun y => by
      cases y with
      | inl f => exact one_eq
      | inr q2 => exact one_eq))
/-- the lines, from a token on -/
def rLq (n : Nat) (b : Nat → Nat) (f : Nat) (D : zD) (k : Nat) (q : tk3) (r : zF ⊕ (zD × Nat)) : Prop := pif (q.2.2 = 0) (r = .inr (D, k)) (∃ r1, rLn n b D q r1 ∧ match r1 with
      | .inl e => r = .inl e
      | .inr g => rLs n b f g.2 g.1 (k + 1) r)
theorem rLs_l {n : Nat} {b : Nat → Nat} {f a : Nat} {D : zD} {k : Nat} {r : zF ⊕ (zD × Nat)} {e : zF} (h : rLs n b f a D k r) (g : adv n b a (.inl e)) : r = .inl e := by
  cases f with
  | zero => exact h.elim
  | succ f =>
    obtain ⟨r0, h0, h1⟩ := h
    obtain rfl := adv_one h0 g
    exact h1
theorem rLs_r {n : Nat} {b : Nat → Nat} {f a : Nat} {D : zD} {k : Nat} {r : zF ⊕ (zD × Nat)} {q : tk3} (h : rLs n b f a D k r) (g : adv n b a (.inr q)) : ∃ f', f = f' + 1 ∧ rLq n b f' D k q r := by
  cases f with
  | zero => exact h.elim
  | succ f =>
    obtain ⟨r0, h0, h1⟩ := h
    obtain rfl := adv_one h0 g
    exact ⟨f, rfl, h1⟩
theorem rLq_l {n : Nat} {b : Nat → Nat} {f : Nat} {D : zD} {k : Nat} {q : tk3} {r : zF ⊕ (zD × Nat)} {e : zF} (h : rLq n b f D k q r) (h0 : ¬ q.2.2 = 0) (g : rLr n b D q (.inl e)) : r = .inl e := by
  obtain ⟨r1, h1, h2⟩ := (pif_neg h0).mp h
  obtain ⟨r2, g1, g2⟩ := g
  obtain rfl := one_rLn _ _ h1 g1
  cases r1 with
  | inl f => exact h2.trans (inl_c g2).symm
  | inr g0 =>
    obtain ⟨r0, g3, g4⟩ := g2
    cases r0 with
    | inl f0 =>
      have e1 := rLs_l h2 g3
      exact e1.trans (inl_c g4).symm
    | inr q' => exact absurd g4 (by simp)
theorem rLq_r {n : Nat} {b : Nat → Nat} {f : Nat} {D D' : zD} {k : Nat} {q q' : tk3} {r : zF ⊕ (zD × Nat)} (h : rLq n b f D k q r) (h0 : ¬ q.2.2 = 0) (g : rLr n b D q (.inr (D', q'))) : ∃ f', f = f' + 1 ∧ rLq n b f' D' (k + 1) q' r := by
  obtain ⟨r1, h1, h2⟩ := (pif_neg h0).mp h
  obtain ⟨r2, g1, g2⟩ := g
  obtain rfl := one_rLn _ _ h1 g1
  cases r1 with
  | inl f => exact absurd g2 (by simp)
  | inr g0 =>
    obtain ⟨r0, g3, g4⟩ := g2
    cases r0 with
    | inl f0 => exact absurd g4 (by simp)
    | inr q2 =>
      have g4 : (Sum.inr (D', q') : zF ⊕ (zD × tk3)) = .inr (g0.1, q2) := g4
      cases g4
      exact rLs_r h2 g3
