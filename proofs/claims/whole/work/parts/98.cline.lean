/-! lines read: the class -/
theorem c_readName {d a : Nat} {I X : Nat → Nat → Int32} {J Y : Nat → Nat → Int64} {P : Nat → Nat} {n : Nat} {b : Nat → Nat} (hT : tpe I n b) (ha : a ≤ n) (hat : X 1 6 = nI a) (h4 : X 1 4 = 0) : gTM (d + 3) 73 [.ref 1] (gST (uM I X) (uJ J Y) P) (fun r u => (∃ f X' Y', rName n b a (.inl f) ∧ r = some (.int 0) ∧ u = gST (uM I X') (uJ J Y') P ∧ uFr X X' ∧ (∀ a, ¬ a = 1 → Y' a = Y a) ∧ (X' 1 4 = f.1 ∧ X' 1 5 = nI f.2)) ∨ (∃ m q X' Y', rName n b a (.inr (m, q)) ∧ r = some (.int 1) ∧ u = gST (uM I X') (uJ J Y') P ∧ uFr X X' ∧ (∀ a, ¬ a = 1 → Y' a = Y a) ∧ qT X' q ∧ tIs n b q ∧ Y' 1 10 = lN m ∧ vn m)) := by
  have hn2 := hT.2.1
  refine gT_n 3 ?_
  refine ⟨rfl, ?_⟩
  refine gT_uL (b := 1) rfl (X := (lN 0)) (rfl) ?_
  refine gT_n 2 ?_
  refine ⟨rfl, rfl, gTM.use (c_advanceB hT ha hat h4) (Nat.le_refl _) (fun r u hq => ?_)⟩
  obtain ⟨f, X1, hra, rfl, rfl, hf1, ho⟩ | ⟨q0, X1, hra, rfl, rfl, hf1, ho⟩ := hq  -- X6_advance[R1]
  · refine gT_n 1 ?_
    refine ⟨fun c => absurd (by decide) c, fun _ => ?_⟩
    refine gT_n 2 ?_
    refine ⟨(Or.inl rfl), ?_⟩
    exact Or.inl ⟨f, X1, _, ⟨_, hra, rfl⟩, rfl, rfl, hf1, fun a ha => gupL_n ha, ho⟩
  · refine gT_n 1 ?_
    refine ⟨fun _ => ?_, fun c => absurd c (by decide)⟩
    refine gT_n 4 ?_
    refine ⟨rfl, pk_ne q0.2.2 3 (fun κ1 => ?_) (fun κ1 => ?_) (ho.2.1) (rfl) (by have := (adv_r hra).2.2.2.1; omega) (by omega)⟩
    · refine gT_n 2 ?_
      refine gT_k (gT_mono _ _ _ _ _ _ _ _ _ (fun r u h => ?_) (c_nameL (d := d) (X0 := X) (Y0 := Y) (P := P) hT (Z := rNm n b 4 [] q0) 4 [] q0 0 rfl rfl X1 (gupL Y 1 10 (lN 0)) ho ⟨_, hra⟩ (by rw [gupL_b]; exact updL_at) (fun x hx => absurd hx (by simp)) hf1 (fun a ha => gupL_n ha) (fun r h => h))) ⟨rfl, rfl, trivial⟩ rfl
      obtain ⟨rr, X', Y', h1, h2, h3, h4, h5⟩ := h
      cases rr with
      | inl f => exact Or.inl ⟨f, X', Y', ⟨_, hra, (pif_neg κ1).mpr h1⟩, h5.1, h2, h3, h4, h5.2⟩
      | inr g => exact Or.inr ⟨g.1, g.2, X', Y', ⟨_, hra, (pif_neg κ1).mpr h1⟩, h5.1, h2, h3, h4, h5.2⟩
    · refine gT_n 2 ?_
      refine ⟨rfl, rfl, gTM.use (c_advanceB hT (adv_r hra).2.2.1 ho.1 ho.2.2.2) (Nat.le_refl _) (fun r u hq => ?_)⟩
      obtain ⟨f, X2, hrb, rfl, rfl, hf2, ho2⟩ | ⟨q2, X2, hrb, rfl, rfl, hf2, ho2⟩ := hq  -- X6_advance[R1]
      · refine gT_n 1 ?_
        refine ⟨(Or.inl rfl), ?_⟩
        exact Or.inl ⟨f, X2, _, ⟨_, hra, (pif_pos κ1).mpr ⟨_, hrb, rfl⟩⟩, rfl, rfl, uFr_T hf1 hf2, fun a ha => gupL_n ha, ho2⟩
      · refine gT_n 1 ?_
        refine ⟨(Or.inr rfl), ?_⟩
        exact Or.inr ⟨0, q2, X2, _, ⟨_, hra, (pif_pos κ1).mpr ⟨_, hrb, rfl⟩⟩, rfl, rfl, uFr_T hf1 hf2, fun a ha => gupL_n ha, ho2, ⟨_, hrb⟩, (by rw [gupL_b]; exact updL_at), vn_0⟩
abbrev zD : Type := zT × zR × Bool
def tgrow (t : zT) (m : Nat) (sg : Bool) : zT := (t.1 + 1, fun z => if z = t.1 then m else t.2.1 z, fun z => if z = t.1 then sg else t.2.2.1 z, t.2.2.2)
def tspan (t : zT) (v : Nat) : zT := (t.1, t.2.1, t.2.2.1, v)
def rZn (n : Nat) (b : Nat → Nat) (D : zD) (sg : Bool) (q : tk3) (r : zF ⊕ (zD × Nat)) : Prop :=
  pif (4 ≤ D.1.1) (r = .inl (4, q.1)) (∃ r1, rName n b q.2.1 r1 ∧ match r1 with
    | .inl f => r = .inl f
    | .inr g => pif (g.2.2.2 = 5) (pif (∃ z, z < D.1.1 ∧ D.1.2.1 z = g.1) (r = .inl (5, g.2.1)) (r = .inr ((tgrow D.1 g.1 sg, D.2.1, D.2.2), g.2.2.1))) (r = .inl (2, g.2.1)))
def rRc2 (n : Nat) (b : Nat → Nat) (D : zD) (m so : Nat) (q : tk3) (r : zF ⊕ (zD × Nat)) : Prop := ∃ r2, advTo n b q.2.1 2 r2 ∧ match r2 with
  | .inl f => r = .inl f
  | .inr q2 => ∃ r3, advTo n b q2.2.1 5 r3 ∧ match r3 with
    | .inl f => r = .inl f
    | .inr q3 => pif (rno D.2.1 m so) (r = .inr ((D.1, D.2.1 ++ [(m, so, num b q2)], D.2.2), q3.2.1)) (r = .inl (5, q3.1))
def rRc (n : Nat) (b : Nat → Nat) (D : zD) (q : tk3) (r : zF ⊕ (zD × Nat)) : Prop :=
  pif (24 ≤ D.2.1.length) (r = .inl (4, q.1)) (∃ r1, rName n b q.2.1 r1 ∧ match r1 with
    | .inl f => r = .inl f
    | .inr g => pif (isWd b g.2 [97]) (rRc2 n b D g.1 0 g.2 r) (pif (isWd b g.2 [116]) (rRc2 n b D g.1 1 g.2 r) (pif (isWd b g.2 [109]) (rRc2 n b D g.1 2 g.2 r) (r = .inl (2, g.2.1)))))
def rSp (n : Nat) (b : Nat → Nat) (D : zD) (q : tk3) (r : zF ⊕ (zD × Nat)) : Prop :=
  pif (D.2.2 = true) (r = .inl (4, q.1)) (∃ r1, advTo n b q.2.1 2 r1 ∧ match r1 with
    | .inl f => r = .inl f
    | .inr q1 => pif (1 ≤ num b q1 ∧ num b q1 ≤ 60) (∃ r2, advTo n b q1.2.1 5 r2 ∧ match r2 with
      | .inl f => r = .inl f
      | .inr q2 => r = .inr ((tspan D.1 (num b q1), D.2.1, true), q2.2.1)) (r = .inl (3, q1.1)))
def rLn (n : Nat) (b : Nat → Nat) (D : zD) (q : tk3) (r : zF ⊕ (zD × Nat)) : Prop :=
  pif (isWd b q [122, 111, 110, 101]) (rZn n b D true q r) (pif (isWd b q [112, 108, 97, 105, 110]) (rZn n b D false q r) (pif (isWd b q [114, 101, 99]) (rRc n b D q r) (pif (isWd b q [115, 112, 97, 110]) (rSp n b D q r) (r = .inl (2, q.1)))))
/-- the draft, as the class holds it -/
def dft (X : Nat → Nat → Int32) (Y : Nat → Nat → Int64) (D : zD) : Prop := cT0 (X 3 4) (Y 4) (X 5) (X 6) D.1 ∧ X 3 5 = nI D.1.2.2.2 ∧ cR (X 8 3) (Y 9) (X 10) (X 11) D.2.1 ∧ X 1 9 = bI D.2.2 ∧ X 7 0 = -4
def dOK (D : zD) : Prop := zOK D.1 ∧ rOK D.2.1 ∧ D.1.2.2.2 ≤ 99
theorem dft_fr {X X' : Nat → Nat → Int32} {Y Y' : Nat → Nat → Int64} {D : zD} (h : uFr X X') (g : ∀ a, ¬ a = 1 → Y' a = Y a) (hd : dft X Y D) : dft X' Y' D := by
  unfold dft at hd ⊢
  rw [h.1 3 (by decide), h.1 5 (by decide), h.1 6 (by decide), h.1 8 (by decide), h.1 10 (by decide), h.1 11 (by decide), h.1 7 (by decide), h.2, g 4 (by decide), g 9 (by decide)]
  exact hd
def b6 (X : Nat → Nat → Int32) (Y : Nat → Nat → Int64) : Prop := ∃ t, zOK t ∧ cT0 (X 3 4) (Y 4) (X 5) (X 6) t
def lOut (n : Nat) (X' : Nat → Nat → Int32) (Y' : Nat → Nat → Int64) (r : Option Value) : zF ⊕ (zD × Nat) → Prop
  | .inl f => r = some (.int 0) ∧ (X' 1 4 = f.1 ∧ X' 1 5 = nI f.2) ∧ b6 X' Y'
  | .inr g => r = some (.int 1) ∧ dft X' Y' g.1 ∧ dOK g.1 ∧ X' 1 6 = nI g.2 ∧ X' 1 4 = 0 ∧ g.2 ≤ n
theorem b6_d {X : Nat → Nat → Int32} {Y : Nat → Nat → Int64} {D : zD} (h : dft X Y D) (hO : dOK D) : b6 X Y := ⟨D.1, hO.1, h.1⟩
theorem b6_fr {X X' : Nat → Nat → Int32} {Y Y' : Nat → Nat → Int64} (h : uFr X X') (gy : ∀ a, ¬ a = 1 → Y' a = Y a) (g : b6 X Y) : b6 X' Y' := by
  unfold b6; rw [h.1 3 (by decide), h.1 5 (by decide), h.1 6 (by decide), gy 4 (by decide)]; exact g
theorem c_isApex {d m : Nat} {t : zT} {I X : Nat → Nat → Int32} {J Y : Nat → Nat → Int64} {P : Nat → Nat} (hz : zOK t) (hD : cT0 (X 3 4) (Y 4) (X 5) (X 6) t) (hm : vn m) : gTM d 86 [.ref 3, .long (lN m)] (gST (uM I X) (uJ J Y) P) (gB (gST (uM I X) (uJ J Y) P) (∃ z, z < t.1 ∧ t.2.1 z = m)) := by
  have h4 := hz.2.1
  have loop : ∀ i, i ≤ t.1 → (∀ j, j < i → ¬ t.2.1 j = m) → gT d 86 2 [(3, .int (nI i)), (0, .ref 3), (1, .long (lN m))] [] (0, 0) (gST (uM I X) (uJ J Y) P) (gB (gST (uM I X) (uJ J Y) P) (∃ z, z < t.1 ∧ t.2.1 z = m)) := by
    refine loopU t.1 (fun i hi ih => ?_)
    intro hno
    refine gT_n 4 ?_
    refine ⟨rfl, pk_le t.1 i (fun κ1 => ?_) (fun κ1 => ?_) (hD.1) (rfl) (by omega) (by omega)⟩
    · refine gT_n 2 ?_
      refine ⟨(Or.inl rfl), ?_⟩
      exact ⟨rfl, Or.inr ⟨rfl, fun c => by obtain ⟨z, h1, h2⟩ := c; exact hno z (by omega) h2⟩⟩
    · refine gT_n 7 ?_
      refine ⟨rfl, rfl, (pk_in i 4 (by omega) (rfl)), pl_ne ((t.2.1 i)) m (fun κ2 => ?_) (fun κ2 => ?_) ((rdJ (rfl) (by omega) (hD.2.1 i (by omega)))) (rfl) ((hz.2.2.2.2.1 i (by omega)).lt) (hm.lt)⟩
      · refine gT_n 2 ?_
        have e := ih (i + 1) (by omega) (by omega) (fun j hj => by
          rcases Nat.lt_or_ge j i with g | g
          · exact hno j g
          · obtain rfl : j = i := by omega
            exact κ2)
        rw [← nI_1 i] at e
        exact gT_k e ⟨rfl, rfl, rfl, trivial⟩ rfl
      · refine gT_n 2 ?_
        refine ⟨(Or.inr rfl), ?_⟩
        exact ⟨rfl, Or.inl ⟨rfl, i, by omega, κ2⟩⟩
  refine gT_n 2 ?_
  exact gT_k (loop 0 (by omega) (fun j hj => absurd hj (Nat.not_lt_zero j))) ⟨rfl, rfl, rfl, trivial⟩ rfl
theorem tg_c {c : Int32} {ja : Nat → Int64} {il is : Nat → Int32} {t : zT} {m : Nat} {sg : Bool} {x : Int32} (h : cT0 c ja il is t) (hx : x = bI sg) (h4 : t.1 < 4) : cT0 (nI (t.1 + 1)) (vp_updL ja t.1 (lN m)) (upd il t.1 (nI (cnt m))) (upd is t.1 x) (tgrow t m sg) := by
  refine ⟨rfl, fun z hz => ?_, fun z hz => ?_, fun z hz => ?_, fun z hz => ?_⟩
  · show _ = lN (if z = t.1 then m else t.2.1 z)
    have hz : z < t.1 + 1 := hz
    by_cases e : z = t.1
    · rw [if_pos e, updL_y e]
    · rw [if_neg e, updL_ne e]; exact h.2.1 z (by omega)
  · show _ = nI (cnt (if z = t.1 then m else t.2.1 z))
    have hz : z < t.1 + 1 := hz
    by_cases e : z = t.1
    · rw [if_pos e, upd_y e]
    · rw [if_neg e, upd_ne e]; exact h.2.2.1 z (by omega)
  · show _ = bI (if z = t.1 then sg else t.2.2.1 z)
    have hz : z < t.1 + 1 := hz
    by_cases e : z = t.1
    · rw [if_pos e, upd_y e]; exact hx
    · rw [if_neg e, upd_ne e]; exact h.2.2.2.1 z (by omega)
  · by_cases e : z = t.1
    · rw [upd_y e, hx]; exact bI_01 sg
    · rw [upd_ne e]; exact h.2.2.2.2 z hz
theorem tg_ok {t : zT} {m : Nat} {sg : Bool} (h : zOK t) (h4 : t.1 < 4) (hm : vn m) (hn : ¬ ∃ z, z < t.1 ∧ t.2.1 z = m) : zOK (tgrow t m sg) := by
  have h1 := h.1
  have g : ∀ z, (tgrow t m sg).2.1 z = if z = t.1 then m else t.2.1 z := fun _ => rfl
  refine ⟨by show 1 ≤ t.1 + 1; omega, by show t.1 + 1 ≤ 4; omega, ?_, ?_, fun z hz => ?_, fun y z hy hz e => ?_⟩
  · rw [g, if_neg (by omega)]; exact h.2.2.1
  · show (if 0 = t.1 then sg else t.2.2.1 0) = true
    rw [if_neg (by omega)]; exact h.2.2.2.1
  · have hz : z < t.1 + 1 := hz
    rw [g]
    by_cases c : z = t.1
    · rw [if_pos c]; exact hm
    · rw [if_neg c]; exact h.2.2.2.2.1 z (by omega)
  · have hz : z < t.1 + 1 := hz
    have hy : y < t.1 + 1 := hy
    rw [g, g] at e
    by_cases c : z = t.1
    · by_cases c2 : y = t.1
      · omega
      · rw [if_pos c, if_neg c2] at e
        exact absurd ⟨y, by omega, e⟩ hn
    · by_cases c2 : y = t.1
      · rw [if_neg c, if_pos c2] at e
        exact absurd ⟨z, by omega, e.symm⟩ hn
      · rw [if_neg c, if_neg c2] at e
        exact h.2.2.2.2.2 y z (by omega) (by omega) e
theorem c_grow0 {d m : Nat} {t : zT} {I X : Nat → Nat → Int32} {J Y : Nat → Nat → Int64} {P : Nat → Nat} (hD : cT0 (X 3 4) (Y 4) (X 5) (X 6) t) (h4 : t.1 < 4) (hm : vn m) : gTM (d + 2) 87 [.ref 3, .long (lN m), .int 0] (gST (uM I X) (uJ J Y) P) (fun r u => r = none ∧ ∃ X' Y', u = gST (uM I X') (uJ J Y') P ∧ (∀ a, ¬ (3 ≤ a ∧ a ≤ 6) → X' a = X a) ∧ (∀ a, ¬ (3 ≤ a ∧ a ≤ 6) → Y' a = Y a) ∧ X' 3 5 = X 3 5 ∧ cT0 (X' 3 4) (Y' 4) (X' 5) (X' 6) (tgrow t m false)) := by
  refine gT_n 4 ?_
  refine ⟨rfl, pk_lt t.1 4 (fun κ1 => ?_) (fun κ1 => ?_) (hD.1) (rfl) (by omega) (by omega)⟩
  · refine gT_n 6 ?_
    refine ⟨rfl, rfl, rfl, (pk_inS (m := 4) (k := t.1) (rfl) (by omega) (hD.1)), ?_⟩
    refine gT_uN (b := 4) rfl (n := t.1) (X := (lN m)) (hD.1) (by omega) (rfl) ?_
    refine gT_n 6 ?_
    refine ⟨rfl, rfl, rfl, gTM.use (c_count hm.lt) (Nat.le_refl _) (fun r u hq => ?_)⟩
    obtain ⟨rfl, rfl⟩ := hq  -- X3_count[lN m]
    refine gT_n 1 ?_
    refine ⟨rfl, (pk_inS (m := 4) (k := t.1) (rfl) (by omega) (hD.1)), ?_⟩
    refine gT_uA (b := 5) rfl (n := t.1) (X := (nI ((cnt m)))) (hD.1) (by omega) (rfl) ?_
    refine gT_n 6 ?_
    refine ⟨rfl, rfl, (Or.inr rfl), (pk_inS (m := 4) (k := t.1) (rfl) (by omega) (hD.1)), (Or.inr ⟨rfl, Or.inl rfl⟩), ?_⟩
    refine gT_uA (b := 6) rfl (n := t.1) (X := 0) (hD.1) (by omega) (rfl) ?_
    refine gT_n 6 ?_
    refine ⟨rfl, rfl, ?_⟩
    refine gT_uC (b := 3) rfl (X := (nI (t.1 + 1))) (pk_addE (n := t.1) (k := 1) (hD.1) (rfl)) ?_
    refine gT_n 1 ?_
    refine ⟨rfl, ?_⟩
    refine ⟨rfl, _, _, rfl, fun a h1 => ?_, fun a h1 => gupL_n (fun e => h1 (by omega)), rfl, ?_⟩
    · rw [gupI_n (by omega), gupI_n (by omega), gupI_n (by omega)]
    exact tg_c (sg := false) hD rfl (by omega)
  · exact absurd h4 (by omega)
theorem c_grow1 {d m : Nat} {t : zT} {I X : Nat → Nat → Int32} {J Y : Nat → Nat → Int64} {P : Nat → Nat} (hD : cT0 (X 3 4) (Y 4) (X 5) (X 6) t) (h4 : t.1 < 4) (hm : vn m) : gTM (d + 2) 87 [.ref 3, .long (lN m), .int 1] (gST (uM I X) (uJ J Y) P) (fun r u => r = none ∧ ∃ X' Y', u = gST (uM I X') (uJ J Y') P ∧ (∀ a, ¬ (3 ≤ a ∧ a ≤ 6) → X' a = X a) ∧ (∀ a, ¬ (3 ≤ a ∧ a ≤ 6) → Y' a = Y a) ∧ X' 3 5 = X 3 5 ∧ cT0 (X' 3 4) (Y' 4) (X' 5) (X' 6) (tgrow t m true)) := by
  refine gT_n 4 ?_
  refine ⟨rfl, pk_lt t.1 4 (fun κ1 => ?_) (fun κ1 => ?_) (hD.1) (rfl) (by omega) (by omega)⟩
  · refine gT_n 6 ?_
    refine ⟨rfl, rfl, rfl, (pk_inS (m := 4) (k := t.1) (rfl) (by omega) (hD.1)), ?_⟩
    refine gT_uN (b := 4) rfl (n := t.1) (X := (lN m)) (hD.1) (by omega) (rfl) ?_
    refine gT_n 6 ?_
    refine ⟨rfl, rfl, rfl, gTM.use (c_count hm.lt) (Nat.le_refl _) (fun r u hq => ?_)⟩
    obtain ⟨rfl, rfl⟩ := hq  -- X3_count[lN m]
    refine gT_n 1 ?_
    refine ⟨rfl, (pk_inS (m := 4) (k := t.1) (rfl) (by omega) (hD.1)), ?_⟩
    refine gT_uA (b := 5) rfl (n := t.1) (X := (nI ((cnt m)))) (hD.1) (by omega) (rfl) ?_
    refine gT_n 6 ?_
    refine ⟨rfl, rfl, (Or.inr rfl), (pk_inS (m := 4) (k := t.1) (rfl) (by omega) (hD.1)), (Or.inr ⟨rfl, Or.inr rfl⟩), ?_⟩
    refine gT_uA (b := 6) rfl (n := t.1) (X := 1) (hD.1) (by omega) (rfl) ?_
    refine gT_n 6 ?_
    refine ⟨rfl, rfl, ?_⟩
    refine gT_uC (b := 3) rfl (X := (nI (t.1 + 1))) (pk_addE (n := t.1) (k := 1) (hD.1) (rfl)) ?_
    refine gT_n 1 ?_
    refine ⟨rfl, ?_⟩
    refine ⟨rfl, _, _, rfl, fun a h1 => ?_, fun a h1 => gupL_n (fun e => h1 (by omega)), rfl, ?_⟩
    · rw [gupI_n (by omega), gupI_n (by omega), gupI_n (by omega)]
    exact tg_c (sg := true) hD rfl (by omega)
  · exact absurd h4 (by omega)
theorem c_readZone0 {d : Nat} {I X : Nat → Nat → Int32} {J Y : Nat → Nat → Int64} {P : Nat → Nat} {n : Nat} {b : Nat → Nat} (hT : tpe I n b) {q : tk3} (hta : tIs n b q) (hq : qT X q) {D : zD} (hD : dft X Y D) (hO : dOK D) : gTM (d + 4) 69 [.ref 1, .int 0] (gST (uM I X) (uJ J Y) P) (fun r u => ∃ rr X' Y', rZn n b D false q rr ∧ u = gST (uM I X') (uJ J Y') P ∧ lOut n X' Y' r rr) := by
  have hn2 := hT.2.1
  obtain ⟨aq, hadv⟩ := hta
  obtain ⟨r1, r2, r3, r4, r5, r6, r7, r8⟩ := adv_r hadv
  have h4 := hO.1.2.1
  refine gT_n 5 ?_
  refine ⟨rfl, rfl, pk_lt D.1.1 4 (fun κ1 => ?_) (fun κ1 => ?_) (hD.1.1) (rfl) (by omega) (by omega)⟩
  · refine gT_n 2 ?_
    refine ⟨rfl, rfl, gTM.use (c_readName hT r3 hq.1 hq.2.2.2) (Nat.le_refl _) (fun r u hq => ?_)⟩
    obtain ⟨f, X1, Y1, hnm, rfl, rfl, hf1, hfy, ho⟩ | ⟨m, q1, X1, Y1, hnm, rfl, rfl, hf1, hfy, hq1, ht1, hY1, hvm⟩ := hq  -- X6_readName[R1]
    · refine gT_n 1 ?_
      refine ⟨fun c => absurd (by decide) c, fun _ => ?_⟩
      refine gT_n 2 ?_
      refine ⟨(Or.inl rfl), ?_⟩
      exact ⟨.inl f, X1, Y1, (pif_neg (by omega)).mpr ⟨_, hnm, rfl⟩, rfl, rfl, ho, b6_fr hf1 hfy (b6_d hD hO)⟩
    · have hD1 := dft_fr hf1 hfy hD
      refine gT_n 1 ?_
      refine ⟨fun _ => ?_, fun c => absurd c (by decide)⟩
      refine gT_n 4 ?_
      refine ⟨rfl, pk_eq q1.2.2 5 (fun κ2 => ?_) (fun κ2 => ?_) (hq1.2.1) (rfl) (by obtain ⟨a1, h1⟩ := ht1; have := (adv_r h1).2.2.2.1; omega) (by omega)⟩
      · refine gT_n 5 ?_
        refine ⟨rfl, rfl, rfl, rfl, gTM.useA (c_isApex hO.1 hD1.1 hvm) (Nat.le_refl _) (aR (aL (hY1) (rfl))) (fun r u hq => ?_)⟩
        obtain ⟨rfl, ⟨rfl, β3⟩ | ⟨rfl, β3⟩⟩ := hq  -- X8_isApex[R3, lN m]
        · refine gT_n 1 ?_
          refine ⟨fun c => absurd c (by decide), fun _ => ?_⟩
          refine gT_n 5 ?_
          refine ⟨rfl, rfl, rfl, gTM.useA (c_fail (c := 5) (p := q1.1)) (Nat.le_refl _) (aR (aI (rfl) (aI (hq1.2.2.1) (rfl)))) (fun r u hq => ?_)⟩
          obtain ⟨rfl, rfl⟩ := hq  -- X6_fail[R1, K5, nI q1.1]
          refine gT_n 1 ?_
          refine ⟨(Or.inl rfl), ?_⟩
          exact ⟨.inl (5, q1.1), _, Y1, (pif_neg (by omega)).mpr ⟨_, hnm, (pif_pos κ2).mpr ((pif_pos β3).mpr rfl)⟩, rfl, rfl, ⟨rfl, rfl⟩, b6_fr (uFr_f hf1) hfy (b6_d hD hO)⟩
        · refine gT_n 1 ?_
          refine ⟨fun _ => ?_, fun c => absurd (by decide) c⟩
          refine gT_n 6 ?_
          refine ⟨rfl, rfl, rfl, rfl, gTM.useA (c_grow0 hD1.1 (by omega) hvm) (Nat.le_refl _) (aR (aL (hY1) (aI (rfl) (rfl)))) (fun r u hq => ?_)⟩
          obtain ⟨rfl, X2, Y2, rfl, hx2, hy2, hs2, hg⟩ := hq  -- X8_grow[R3, lN m, K0]
          refine gT_n 2 ?_
          refine ⟨(Or.inr rfl), ?_⟩
          obtain ⟨aq1, hadv1⟩ := ht1
          exact ⟨.inr ((tgrow D.1 m false, D.2.1, D.2.2), q1.2.1), X2, Y2, (pif_neg (by omega)).mpr ⟨_, hnm, (pif_pos κ2).mpr ((pif_neg β3).mpr rfl)⟩, rfl, rfl, ⟨hg, (hs2.trans hD1.2.1), (by rw [hx2 8 (by omega), hx2 10 (by omega), hx2 11 (by omega), hy2 9 (by omega)]; exact hD1.2.2.1), (by rw [hx2 1 (by omega)]; exact hD1.2.2.2.1), (by rw [hx2 7 (by omega)]; exact hD1.2.2.2.2)⟩, ⟨tg_ok hO.1 (by omega) hvm β3, hO.2.1, hO.2.2⟩, (by rw [hx2 1 (by omega)]; exact hq1.1), (by rw [hx2 1 (by omega)]; exact hq1.2.2.2), (adv_r hadv1).2.2.1⟩
      · refine gT_n 5 ?_
        refine ⟨rfl, rfl, rfl, gTM.useA (c_fail (c := 2) (p := q1.1)) (Nat.le_refl _) (aR (aI (rfl) (aI (hq1.2.2.1) (rfl)))) (fun r u hq => ?_)⟩
        obtain ⟨rfl, rfl⟩ := hq  -- X6_fail[R1, K2, nI q1.1]
        refine gT_n 1 ?_
        refine ⟨(Or.inl rfl), ?_⟩
        exact ⟨.inl (2, q1.1), _, Y1, (pif_neg (by omega)).mpr ⟨_, hnm, (pif_neg κ2).mpr rfl⟩, rfl, rfl, ⟨rfl, rfl⟩, b6_fr (uFr_f hf1) hfy (b6_d hD hO)⟩
  · refine gT_n 5 ?_
    refine ⟨rfl, rfl, rfl, gTM.useA (c_fail (c := 4) (p := q.1)) (Nat.le_refl _) (aR (aI (rfl) (aI (hq.2.2.1) (rfl)))) (fun r u hq => ?_)⟩
    obtain ⟨rfl, rfl⟩ := hq  -- X6_fail[R1, K4, nI q.1]
    refine gT_n 1 ?_
    refine ⟨(Or.inl rfl), ?_⟩
    exact ⟨.inl (4, q.1), _, Y, (pif_pos (by omega)).mpr rfl, rfl, rfl, ⟨rfl, rfl⟩, b6_d hD hO⟩
theorem c_readZone1 {d : Nat} {I X : Nat → Nat → Int32} {J Y : Nat → Nat → Int64} {P : Nat → Nat} {n : Nat} {b : Nat → Nat} (hT : tpe I n b) {q : tk3} (hta : tIs n b q) (hq : qT X q) {D : zD} (hD : dft X Y D) (hO : dOK D) : gTM (d + 4) 69 [.ref 1, .int 1] (gST (uM I X) (uJ J Y) P) (fun r u => ∃ rr X' Y', rZn n b D true q rr ∧ u = gST (uM I X') (uJ J Y') P ∧ lOut n X' Y' r rr) := by
  have hn2 := hT.2.1
  obtain ⟨aq, hadv⟩ := hta
  obtain ⟨r1, r2, r3, r4, r5, r6, r7, r8⟩ := adv_r hadv
  have h4 := hO.1.2.1
  refine gT_n 5 ?_
  refine ⟨rfl, rfl, pk_lt D.1.1 4 (fun κ1 => ?_) (fun κ1 => ?_) (hD.1.1) (rfl) (by omega) (by omega)⟩
  · refine gT_n 2 ?_
    refine ⟨rfl, rfl, gTM.use (c_readName hT r3 hq.1 hq.2.2.2) (Nat.le_refl _) (fun r u hq => ?_)⟩
    obtain ⟨f, X1, Y1, hnm, rfl, rfl, hf1, hfy, ho⟩ | ⟨m, q1, X1, Y1, hnm, rfl, rfl, hf1, hfy, hq1, ht1, hY1, hvm⟩ := hq  -- X6_readName[R1]
    · refine gT_n 1 ?_
      refine ⟨fun c => absurd (by decide) c, fun _ => ?_⟩
      refine gT_n 2 ?_
      refine ⟨(Or.inl rfl), ?_⟩
      exact ⟨.inl f, X1, Y1, (pif_neg (by omega)).mpr ⟨_, hnm, rfl⟩, rfl, rfl, ho, b6_fr hf1 hfy (b6_d hD hO)⟩
    · have hD1 := dft_fr hf1 hfy hD
      refine gT_n 1 ?_
      refine ⟨fun _ => ?_, fun c => absurd c (by decide)⟩
      refine gT_n 4 ?_
      refine ⟨rfl, pk_eq q1.2.2 5 (fun κ2 => ?_) (fun κ2 => ?_) (hq1.2.1) (rfl) (by obtain ⟨a1, h1⟩ := ht1; have := (adv_r h1).2.2.2.1; omega) (by omega)⟩
      · refine gT_n 5 ?_
        refine ⟨rfl, rfl, rfl, rfl, gTM.useA (c_isApex hO.1 hD1.1 hvm) (Nat.le_refl _) (aR (aL (hY1) (rfl))) (fun r u hq => ?_)⟩
        obtain ⟨rfl, ⟨rfl, β3⟩ | ⟨rfl, β3⟩⟩ := hq  -- X8_isApex[R3, lN m]
        · refine gT_n 1 ?_
          refine ⟨fun c => absurd c (by decide), fun _ => ?_⟩
          refine gT_n 5 ?_
          refine ⟨rfl, rfl, rfl, gTM.useA (c_fail (c := 5) (p := q1.1)) (Nat.le_refl _) (aR (aI (rfl) (aI (hq1.2.2.1) (rfl)))) (fun r u hq => ?_)⟩
          obtain ⟨rfl, rfl⟩ := hq  -- X6_fail[R1, K5, nI q1.1]
          refine gT_n 1 ?_
          refine ⟨(Or.inl rfl), ?_⟩
          exact ⟨.inl (5, q1.1), _, Y1, (pif_neg (by omega)).mpr ⟨_, hnm, (pif_pos κ2).mpr ((pif_pos β3).mpr rfl)⟩, rfl, rfl, ⟨rfl, rfl⟩, b6_fr (uFr_f hf1) hfy (b6_d hD hO)⟩
        · refine gT_n 1 ?_
          refine ⟨fun _ => ?_, fun c => absurd (by decide) c⟩
          refine gT_n 6 ?_
          refine ⟨rfl, rfl, rfl, rfl, gTM.useA (c_grow1 hD1.1 (by omega) hvm) (Nat.le_refl _) (aR (aL (hY1) (aI (rfl) (rfl)))) (fun r u hq => ?_)⟩
          obtain ⟨rfl, X2, Y2, rfl, hx2, hy2, hs2, hg⟩ := hq  -- X8_grow[R3, lN m, K1]
          refine gT_n 2 ?_
          refine ⟨(Or.inr rfl), ?_⟩
          obtain ⟨aq1, hadv1⟩ := ht1
          exact ⟨.inr ((tgrow D.1 m true, D.2.1, D.2.2), q1.2.1), X2, Y2, (pif_neg (by omega)).mpr ⟨_, hnm, (pif_pos κ2).mpr ((pif_neg β3).mpr rfl)⟩, rfl, rfl, ⟨hg, (hs2.trans hD1.2.1), (by rw [hx2 8 (by omega), hx2 10 (by omega), hx2 11 (by omega), hy2 9 (by omega)]; exact hD1.2.2.1), (by rw [hx2 1 (by omega)]; exact hD1.2.2.2.1), (by rw [hx2 7 (by omega)]; exact hD1.2.2.2.2)⟩, ⟨tg_ok hO.1 (by omega) hvm β3, hO.2.1, hO.2.2⟩, (by rw [hx2 1 (by omega)]; exact hq1.1), (by rw [hx2 1 (by omega)]; exact hq1.2.2.2), (adv_r hadv1).2.2.1⟩
      · refine gT_n 5 ?_
        refine ⟨rfl, rfl, rfl, gTM.useA (c_fail (c := 2) (p := q1.1)) (Nat.le_refl _) (aR (aI (rfl) (aI (hq1.2.2.1) (rfl)))) (fun r u hq => ?_)⟩
        obtain ⟨rfl, rfl⟩ := hq  -- X6_fail[R1, K2, nI q1.1]
        refine gT_n 1 ?_
        refine ⟨(Or.inl rfl), ?_⟩
        exact ⟨.inl (2, q1.1), _, Y1, (pif_neg (by omega)).mpr ⟨_, hnm, (pif_neg κ2).mpr rfl⟩, rfl, rfl, ⟨rfl, rfl⟩, b6_fr (uFr_f hf1) hfy (b6_d hD hO)⟩
  · refine gT_n 5 ?_
    refine ⟨rfl, rfl, rfl, gTM.useA (c_fail (c := 4) (p := q.1)) (Nat.le_refl _) (aR (aI (rfl) (aI (hq.2.2.1) (rfl)))) (fun r u hq => ?_)⟩
    obtain ⟨rfl, rfl⟩ := hq  -- X6_fail[R1, K4, nI q.1]
    refine gT_n 1 ?_
    refine ⟨(Or.inl rfl), ?_⟩
    exact ⟨.inl (4, q.1), _, Y, (pif_pos (by omega)).mpr rfl, rfl, rfl, ⟨rfl, rfl⟩, b6_d hD hO⟩
