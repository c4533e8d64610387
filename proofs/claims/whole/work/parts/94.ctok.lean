/-! tokens: what both read; the class -/
abbrev tk3 : Type := Nat × Nat × Nat
abbrev zF : Type := Int32 × Nat
def isSp (n : Nat) (b : Nat → Nat) (a s : Nat) : Prop := a ≤ s ∧ s ≤ n ∧ (∀ j, a ≤ j → j < s → b j = 32) ∧ ¬ (s < n ∧ b s = 32)
theorem isSp_one {n : Nat} {b : Nat → Nat} {a s s' : Nat} (h : isSp n b a s) (g : isSp n b a s') : s = s' := by
  rcases Nat.lt_trichotomy s s' with c | c | c
  · exact absurd ⟨Nat.lt_of_lt_of_le c g.2.1, g.2.2.1 s h.1 c⟩ h.2.2.2
  · exact c
  · exact absurd ⟨Nat.lt_of_lt_of_le c h.2.1, h.2.2.1 s' g.1 c⟩ g.2.2.2
/-- a run of bytes from lo to hi -/
def isR (n : Nat) (b : Nat → Nat) (lo hi s e : Nat) : Prop := s ≤ e ∧ e ≤ n ∧ (∀ j, s ≤ j → j < e → lo ≤ b j ∧ b j ≤ hi) ∧ ¬ (e < n ∧ lo ≤ b e ∧ b e ≤ hi)
theorem isR_one {n : Nat} {b : Nat → Nat} {lo hi s e e' : Nat} (h : isR n b lo hi s e) (g : isR n b lo hi s e') : e = e' := by
  rcases Nat.lt_trichotomy e e' with c | c | c
  · exact absurd ⟨Nat.lt_of_lt_of_le c g.2.1, g.2.2.1 e h.1 c⟩ h.2.2.2
  · exact c
  · exact absurd ⟨Nat.lt_of_lt_of_le c h.2.1, h.2.2.1 e' g.1 c⟩ g.2.2.2
def sgn (c : Nat) : Nat := if c = 46 then 3 else if c = 42 then 4 else if c = 59 then 5 else 6
def isK (n : Nat) (b : Nat → Nat) (q : tk3) : Prop := pif (q.1 < n) (pif (97 ≤ b q.1 ∧ b q.1 ≤ 122) (q.2.2 = 1 ∧ isR n b 97 122 q.1 q.2.1) (pif (48 ≤ b q.1 ∧ b q.1 ≤ 57) (q.2.2 = 2 ∧ isR n b 48 57 q.1 q.2.1) (q.2.2 = sgn (b q.1) ∧ q.2.1 = q.1 + 1))) (q.2.2 = 0 ∧ q.2.1 = q.1)
def tokn (n : Nat) (b : Nat → Nat) (a : Nat) (q : tk3) : Prop := isSp n b a q.1 ∧ isK n b q
theorem tokn_one {n : Nat} {b : Nat → Nat} {a : Nat} {q q' : tk3} (h : tokn n b a q) (g : tokn n b a q') : q = q' := by
  obtain ⟨s, e, k⟩ := q
  obtain ⟨s', e', k'⟩ := q'
  have es : s = s' := isSp_one h.1 g.1
  subst es
  have h := h.2
  have g := g.2
  by_cases c : s < n
  · have h := (pif_pos (c := s < n) c).mp h
    have g := (pif_pos (c := s < n) c).mp g
    by_cases c1 : 97 ≤ b s ∧ b s ≤ 122
    · have h := (pif_pos c1).mp h
      have g := (pif_pos c1).mp g
      have e1 : k = k' := h.1.trans g.1.symm
      have e2 : e = e' := isR_one h.2 g.2
      rw [e1, e2]
    · have h := (pif_neg c1).mp h
      have g := (pif_neg c1).mp g
      by_cases c2 : 48 ≤ b s ∧ b s ≤ 57
      · have h := (pif_pos c2).mp h
        have g := (pif_pos c2).mp g
        have e1 : k = k' := h.1.trans g.1.symm
        have e2 : e = e' := isR_one h.2 g.2
        rw [e1, e2]
      · have h := (pif_neg c2).mp h
        have g := (pif_neg c2).mp g
        have e1 : k = k' := h.1.trans g.1.symm
        have e2 : e = e' := h.2.trans g.2.symm
        rw [e1, e2]
  · have h := (pif_neg (c := s < n) c).mp h
    have g := (pif_neg (c := s < n) c).mp g
    have e1 : k = k' := h.1.trans g.1.symm
    have e2 : e = e' := h.2.trans g.2.symm
    rw [e1, e2]
def tBad (q : tk3) : Prop := q.2.2 = 6 ∨ (q.2.2 = 2 ∧ 2 < q.2.1 - q.1)
/-- the next token, or the fault -/
def adv (n : Nat) (b : Nat → Nat) (a : Nat) (r : zF ⊕ tk3) : Prop := ∃ q, tokn n b a q ∧ pif (tBad q) (r = .inl (1, q.1)) (r = .inr q)
theorem adv_one {n : Nat} {b : Nat → Nat} {a : Nat} {r r' : zF ⊕ tk3} (h : adv n b a r) (g : adv n b a r') : r = r' := by
  obtain ⟨q, h1, h2⟩ := h
  obtain ⟨q', g1, g2⟩ := g
  obtain rfl := tokn_one h1 g1
  by_cases c : tBad q
  · exact ((pif_pos c).mp h2).trans ((pif_pos c).mp g2).symm
  · exact ((pif_neg c).mp h2).trans ((pif_neg c).mp g2).symm
theorem tokn_r {n : Nat} {b : Nat → Nat} {a : Nat} {q : tk3} (h : tokn n b a q) : a ≤ q.1 ∧ q.1 ≤ q.2.1 ∧ q.2.1 ≤ n ∧ q.2.2 ≤ 6 ∧ (q.2.2 = 0 ↔ q.1 = n) ∧ (q.1 < q.2.1 ∨ q.2.2 = 0) ∧ (q.2.2 = 1 → ∀ j, q.1 ≤ j → j < q.2.1 → 97 ≤ b j ∧ b j ≤ 122) ∧ (q.2.2 = 2 → ∀ j, q.1 ≤ j → j < q.2.1 → 48 ≤ b j ∧ b j ≤ 57) := by
  obtain ⟨h1, h2⟩ := h
  have hs := h1.2.1
  by_cases c : q.1 < n
  · have h := (pif_pos c).mp h2
    by_cases c1 : 97 ≤ b q.1 ∧ b q.1 ≤ 122
    · have h := (pif_pos c1).mp h
      have hlt : q.1 < q.2.1 := by
        rcases Nat.lt_or_ge q.1 q.2.1 with g | g
        · exact g
        · have e : q.2.1 = q.1 := by have := h.2.1; omega
          exact absurd (by rw [e]; exact ⟨c, c1⟩) h.2.2.2.2
      refine ⟨h1.1, h.2.1, h.2.2.1, by omega, ⟨fun e => by omega, fun e => by omega⟩, Or.inl hlt, fun _ => h.2.2.2.1, fun e => by omega⟩
    · have h := (pif_neg c1).mp h
      by_cases c2 : 48 ≤ b q.1 ∧ b q.1 ≤ 57
      · have h := (pif_pos c2).mp h
        have hlt : q.1 < q.2.1 := by
          rcases Nat.lt_or_ge q.1 q.2.1 with g | g
          · exact g
          · have e : q.2.1 = q.1 := by have := h.2.1; omega
            exact absurd (by rw [e]; exact ⟨c, c2⟩) h.2.2.2.2
        exact ⟨h1.1, h.2.1, h.2.2.1, by omega, ⟨fun e => by omega, fun e => by omega⟩, Or.inl hlt, fun e => by omega, fun _ => h.2.2.2.1⟩
      · have h := (pif_neg c2).mp h
        have hk : 3 ≤ sgn (b q.1) ∧ sgn (b q.1) ≤ 6 := by
          unfold sgn
          by_cases d1 : b q.1 = 46
          · rw [if_pos d1]; omega
          · rw [if_neg d1]
            by_cases d2 : b q.1 = 42
            · rw [if_pos d2]; omega
            · rw [if_neg d2]
              by_cases d3 : b q.1 = 59
              · rw [if_pos d3]; omega
              · rw [if_neg d3]; omega
        exact ⟨h1.1, by omega, by omega, by omega, ⟨fun e => by omega, fun e => by omega⟩, Or.inl (by omega), fun e => by omega, fun e => by omega⟩
  · have h := (pif_neg c).mp h2
    exact ⟨h1.1, by omega, by omega, by omega, ⟨fun _ => by omega, fun _ => h.1⟩, Or.inr h.1, fun e => by omega, fun e => by omega⟩
/-! the class's reader: what changes while it reads -/
def uF (f : Nat) : Bool := Nat.ble 4 f && Nat.ble f 9
def uIn (a : Nat) : Bool := Nat.ble 3 a && Nat.ble a 11
def uM (I X : Nat → Nat → Int32) : Nat → Nat → Int32 := fun a => cond (Nat.beq a 1) (fun f => cond (uF f) (X 1 f) (I 1 f)) (cond (uIn a) (X a) (I a))
def uJn (a : Nat) : Bool := Nat.beq a 1 || (Nat.beq a 4 || Nat.beq a 9)
def uJ (J Y : Nat → Nat → Int64) : Nat → Nat → Int64 := fun a => cond (uJn a) (Y a) (J a)
section
variable {I V I' : Nat → Nat → Int32} {J Y J' : Nat → Nat → Int64} {P : Nat → Nat} {b c : Nat}
theorem uM_self : uM I I = I := by
  funext a
  unfold uM
  cases h : Nat.beq a 1
  · cases uIn a <;> rfl
  · have e := Nat.eq_of_beq_eq_true h
    subst e
    funext f
    show cond (uF f) (I 1 f) (I 1 f) = _
    cases uF f <;> rfl
theorem uJ_self : uJ J J = J := by
  funext a
  unfold uJ
  cases uJn a <;> rfl
theorem uIn_ne (h : uIn b = true) : ¬ b = 1 := fun e => by subst e; exact absurd h (by decide)
theorem uM_at (h : uIn b = true) : uM I V b = V b := by
  unfold uM
  rw [beq_ne (uIn_ne h), h]; rfl
theorem gup_uM (h : uIn b = true) {f : Nat} {x : Int32} : gupI (uM I V) b f x = uM I (gupI V b f x) := by
  funext a
  by_cases e : a = b
  · subst e
    rw [gupI_b, uM_at h, uM_at h, gupI_b]
  · rw [gupI_n e]
    unfold uM
    rw [gupI_n e, gupI_n (a := 1) (fun q => uIn_ne h q.symm)]
theorem gup_uP {f : Nat} (h : uF f = true) {x : Int32} : gupI (uM I V) 1 f x = uM I (gupI V 1 f x) := by
  funext a
  by_cases e : a = 1
  · subst e
    rw [gupI_b]
    funext g
    show (if g = f then x else cond (uF g) (V 1 g) (I 1 g)) = cond (uF g) (gupI V 1 f x 1 g) (I 1 g)
    rw [gupI_b]
    by_cases q : g = f
    · subst q
      rw [if_pos rfl, h]
      show x = upd (V 1) g x g
      rw [upd_at]
    · rw [if_neg q, upd_ne q]
  · rw [gupI_n e]
    unfold uM
    rw [beq_ne e, gupI_n e]; rfl
theorem gup_uJ (h : uJn b = true) {f : Nat} {x : Int64} : gupL (uJ J Y) b f x = uJ J (gupL Y b f x) := by
  funext a
  by_cases e : a = b
  · subst e
    rw [gupL_b]
    unfold uJ
    rw [h]
    show vp_updL (Y a) f x = gupL Y a f x a
    rw [gupL_b]
  · rw [gupL_n e]
    unfold uJ
    rw [gupL_n e]
variable {d y pc f : Nat} {L : gL} {st : List Value} {cu : Nat × Nat} {Q : Option Value → gW → Prop}
theorem gT_uP (h : uF f = true) {x X : Int32} (ev : x = X) (g : gT d y pc L st cu (gST (uM I (gupI V 1 f X)) J' P) Q) : gT d y pc L st cu ((gST (uM I V) J' P).1, gupI (gST (uM I V) J' P).2.1 1 f x, (gST (uM I V) J' P).2.2) Q := by
  subst ev
  show gT d y pc L st cu (gST (gupI (uM I V) 1 f x) J' P) Q
  rw [gup_uP h]; exact g
theorem gT_uC (h : uIn b = true) {x X : Int32} (ev : x = X) (g : gT d y pc L st cu (gST (uM I (gupI V b f X)) J' P) Q) : gT d y pc L st cu ((gST (uM I V) J' P).1, gupI (gST (uM I V) J' P).2.1 b f x, (gST (uM I V) J' P).2.2) Q := by
  subst ev
  show gT d y pc L st cu (gST (gupI (uM I V) b f x) J' P) Q
  rw [gup_uM h]; exact g
theorem gT_uA (h : uIn b = true) {n : Nat} {T x X : Int32} (e : T = nI n) (hk : n < 2 ^ 31) (ev : x = X) (g : gT d y pc L st cu (gST (uM I (gupI V b n X)) J' P) Q) : gT d y pc L st cu ((gST (uM I V) J' P).1, gupI (gST (uM I V) J' P).2.1 b T.toNatClampNeg x, (gST (uM I V) J' P).2.2) Q := by
  subst ev
  rw [e, nI_clamp hk]
  show gT d y pc L st cu (gST (gupI (uM I V) b n x) J' P) Q
  rw [gup_uM h]; exact g
theorem gT_uL (h : uJn b = true) {x X : Int64} (ev : x = X) (g : gT d y pc L st cu (gST I' (uJ J (gupL Y b f X)) P) Q) : gT d y pc L st cu ((gST I' (uJ J Y) P).1, (gST I' (uJ J Y) P).2.1, gupL (gST I' (uJ J Y) P).2.2.1 b f x, (gST I' (uJ J Y) P).2.2.2) Q := by
  subst ev
  show gT d y pc L st cu (gST I' (gupL (uJ J Y) b f x) P) Q
  rw [gup_uJ h]; exact g
theorem gT_uN (h : uJn b = true) {n : Nat} {T : Int32} {x X : Int64} (e : T = nI n) (hk : n < 2 ^ 31) (ev : x = X) (g : gT d y pc L st cu (gST I' (uJ J (gupL Y b n X)) P) Q) : gT d y pc L st cu ((gST I' (uJ J Y) P).1, (gST I' (uJ J Y) P).2.1, gupL (gST I' (uJ J Y) P).2.2.1 b T.toNatClampNeg x, (gST I' (uJ J Y) P).2.2.2) Q := by
  subst ev
  rw [e, nI_clamp hk]
  show gT d y pc L st cu (gST I' (gupL (uJ J Y) b n x) P) Q
  rw [gup_uJ h]; exact g
end
def tpe (I : Nat → Nat → Int32) (n : Nat) (b : Nat → Nat) : Prop := I 1 1 = nI n ∧ n ≤ 200 ∧ ∀ k, k < n → I 2 k = nI (b k) ∧ b k < 128
/-- the reader stands behind a token -/
def qT (X : Nat → Nat → Int32) (q : tk3) : Prop := X 1 6 = nI q.2.1 ∧ X 1 7 = nI q.2.2 ∧ X 1 8 = nI q.1 ∧ X 1 4 = 0
def uFr (X X' : Nat → Nat → Int32) : Prop := (∀ a, ¬ a = 1 → X' a = X a) ∧ X' 1 9 = X 1 9
theorem uFr_T {X X' X2 : Nat → Nat → Int32} (h : uFr X X') (g : uFr X' X2) : uFr X X2 := ⟨fun a ha => (g.1 a ha).trans (h.1 a ha), g.2.trans h.2⟩
def aOut (X' : Nat → Nat → Int32) (x : Int32) : zF ⊕ tk3 → Prop
  | .inl f => x = 0 ∧ X' 1 4 = f.1 ∧ X' 1 5 = nI f.2
  | .inr q => x = 1 ∧ qT X' q
theorem gup_2 {X : Nat → Nat → Int32} {c f : Nat} {x y : Int32} : gupI (gupI X c f x) c f y = gupI X c f y := by
  funext a
  by_cases e : a = c
  · subst e
    rw [gupI_b, gupI_b, gupI_b]; exact upd_upd
  · rw [gupI_n e, gupI_n e, gupI_n e]
theorem upv3 {X : Nat → Nat → Int32} {c f : Nat} {v : Int32} (h : X c f = v) : X = gupI X c f v := by
  funext a
  by_cases e : a = c
  · subst e
    rw [gupI_b, ← h]; exact upd_self.symm
  · rw [gupI_n e]
theorem c_skip {d a0 lo hi : Nat} {I X0 : Nat → Nat → Int32} {J Y : Nat → Nat → Int64} {P : Nat → Nat} {n : Nat} {b : Nat → Nat} (hT : tpe I n b) (ha0n : a0 ≤ n) (hl : lo < 128) (hh : hi < 128) (hat0 : X0 1 6 = nI a0) : gTM (d + 1) 65 [.ref 1, .int (nI lo), .int (nI hi)] (gST (uM I X0) (uJ J Y) P) (fun r u => r = none ∧ ∃ e, isR n b lo hi a0 e ∧ u = gST (uM I (gupI X0 1 6 (nI e))) (uJ J Y) P) := by
  have hn2 := hT.2.1
  have loop : ∀ a, a ≤ n → ∀ X : Nat → Nat → Int32, X 1 6 = nI a → X = gupI X0 1 6 (nI a) → a0 ≤ a → (∀ j, a0 ≤ j → j < a → lo ≤ b j ∧ b j ≤ hi) → gT (d + 1) 65 0 [(0, .ref 1), (1, .int (nI lo)), (2, .int (nI hi))] [] (0, 0) (gST (uM I X) (uJ J Y) P) (fun r u => r = none ∧ ∃ e, isR n b lo hi a0 e ∧ u = gST (uM I (gupI X0 1 6 (nI e))) (uJ J Y) P) := by
    refine loopU n (fun a hi2 ih => ?_)
    intro X hat hX ha0 hno
    refine gT_n 5 ?_
    refine ⟨rfl, rfl, pk_le n a (fun κ1 => ?_) (fun κ1 => ?_) (hT.1) (hat) (by omega) (by omega)⟩
    · refine gT_n 1 ?_
      refine ⟨rfl, ?_⟩
      exact ⟨rfl, a, ⟨ha0, by omega, hno, by omega⟩, by rw [← hX]⟩
    · refine gT_n 8 ?_
      refine ⟨rfl, rfl, (Or.inl rfl), (pk_in a 200 (by omega) (hat)), rfl, ?_⟩
      refine gT_n 3 ?_
      refine pk_lt ((b a)) lo (fun κ2 => ?_) (fun κ2 => ?_) ((rdI (hat) (by omega) (hT.2.2 _ (by omega)).1)) (rfl) (by have := (hT.2.2 a (by omega)).2; omega) (by omega)
      · refine gT_n 2 ?_
        refine ⟨(Or.inl rfl), ?_⟩
        show gT _ 65 25 _ _ _ _ _
        refine gT_n 1 ?_
        refine ⟨fun _ => ?_, fun c => absurd (by decide) c⟩
        refine gT_n 1 ?_
        refine ⟨rfl, ?_⟩
        exact ⟨rfl, a, ⟨ha0, by omega, hno, by omega⟩, by rw [← hX]⟩
      · refine gT_n 3 ?_
        refine pk_lt hi ((b a)) (fun κ3 => ?_) (fun κ3 => ?_) (rfl) ((rdI (hat) (by omega) (hT.2.2 _ (by omega)).1)) (by omega) (by have := (hT.2.2 a (by omega)).2; omega)
        · refine gT_n 2 ?_
          refine ⟨(Or.inl rfl), ?_⟩
          show gT _ 65 25 _ _ _ _ _
          refine gT_n 1 ?_
          refine ⟨fun _ => ?_, fun c => absurd (by decide) c⟩
          refine gT_n 1 ?_
          refine ⟨rfl, ?_⟩
          exact ⟨rfl, a, ⟨ha0, by omega, hno, by omega⟩, by rw [← hX]⟩
        · refine gT_n 3 ?_
          refine ⟨(Or.inr rfl), ?_⟩
          show gT _ 65 25 _ _ _ _ _
          refine gT_n 1 ?_
          refine ⟨fun c => absurd c (by decide), fun _ => ?_⟩
          refine gT_n 6 ?_
          refine ⟨rfl, rfl, ?_⟩
          refine gT_uP rfl (X := (nI (a + 1))) (pk_addE (n := a) (k := 1) (hat) (rfl)) ?_
          refine gT_n 1 ?_
          have e := ih (a + 1) (by omega) (by omega) (gupI X 1 6 (nI (a + 1))) gupI_rr (by rw [hX, gup_2]) (by omega) (fun j h1 h2 => by
            rcases Nat.lt_or_ge j a with g | g
            · exact hno j h1 g
            · obtain rfl : j = a := by omega
              exact ⟨by omega, by omega⟩)
          exact gT_k e ⟨rfl, rfl, rfl, trivial⟩ rfl
  exact loop a0 ha0n X0 hat0 (upv3 hat0) (Nat.le_refl _) (fun j h1 h2 => absurd h1 (by omega))
