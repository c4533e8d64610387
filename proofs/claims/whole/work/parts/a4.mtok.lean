/-! tokens: the reference -/
def xF (f : Nat) : Bool := (Nat.ble 19 f && Nat.ble f 24) || (Nat.beq f 29 || (Nat.beq f 33 || (Nat.beq f 34 || Nat.beq f 35)))
def xIn (a : Nat) : Bool := Nat.ble 187 a && Nat.ble a 192
def xM (I X : Nat → Nat → Int32) : Nat → Nat → Int32 := fun a => cond (Nat.beq a 171) (fun f => cond (xF f) (X 171 f) (I 171 f)) (cond (xIn a) (X a) (I a))
def xJn (a : Nat) : Bool := Nat.beq a 187 || Nat.beq a 189
def xJ (J Y : Nat → Nat → Int64) : Nat → Nat → Int64 := fun a => cond (xJn a) (Y a) (J a)
section
variable {I V I' : Nat → Nat → Int32} {J Y J' : Nat → Nat → Int64} {P : Nat → Nat} {b c : Nat}
theorem xM_self : xM I I = I := by
  funext a
  unfold xM
  cases h : Nat.beq a 171
  · cases xIn a <;> rfl
  · have e := Nat.eq_of_beq_eq_true h
    subst e
    funext f
    show cond (xF f) (I 171 f) (I 171 f) = _
    cases xF f <;> rfl
theorem xJ_self : xJ J J = J := by
  funext a
  unfold xJ
  cases xJn a <;> rfl
theorem xIn_ne (h : xIn b = true) : ¬ b = 171 := fun e => by subst e; exact absurd h (by decide)
theorem xM_at (h : xIn b = true) : xM I V b = V b := by
  unfold xM
  rw [beq_ne (xIn_ne h), h]; rfl
theorem gup_xM (h : xIn b = true) {f : Nat} {x : Int32} : gupI (xM I V) b f x = xM I (gupI V b f x) := by
  funext a
  by_cases e : a = b
  · subst e
    rw [gupI_b, xM_at h, xM_at h, gupI_b]
  · rw [gupI_n e]
    unfold xM
    rw [gupI_n e, gupI_n (a := 171) (fun q => xIn_ne h q.symm)]
theorem gup_xP {f : Nat} (h : xF f = true) {x : Int32} : gupI (xM I V) 171 f x = xM I (gupI V 171 f x) := by
  funext a
  by_cases e : a = 171
  · subst e
    rw [gupI_b]
    funext g
    show (if g = f then x else cond (xF g) (V 171 g) (I 171 g)) = cond (xF g) (gupI V 171 f x 171 g) (I 171 g)
    rw [gupI_b]
    by_cases q : g = f
    · subst q
      rw [if_pos rfl, h]
      show x = upd (V 171) g x g
      rw [upd_at]
    · rw [if_neg q, upd_ne q]
  · rw [gupI_n e]
    unfold xM
    rw [beq_ne e, gupI_n e]; rfl
theorem gup_xJ (h : xJn b = true) {f : Nat} {x : Int64} : gupL (xJ J Y) b f x = xJ J (gupL Y b f x) := by
  funext a
  by_cases e : a = b
  · subst e
    rw [gupL_b]
    unfold xJ
    rw [h]
    show vp_updL (Y a) f x = gupL Y a f x a
    rw [gupL_b]
  · rw [gupL_n e]
    unfold xJ
    rw [gupL_n e]
variable {d y pc f : Nat} {L : gL} {st : List Value} {cu : Nat × Nat} {Q : Option Value → gW → Prop}
theorem gT_xP (h : xF f = true) {x X : Int32} (ev : x = X) (g : gT d y pc L st cu (gST (xM I (gupI V 171 f X)) J' P) Q) : gT d y pc L st cu ((gST (xM I V) J' P).1, gupI (gST (xM I V) J' P).2.1 171 f x, (gST (xM I V) J' P).2.2) Q := by
  subst ev
  show gT d y pc L st cu (gST (gupI (xM I V) 171 f x) J' P) Q
  rw [gup_xP h]; exact g
theorem gT_xC (h : xIn b = true) {x X : Int32} (ev : x = X) (g : gT d y pc L st cu (gST (xM I (gupI V b f X)) J' P) Q) : gT d y pc L st cu ((gST (xM I V) J' P).1, gupI (gST (xM I V) J' P).2.1 b f x, (gST (xM I V) J' P).2.2) Q := by
  subst ev
  show gT d y pc L st cu (gST (gupI (xM I V) b f x) J' P) Q
  rw [gup_xM h]; exact g
theorem gT_xA (h : xIn b = true) {n : Nat} {T x X : Int32} (e : T = nI n) (hk : n < 2 ^ 31) (ev : x = X) (g : gT d y pc L st cu (gST (xM I (gupI V b n X)) J' P) Q) : gT d y pc L st cu ((gST (xM I V) J' P).1, gupI (gST (xM I V) J' P).2.1 b T.toNatClampNeg x, (gST (xM I V) J' P).2.2) Q := by
  subst ev
  rw [e, nI_clamp hk]
  show gT d y pc L st cu (gST (gupI (xM I V) b n x) J' P) Q
  rw [gup_xM h]; exact g
theorem gT_xL (h : xJn b = true) {x X : Int64} (ev : x = X) (g : gT d y pc L st cu (gST I' (xJ J (gupL Y b f X)) P) Q) : gT d y pc L st cu ((gST I' (xJ J Y) P).1, (gST I' (xJ J Y) P).2.1, gupL (gST I' (xJ J Y) P).2.2.1 b f x, (gST I' (xJ J Y) P).2.2.2) Q := by
  subst ev
  show gT d y pc L st cu (gST I' (gupL (xJ J Y) b f x) P) Q
  rw [gup_xJ h]; exact g
theorem gT_xN (h : xJn b = true) {n : Nat} {T : Int32} {x X : Int64} (e : T = nI n) (hk : n < 2 ^ 31) (ev : x = X) (g : gT d y pc L st cu (gST I' (xJ J (gupL Y b n X)) P) Q) : gT d y pc L st cu ((gST I' (xJ J Y) P).1, (gST I' (xJ J Y) P).2.1, gupL (gST I' (xJ J Y) P).2.2.1 b T.toNatClampNeg x, (gST I' (xJ J Y) P).2.2.2) Q := by
  subst ev
  rw [e, nI_clamp hk]
  show gT d y pc L st cu (gST I' (gupL (xJ J Y) b n x) P) Q
  rw [gup_xJ h]; exact g
end
def tpm (I : Nat → Nat → Int32) (n : Nat) (b : Nat → Nat) : Prop := I 171 18 = nI n ∧ n ≤ 200 ∧ ∀ k, k < n → I 184 k = nI (b k) ∧ b k < 128
def tkc (k : Nat) : Nat := if k ≤ 2 then k else 3
def vlc (n : Nat) (b : Nat → Nat) (q : tk3) : Int32 := if q.2.2 = 0 then -4 else if q.2.2 = 2 then nI (num b q) else nI (b q.1)
def okT (n : Nat) (b : Nat → Nat) (X : Nat → Nat → Int32) (q : tk3) : Prop := X 171 19 = 0 ∧ X 171 21 = nI q.2.1 ∧ X 171 22 = nI q.1 ∧ X 171 23 = nI (tkc q.2.2) ∧ X 171 24 = vlc n b q
def fT (X : Nat → Nat → Int32) (f : zF) : Prop := X 171 19 = f.1 ∧ X 171 20 = nI f.2 ∧ 0 < f.1
def xFr (X X' : Nat → Nat → Int32) : Prop := (∀ a, ¬ a = 171 → X' a = X a) ∧ X' 171 29 = X 171 29 ∧ X' 171 33 = X 171 33 ∧ X' 171 34 = X 171 34 ∧ X' 171 35 = X 171 35
theorem xFr_T {X X' X2 : Nat → Nat → Int32} (h : xFr X X') (g : xFr X' X2) : xFr X X2 := ⟨fun a ha => (g.1 a ha).trans (h.1 a ha), g.2.1.trans h.2.1, g.2.2.1.trans h.2.2.1, g.2.2.2.1.trans h.2.2.2.1, g.2.2.2.2.trans h.2.2.2.2⟩
theorem xFr_s {X : Nat → Nat → Int32} : xFr X X := ⟨fun _ _ => rfl, rfl, rfl, rfl, rfl⟩
theorem m_inN {d c lo hi : Nat} {a e : Int64} {w : gW} (ha : (nI lo).toInt64 = a) (he : (nI hi).toInt64 = e) (hc : c < 2 ^ 31) (hl : lo < 2 ^ 31) (hh : hi < 2 ^ 31) : gTM d 156 [.long (nI c).toInt64, .long a, .long e] w (gB w (lo ≤ c ∧ c ≤ hi)) := by
  refine gB_iff (m_inI ha he) ?_
  rw [nI_leI hl hc, nI_leI hc hh]
theorem m_inK {d : Nat} {lo hi : Nat} {a e : Int64} {w : gW} (ha : (nI lo).toInt64 = a) (he : (nI hi).toInt64 = e) (hl : lo < 2 ^ 31) : gTM d 156 [.long (-4 : Int32).toInt64, .long a, .long e] w (fun r u => u = w ∧ r = some (.int 0)) := by
  refine gTM.use (m_inI (v := -4) ha he) (Nat.le_refl _) (fun r u h => ?_)
  obtain ⟨h1, h2 | h2⟩ := h
  · exact absurd (Int32.le_trans (nI_pos' hl) h2.2.1) (by decide)
  · exact ⟨h1, h2.1⟩
theorem m_byteAt {d k : Nat} {I X : Nat → Nat → Int32} {J Y : Nat → Nat → Int64} {P : Nat → Nat} {n : Nat} {b : Nat → Nat} (hT : tpm I n b) (hk : k < 2 ^ 31) : gTM d 181 [.ref 171, .int (nI k)] (gST (xM I X) (xJ J Y) P) (fun r u => u = (gST (xM I X) (xJ J Y) P) ∧ ((k < n ∧ r = some (.int (nI (b k)))) ∨ (n ≤ k ∧ r = some (.int (-4))))) := by
  have hn2 := hT.2.1
  refine gT_n 4 ?_
  refine ⟨rfl, pk_le n k (fun κ1 => ?_) (fun κ1 => ?_) (hT.1) (rfl) (by omega) (by omega)⟩
  · refine gT_n 2 ?_
    exact ⟨rfl, Or.inr ⟨by omega, rfl⟩⟩
  · refine gT_n 6 ?_
    refine ⟨rfl, rfl, (pk_in k 200 (by omega) (rfl)), ?_⟩
    exact ⟨rfl, Or.inl ⟨by omega, ri ((rdI (rfl) (by omega) (hT.2.2 _ (by omega)).1))⟩⟩
theorem m_must1 {d : Nat} {c : Int32} {I X : Nat → Nat → Int32} {J Y : Nat → Nat → Int64} {P : Nat → Nat} : gTM d 182 [.ref 171, .int 1, .int c] (gST (xM I X) (xJ J Y) P) (fun r u => ∃ x, r = some (.int x) ∧ u = (gST (xM I X) (xJ J Y) P)) := by
  refine gT_n 2 ?_
  refine ⟨fun _ => ?_, fun c => absurd c (by decide)⟩
  refine gT_n 3 ?_
  refine ⟨rfl, px_ne (X := (X 171 19)) (Y := (0)) (rfl) (rfl) (fun κ1 => ?_) (fun κ1 => ?_)⟩
  · refine gT_n 2 ?_
    refine ⟨(Or.inl rfl), ?_⟩
    exact ⟨_, rfl, rfl⟩
  · refine gT_n 3 ?_
    refine ⟨(Or.inr rfl), ?_⟩
    exact ⟨_, rfl, rfl⟩
theorem m_must0 {d : Nat} {c h : Int32} {I X : Nat → Nat → Int32} {J Y : Nat → Nat → Int64} {P : Nat → Nat} (h0 : X 171 19 = 0) (hh : X 171 22 = h) : gTM d 182 [.ref 171, .int 0, .int c] (gST (xM I X) (xJ J Y) P) (fun r u => ∃ x, r = some (.int x) ∧ u = gST (xM I (gupI (gupI X 171 19 c) 171 20 h)) (xJ J Y) P) := by
  refine gT_n 2 ?_
  refine ⟨fun c => absurd (by decide) c, fun _ => ?_⟩
  refine gT_n 3 ?_
  refine ⟨rfl, fun c => absurd c (kpT (p := fun z : Int32 => ¬ (¬ z = 0)) (show _ = (0 : Int32) from h0) (by decide)), fun _ => ?_⟩
  refine gT_n 3 ?_
  refine ⟨rfl, ?_⟩
  refine gT_xP rfl (X := c) (rfl) ?_
  refine gT_n 4 ?_
  refine ⟨rfl, rfl, ?_⟩
  refine gT_xP rfl (X := h) (hh) ?_
  refine gT_n 3 ?_
  refine ⟨rfl, px_ne (X := c) (Y := (0)) (rfl) (rfl) (fun κ1 => ?_) (fun κ1 => ?_)⟩
  · refine gT_n 2 ?_
    refine ⟨(Or.inl rfl), ?_⟩
    exact ⟨_, rfl, rfl⟩
  · refine gT_n 3 ?_
    refine ⟨(Or.inr rfl), ?_⟩
    exact ⟨_, rfl, rfl⟩
theorem m_readsF {d : Nat} {f : Int32} {I X : Nat → Nat → Int32} {J Y : Nat → Nat → Int64} {P : Nat → Nat} (h0 : X 171 19 = f) (hf : 0 < f) : gTM d 183 [.ref 171] (gST (xM I X) (xJ J Y) P) (fun r u => r = none ∧ u = (gST (xM I X) (xJ J Y) P)) := by
  refine gT_n 3 ?_
  refine ⟨rfl, px_le (X := f) (Y := (0)) (h0) (rfl) (fun κ1 => ?_) (fun κ1 => ?_)⟩
  · exact absurd (by assumption) (Int32.not_le.mpr hf)
  · refine gT_n 1 ?_
    refine ⟨rfl, ?_⟩
    exact ⟨rfl, rfl⟩
theorem xFr_g {X0 X : Nat → Nat → Int32} {f : Nat} {x : Int32} (h : xFr X0 X) (hf : ¬ f = 29 ∧ ¬ f = 33 ∧ ¬ f = 34 ∧ ¬ f = 35) : xFr X0 (gupI X 171 f x) := by
  refine ⟨fun a ha => (gupI_n ha).trans (h.1 a ha), ?_, ?_, ?_, ?_⟩ <;> rw [gupI_b, upd_ne (by omega)]
  · exact h.2.1
  · exact h.2.2.1
  · exact h.2.2.2.1
  · exact h.2.2.2.2
theorem m_wordL {d a0 s : Nat} {X0 : Nat → Nat → Int32} {I : Nat → Nat → Int32} {J Y : Nat → Nat → Int64} {P : Nat → Nat} {n : Nat} {b : Nat → Nat} (hT : tpm I n b) (hsp : isSp n b a0 s) (hsn : s < n) (hcl : 97 ≤ b s ∧ b s ≤ 122) : ∀ e, e ≤ n → ∀ X : Nat → Nat → Int32, xFr X0 X → X 171 19 = 0 → X 171 21 = nI e → X 171 22 = nI s → X 171 23 = 1 → X 171 24 = nI (b s) → s ≤ e → (∀ j, s ≤ j → j < e → 97 ≤ b j ∧ b j ≤ 122) → gT (d + 1) 183 89 [(0, .ref 171)] [] (0, 0) (gST (xM I X) (xJ J Y) P) (fun r u => r = none ∧ ((∃ f X', adv n b a0 (.inl f) ∧ u = gST (xM I X') (xJ J Y) P ∧ xFr X0 X' ∧ fT X' f) ∨ (∃ q X', adv n b a0 (.inr q) ∧ u = gST (xM I X') (xJ J Y) P ∧ xFr X0 X' ∧ okT n b X' q))) := by
  have hn2 := hT.2.1
  refine loopU n (fun e hi ih => ?_)
  intro X hfr h19 h21 h22 h23 h24 hse hno
  refine gT_n 4 ?_
  refine ⟨rfl, rfl, rfl, gTM.useA (m_byteAt (k := e) hT (by omega)) (Nat.le_refl _) (aR (aI (h21) (rfl))) (fun r u hq => ?_)⟩
  obtain ⟨rfl, ⟨hlt, rfl⟩ | ⟨hge, rfl⟩⟩ := hq  -- X12_byteAt[R171, nI e]
  · refine gT_n 4 ?_
    refine ⟨rfl, gTM.use (m_inN (c := b e) (lo := 97) (hi := 122) rfl rfl (by have := (hT.2.2 e (by omega)).2; omega) (by decide) (by decide)) (Nat.le_refl _) (fun r u hq => ?_)⟩
    obtain ⟨rfl, ⟨rfl, β1⟩ | ⟨rfl, β1⟩⟩ := hq  -- X12_in[L(nI ((b e))).toInt64, lN 97, lN 122]
    · refine gT_n 1 ?_
      refine ⟨fun c => absurd c (by decide), fun _ => ?_⟩
      refine gT_n 6 ?_
      refine ⟨rfl, rfl, ?_⟩
      refine gT_xP rfl (X := (nI (e + 1))) (pk_addE (n := e) (k := 1) (h21) (rfl)) ?_
      refine gT_n 1 ?_
      have e' := ih (e + 1) (by omega) (by omega) (gupI X 171 21 (nI (e + 1))) (xFr_g hfr (by decide)) h19 gupI_rr h22 h23 h24 (by omega) (fun j h1 h2 => by
        rcases Nat.lt_or_ge j e with g | g
        · exact hno j h1 g
        · obtain rfl : j = e := by omega
          assumption)
      exact gT_k e' ⟨rfl, trivial⟩ rfl
    · refine gT_n 1 ?_
      refine ⟨fun _ => ?_, fun c => absurd (by decide) c⟩
      refine gT_n 1 ?_
      refine ⟨rfl, ?_⟩
      exact ⟨rfl, Or.inr ⟨(s, e, 1), X, ⟨(s, e, 1), ⟨hsp, (pif_pos (c := s < n) hsn).mpr ((pif_pos (c := 97 ≤ b s ∧ b s ≤ 122) hcl).mpr ⟨rfl, by omega, by omega, hno, fun c => by first | exact absurd c.2 (by assumption) | (have := c.1; dsimp only at this; omega)⟩)⟩, (pif_neg (by unfold tBad; simp)).mpr rfl⟩, rfl, hfr, h19, h21, h22, h23, h24⟩⟩
  · refine gT_n 4 ?_
    refine ⟨rfl, gTM.use (m_inK (lo := 97) (hi := 122) rfl rfl (by decide)) (Nat.le_refl _) (fun r u hq => ?_)⟩
    obtain ⟨rfl, rfl⟩ := hq  -- X12_in[L((-4 : Int32).toInt64), lN 97, lN 122]
    refine gT_n 1 ?_
    refine ⟨fun _ => ?_, fun c => absurd (by decide) c⟩
    refine gT_n 1 ?_
    refine ⟨rfl, ?_⟩
    exact ⟨rfl, Or.inr ⟨(s, e, 1), X, ⟨(s, e, 1), ⟨hsp, (pif_pos (c := s < n) hsn).mpr ((pif_pos (c := 97 ≤ b s ∧ b s ≤ 122) hcl).mpr ⟨rfl, by omega, by omega, hno, fun c => by first | exact absurd c.2 (by assumption) | (have := c.1; dsimp only at this; omega)⟩)⟩, (pif_neg (by unfold tBad; simp)).mpr rfl⟩, rfl, hfr, h19, h21, h22, h23, h24⟩⟩
def nv (b : Nat → Nat) (s e : Nat) : Nat := if e ≤ s then 0 else if e = s + 1 then b s - 48 else 10 * (b s - 48) + (b (s + 1) - 48)
theorem nv_s {b : Nat → Nat} {s e : Nat} (h : s ≤ e) (h2 : e - s < 2) (hd : 48 ≤ b e) (h0 : e = s + 1 → 48 ≤ b s) : 10 * nv b s e + b e - 48 = nv b s (e + 1) := by
  unfold nv
  by_cases c : e = s
  · subst c
    rw [if_pos (Nat.le_refl _), if_neg (by omega), if_pos rfl]; omega
  · obtain rfl : e = s + 1 := by omega
    rw [if_neg (by omega), if_pos rfl, if_neg (by omega), if_neg (by omega)]
    omega
theorem nv_k {b : Nat → Nat} {s e : Nat} (h : s ≤ e) (h2 : ¬ e - s < 2) : nv b s e = nv b s (e + 1) := by
  unfold nv
  rw [if_neg (by omega), if_neg (by omega), if_neg (by omega), if_neg (by omega)]
theorem nv_n {b : Nat → Nat} {q : tk3} (h : q.1 < q.2.1) (h2 : q.2.1 - q.1 ≤ 2) : nv b q.1 q.2.1 = num b q := by
  unfold nv num
  rw [if_neg (by omega)]
  by_cases c : q.2.1 = q.1 + 1
  · rw [if_pos c, if_pos (by omega)]
  · rw [if_neg c, if_neg (by omega)]
theorem nv_lt {b : Nat → Nat} {s e : Nat} (h0 : b s < 128) (h1 : s + 1 < e → b (s + 1) < 128) : nv b s e < 2000 := by
  unfold nv
  by_cases c : e ≤ s
  · rw [if_pos c]; omega
  · rw [if_neg c]
    by_cases c2 : e = s + 1
    · rw [if_pos c2]; omega
    · rw [if_neg c2]; have := h1 (by omega); omega
theorem m_numL {d a0 s : Nat} {X0 : Nat → Nat → Int32} {I : Nat → Nat → Int32} {J Y : Nat → Nat → Int64} {P : Nat → Nat} {n : Nat} {b : Nat → Nat} (hT : tpm I n b) (hsp : isSp n b a0 s) (hsn : s < n) (hcl : 48 ≤ b s ∧ b s ≤ 57) : ∀ e, e ≤ n → ∀ X : Nat → Nat → Int32, xFr X0 X → X 171 19 = 0 → X 171 21 = nI e → X 171 22 = nI s → X 171 23 = 2 → X 171 24 = nI (nv b s e) → s ≤ e → (∀ j, s ≤ j → j < e → 48 ≤ b j ∧ b j ≤ 57) → gT (d + 1) 183 147 [(0, .ref 171)] [] (0, 0) (gST (xM I X) (xJ J Y) P) (fun r u => r = none ∧ ((∃ f X', adv n b a0 (.inl f) ∧ u = gST (xM I X') (xJ J Y) P ∧ xFr X0 X' ∧ fT X' f) ∨ (∃ q X', adv n b a0 (.inr q) ∧ u = gST (xM I X') (xJ J Y) P ∧ xFr X0 X' ∧ okT n b X' q))) := by
  have hn2 := hT.2.1
  refine loopU n (fun e hi ih => ?_)
  intro X hfr h19 h21 h22 h23 h24 hse hno
  have hnv : nv b s e < 2000 := nv_lt (by omega) (fun h => by have := hno (s + 1) (by omega) h; omega)
  refine gT_n 4 ?_
  refine ⟨rfl, rfl, rfl, gTM.useA (m_byteAt (k := e) hT (by omega)) (Nat.le_refl _) (aR (aI (h21) (rfl))) (fun r u hq => ?_)⟩
  obtain ⟨rfl, ⟨hlt, rfl⟩ | ⟨hge, rfl⟩⟩ := hq  -- X12_byteAt[R171, nI e]
  · refine gT_n 4 ?_
    refine ⟨rfl, gTM.use (m_inN (c := b e) (lo := 48) (hi := 57) rfl rfl (by have := (hT.2.2 e (by omega)).2; omega) (by decide) (by decide)) (Nat.le_refl _) (fun r u hq => ?_)⟩
    obtain ⟨rfl, ⟨rfl, β1⟩ | ⟨rfl, β1⟩⟩ := hq  -- X12_in[L(nI ((b e))).toInt64, lN 48, lN 57]
    · refine gT_n 1 ?_
      refine ⟨fun c => absurd c (by decide), fun _ => ?_⟩
      refine gT_n 8 ?_
      refine ⟨rfl, rfl, pk_le 2 (e - s) (fun κ2 => ?_) (fun κ2 => ?_) (rfl) (pk_subE (n := e) (k := s) (h21) (h22) (by omega)) (by omega) (by omega)⟩
      · refine gT_n 3 ?_
        refine ⟨rfl, rfl, ?_⟩
        refine gT_xP rfl (X := (nI ((nv b s e)))) (h24) ?_
        refine gT_n 6 ?_
        refine ⟨rfl, rfl, ?_⟩
        refine gT_xP rfl (X := (nI (e + 1))) (pk_addE (n := e) (k := 1) (h21) (rfl)) ?_
        refine gT_n 1 ?_
        by_cases hcontr : n ≤ e
        · exact absurd hlt (by omega)
        · first
          | exact absurd hge hcontr
          | have e' := ih (e + 1) (by omega) (by omega) _ (xFr_g (xFr_g hfr (f := 24) (x := nI (nv b s (e + 1))) (by decide)) (f := 21) (x := nI (e + 1)) (by decide)) h19 gupI_rr h22 h23 rfl (by omega) (fun j h1 h2 => by
              rcases Nat.lt_or_ge j e with g | g
              · exact hno j h1 g
              · obtain rfl : j = e := by omega
                assumption)
            refine gT_mem ?_ (gT_k e' ⟨rfl, trivial⟩ rfl)
            first | rw [nv_k hse (by omega)] | rw [nv_s hse (by omega) (by omega) (fun e2 => (hno s (by omega) (by omega)).1)]
      · refine gT_n 8 ?_
        refine ⟨rfl, rfl, rfl, rfl, gTM.useA (m_byteAt (k := e) hT (by omega)) (Nat.le_refl _) (aR (aI (h21) (rfl))) (fun r u hq => ?_)⟩
        obtain ⟨rfl, ⟨hlt, rfl⟩ | ⟨hge, rfl⟩⟩ := hq  -- X12_byteAt[R171, nI e]
        · refine gT_n 5 ?_
          refine ⟨rfl, ?_⟩
          refine gT_xP rfl (X := (nI (((10 * ((nv b s e))) + ((b e))) - 48))) (pk_subE (n := ((10 * ((nv b s e))) + ((b e)))) (k := 48) (pk_addE (n := (10 * ((nv b s e)))) (k := ((b e))) (pk_mulE (n := 10) (k := ((nv b s e))) (rfl) (h24)) (rfl)) (rfl) (by omega)) ?_
          refine gT_n 6 ?_
          refine ⟨rfl, rfl, ?_⟩
          refine gT_xP rfl (X := (nI (e + 1))) (pk_addE (n := e) (k := 1) (h21) (rfl)) ?_
          refine gT_n 1 ?_
          by_cases hcontr : n ≤ e
          · exact absurd hlt (by omega)
          · first
            | exact absurd hge hcontr
            | have e' := ih (e + 1) (by omega) (by omega) _ (xFr_g (xFr_g hfr (f := 24) (x := nI (nv b s (e + 1))) (by decide)) (f := 21) (x := nI (e + 1)) (by decide)) h19 gupI_rr h22 h23 rfl (by omega) (fun j h1 h2 => by
                rcases Nat.lt_or_ge j e with g | g
                · exact hno j h1 g
                · obtain rfl : j = e := by omega
                  assumption)
              refine gT_mem ?_ (gT_k e' ⟨rfl, trivial⟩ rfl)
              first | rw [nv_k hse (by omega)] | rw [nv_s hse (by omega) (by omega) (fun e2 => (hno s (by omega) (by omega)).1)]
        · refine gT_n 5 ?_
          refine ⟨rfl, ?_⟩
          refine gT_xP rfl (X := ((nI (10 * ((nv b s e))) + (-4 : Int32)) - (48 : Int32))) ((k2E (f := fun x y : Int32 => x - y) ((k2E (f := fun x y : Int32 => x + y) (pk_mulE (n := 10) (k := ((nv b s e))) (rfl) (h24)) (rfl) rfl)) (rfl) rfl)) ?_
          refine gT_n 6 ?_
          refine ⟨rfl, rfl, ?_⟩
          refine gT_xP rfl (X := (nI (e + 1))) (pk_addE (n := e) (k := 1) (h21) (rfl)) ?_
          refine gT_n 1 ?_
          by_cases hcontr : n ≤ e
          · exact absurd hlt (by omega)
          · first
            | exact absurd hge hcontr
            | have e' := ih (e + 1) (by omega) (by omega) _ (xFr_g (xFr_g hfr (f := 24) (x := nI (nv b s (e + 1))) (by decide)) (f := 21) (x := nI (e + 1)) (by decide)) h19 gupI_rr h22 h23 rfl (by omega) (fun j h1 h2 => by
                rcases Nat.lt_or_ge j e with g | g
                · exact hno j h1 g
                · obtain rfl : j = e := by omega
                  assumption)
              refine gT_mem ?_ (gT_k e' ⟨rfl, trivial⟩ rfl)
              first | rw [nv_k hse (by omega)] | rw [nv_s hse (by omega) (by omega) (fun e2 => (hno s (by omega) (by omega)).1)]
    · refine gT_n 1 ?_
      refine ⟨fun _ => ?_, fun c => absurd (by decide) c⟩
      have hend : ¬ (e < n ∧ 48 ≤ b e ∧ b e ≤ 57) := fun c => by first | exact absurd c.2 (by assumption) | (have := c.1; omega)
      have hse2 : s < e := by
        rcases Nat.lt_or_ge s e with g | g
        · exact g
        · obtain rfl : e = s := by omega
          exact absurd ⟨hsn, hcl⟩ hend
      refine gT_n 8 ?_
      refine ⟨rfl, rfl, pk_lt 2 (e - s) (fun κ1 => ?_) (fun κ1 => ?_) (rfl) (pk_subE (n := e) (k := s) (h21) (h22) (by omega)) (by omega) (by omega)⟩
      · refine gT_n 3 ?_
        refine ⟨rfl, rfl, gTM.use (m_must0 (c := 1) (h := nI s) h19 h22) (Nat.le_refl _) (fun r u hq => ?_)⟩
        obtain ⟨xx, rfl, rfl⟩ := hq  -- X12_must[R171, K0, K1]
        refine gT_n 3 ?_
        refine ⟨rfl, ?_⟩
        exact ⟨rfl, Or.inl ⟨(1, s), _, ⟨(s, e, 2), ⟨hsp, (pif_pos (c := s < n) hsn).mpr ((pif_neg (c := 97 ≤ b s ∧ b s ≤ 122) (by omega)).mpr ((pif_pos (c := 48 ≤ b s ∧ b s ≤ 57) hcl).mpr ⟨rfl, by omega, by omega, hno, hend⟩))⟩, (pif_pos (by unfold tBad; dsimp only; omega)).mpr rfl⟩, rfl, xFr_g (xFr_g hfr (by decide)) (by decide), rfl, rfl, (by decide : (0 : Int32) < 1)⟩⟩
      · refine gT_n 4 ?_
        refine ⟨rfl, rfl, gTM.use (m_must1 (c := 1)) (Nat.le_refl _) (fun r u hq => ?_)⟩
        obtain ⟨xx, rfl, rfl⟩ := hq  -- X12_must[R171, K1, K1]
        refine gT_n 3 ?_
        refine ⟨rfl, ?_⟩
        exact ⟨rfl, Or.inr ⟨(s, e, 2), X, ⟨(s, e, 2), ⟨hsp, (pif_pos (c := s < n) hsn).mpr ((pif_neg (c := 97 ≤ b s ∧ b s ≤ 122) (by omega)).mpr ((pif_pos (c := 48 ≤ b s ∧ b s ≤ 57) hcl).mpr ⟨rfl, by omega, by omega, hno, hend⟩))⟩, (pif_neg (by unfold tBad; dsimp only; omega)).mpr rfl⟩, rfl, hfr, h19, h21, h22, h23, h24.trans (congrArg nI (nv_n (b := b) (q := (s, e, 2)) (by show s < e; omega) (by show e - s ≤ 2; omega)))⟩⟩
  · refine gT_n 4 ?_
    refine ⟨rfl, gTM.use (m_inK (lo := 48) (hi := 57) rfl rfl (by decide)) (Nat.le_refl _) (fun r u hq => ?_)⟩
    obtain ⟨rfl, rfl⟩ := hq  -- X12_in[L((-4 : Int32).toInt64), lN 48, lN 57]
    refine gT_n 1 ?_
    refine ⟨fun _ => ?_, fun c => absurd (by decide) c⟩
    have hend : ¬ (e < n ∧ 48 ≤ b e ∧ b e ≤ 57) := fun c => by first | exact absurd c.2 (by assumption) | (have := c.1; omega)
    have hse2 : s < e := by
      rcases Nat.lt_or_ge s e with g | g
      · exact g
      · obtain rfl : e = s := by omega
        exact absurd ⟨hsn, hcl⟩ hend
    refine gT_n 8 ?_
    refine ⟨rfl, rfl, pk_lt 2 (e - s) (fun κ1 => ?_) (fun κ1 => ?_) (rfl) (pk_subE (n := e) (k := s) (h21) (h22) (by omega)) (by omega) (by omega)⟩
    · refine gT_n 3 ?_
      refine ⟨rfl, rfl, gTM.use (m_must0 (c := 1) (h := nI s) h19 h22) (Nat.le_refl _) (fun r u hq => ?_)⟩
      obtain ⟨xx, rfl, rfl⟩ := hq  -- X12_must[R171, K0, K1]
      refine gT_n 3 ?_
      refine ⟨rfl, ?_⟩
      exact ⟨rfl, Or.inl ⟨(1, s), _, ⟨(s, e, 2), ⟨hsp, (pif_pos (c := s < n) hsn).mpr ((pif_neg (c := 97 ≤ b s ∧ b s ≤ 122) (by omega)).mpr ((pif_pos (c := 48 ≤ b s ∧ b s ≤ 57) hcl).mpr ⟨rfl, by omega, by omega, hno, hend⟩))⟩, (pif_pos (by unfold tBad; dsimp only; omega)).mpr rfl⟩, rfl, xFr_g (xFr_g hfr (by decide)) (by decide), rfl, rfl, (by decide : (0 : Int32) < 1)⟩⟩
    · refine gT_n 4 ?_
      refine ⟨rfl, rfl, gTM.use (m_must1 (c := 1)) (Nat.le_refl _) (fun r u hq => ?_)⟩
      obtain ⟨xx, rfl, rfl⟩ := hq  -- X12_must[R171, K1, K1]
      refine gT_n 3 ?_
      refine ⟨rfl, ?_⟩
      exact ⟨rfl, Or.inr ⟨(s, e, 2), X, ⟨(s, e, 2), ⟨hsp, (pif_pos (c := s < n) hsn).mpr ((pif_neg (c := 97 ≤ b s ∧ b s ≤ 122) (by omega)).mpr ((pif_pos (c := 48 ≤ b s ∧ b s ≤ 57) hcl).mpr ⟨rfl, by omega, by omega, hno, hend⟩))⟩, (pif_neg (by unfold tBad; dsimp only; omega)).mpr rfl⟩, rfl, hfr, h19, h21, h22, h23, h24.trans (congrArg nI (nv_n (b := b) (q := (s, e, 2)) (by show s < e; omega) (by show e - s ≤ 2; omega)))⟩⟩
