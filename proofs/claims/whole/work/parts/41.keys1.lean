/-! keys and digests of a zone: rows of at most three -/
def khas (l : zK) (k : Int32) : Prop := match l with
  | [] => False
  | [a] => a.1 = k
  | [a, b] => a.1 = k ∨ b.1 = k
  | [a, b, c] => a.1 = k ∨ b.1 = k ∨ c.1 = k
  | _ => False
/-- since when -/
def ksin (l : zK) (k : Int32) : Int32 := match l with
  | [a] => a.2
  | [a, b] => if a.1 = k then a.2 else b.2
  | [a, b, c] => if a.1 = k then a.2 else if b.1 = k then b.2 else c.2
  | _ => 0
def kins (l : zK) (k c : Int32) : zK := match l with
  | [] => [(k, c)]
  | [a] => if k < a.1 then [(k, c), a] else [a, (k, c)]
  | [a, b] => if k < b.1 then (if k < a.1 then [(k, c), a, b] else [a, (k, c), b]) else [a, b, (k, c)]
  | l => l
def kdel (l : zK) (k : Int32) : zK := match l with
  | [a] => if a.1 = k then [] else [a]
  | [a, b] => if a.1 = k then [b] else if b.1 = k then [a] else [a, b]
  | [a, b, c] => if a.1 = k then [b, c] else if b.1 = k then [a, c] else if c.1 = k then [a, b] else [a, b, c]
  | l => l
theorem zK3 {l : zK} (h : l.length ≤ 3) : l = [] ∨ (∃ a1 a2, l = [(a1, a2)]) ∨ (∃ a1 a2 b1 b2, l = [(a1, a2), (b1, b2)]) ∨ ∃ a1 a2 b1 b2 c1 c2, l = [(a1, a2), (b1, b2), (c1, c2)] := by
  match l, h with
  | [], _ => exact Or.inl rfl
  | [(a1, a2)], _ => exact Or.inr (Or.inl ⟨_, _, rfl⟩)
  | [(a1, a2), (b1, b2)], _ => exact Or.inr (Or.inr (Or.inl ⟨_, _, _, _, rfl⟩))
  | [(a1, a2), (b1, b2), (c1, c2)], _ => exact Or.inr (Or.inr (Or.inr ⟨_, _, _, _, _, _, rfl⟩))
  | _ :: _ :: _ :: _ :: _, h => simp at h
theorem zK2 {l : zK} (h : l.length ≤ 2) : l = [] ∨ (∃ a1 a2, l = [(a1, a2)]) ∨ ∃ a1 a2 b1 b2, l = [(a1, a2), (b1, b2)] := by
  match l, h with
  | [], _ => exact Or.inl rfl
  | [(a1, a2)], _ => exact Or.inr (Or.inl ⟨_, _, rfl⟩)
  | [(a1, a2), (b1, b2)], _ => exact Or.inr (Or.inr ⟨_, _, _, _, rfl⟩)
  | _ :: _ :: _ :: _, h => simp at h
def kup (f : Nat → zK) (n : Nat) (l : zK) : Nat → zK := fun i => cond (Nat.beq i n) l (f i)
def aup (f : Nat → Int32) (n : Nat) (x : Int32) : Nat → Int32 := fun i => cond (Nat.beq i n) x (f i)
theorem kup_len {f : Nat → zK} {n m : Nat} {l : zK} (h : ∀ z, z < 4 → (f z).length ≤ m) (hl : l.length ≤ m) : ∀ z, z < 4 → (kup f n l z).length ≤ m := by
  intro z hz
  unfold kup
  cases Nat.beq z n
  · exact h z hz
  · exact hl
theorem inZ4 {n : Nat} {z : Int32} (h4 : n ≤ 4) (h : inZ n z) : (z = 0 ∧ 0 < n) ∨ (z = 1 ∧ 1 < n) ∨ (z = 2 ∧ 2 < n) ∨ (z = 3 ∧ 3 < n) := by
  obtain ⟨k, hk, rfl⟩ := h
  have : k = 0 ∨ k = 1 ∨ k = 2 ∨ k = 3 := by omega
  rcases this with rfl | rfl | rfl | rfl
  · exact Or.inl ⟨rfl, hk⟩
  · exact Or.inr (Or.inl ⟨rfl, hk⟩)
  · exact Or.inr (Or.inr (Or.inl ⟨rfl, hk⟩))
  · exact Or.inr (Or.inr (Or.inr ⟨rfl, hk⟩))
/-! a row of keys anywhere -/
theorem gT_top {d y pc : Nat} {L : gL} {v v' : Value} {st : List Value} {cu : Nat × Nat} {w : gW} {Q : Option Value → gW → Prop} (e : v = v') (h : gT d y pc L (v' :: st) cu w Q) : gT d y pc L (v :: st) cu w Q := by
  rw [e]; exact h
theorem pk_inS {j : Int32} {k m : Nat} {x : Nat} (hl : x = m) (hk : k < m) (e : j = nI k) (hm : m < 2 ^ 31 := by decide) : vp_in j x := by
  rw [hl]; exact pk_in k m hk e hm
def kRow (P : Nat → Nat) (b : Nat) : Prop := SH[b]? = some (.inl 2) ∧ SH[b + 1]? = some (.inr (0, 3)) ∧ SH[b + 2]? = some (.inr (0, 3)) ∧ gRf P b 0 = some (b + 1) ∧ gRf P b 1 = some (b + 2)
section
variable {P : Nat → Nat} {b : Nat} {I : Nat → Nat → Int32} {J : Nat → Nat → Int64}
theorem kRow.ob (h : kRow P b) : gob (gST I J P) b = some 2 := by
  show (match SH[b]? with | some (.inl c) => some c | _ => none) = some 2
  rw [h.1]
theorem kRow.ar1 (h : kRow P b) : gar (gST I J P) (b + 1) = some 0 := by
  unfold gar
  rw [show (gST I J P).1[b + 1]? = some (.inr (0, 3)) from h.2.1]
theorem kRow.ar2 (h : kRow P b) : gar (gST I J P) (b + 2) = some 0 := by
  unfold gar
  rw [show (gST I J P).1[b + 2]? = some (.inr (0, 3)) from h.2.2.1]
theorem kRow.ln1 (h : kRow P b) : gln (gST I J P) (b + 1) = 3 := by
  unfold gln
  rw [show (gST I J P).1[b + 1]? = some (.inr (0, 3)) from h.2.1]
theorem kRow.ln2 (h : kRow P b) : gln (gST I J P) (b + 2) = 3 := by
  unfold gln
  rw [show (gST I J P).1[b + 2]? = some (.inr (0, 3)) from h.2.2.1]
theorem kRow.v0 (h : kRow P b) : gval (gST I J P) b 2 0 = .ref (b + 1) := by
  show va_rf (gRf P b 0) = _
  rw [h.2.2.2.1]; rfl
theorem kRow.v1 (h : kRow P b) : gval (gST I J P) b 2 1 = .ref (b + 2) := by
  show va_rf (gRf P b 1) = _
  rw [h.2.2.2.2]; rfl
end
def kset (I : Nat → Nat → Int32) (b : Nat) (n : Int32) (f g : Nat → Int32) : Nat → Nat → Int32 := fun a => cond (Nat.beq a b) (upd (I b) 2 n) (cond (Nat.beq a (b + 1)) f (cond (Nat.beq a (b + 2)) g (I a)))
theorem beq_ne {a b : Nat} (h : ¬ a = b) : Nat.beq a b = false := by
  cases e : Nat.beq a b
  · rfl
  · exact absurd (Nat.eq_of_beq_eq_true e) h
section
variable {b : Nat} {n x : Int32} {f g : Nat → Int32} {I : Nat → Nat → Int32} {J : Nat → Nat → Int64} {P : Nat → Nat}
theorem ks_b : kset I b n f g b = upd (I b) 2 n := by
  show cond (Nat.beq b b) _ _ = _
  rw [Nat.beq_refl]; rfl
theorem ks_0 : kset I b n f g b 2 = n := by
  rw [ks_b]; rfl
theorem ks_f : kset I b n f g (b + 1) = f := by
  show cond (Nat.beq (b + 1) b) _ (cond (Nat.beq (b + 1) (b + 1)) _ _) = _
  rw [beq_ne (by omega), Nat.beq_refl]; rfl
theorem ks_g : kset I b n f g (b + 2) = g := by
  show cond (Nat.beq (b + 2) b) _ (cond (Nat.beq (b + 2) (b + 1)) _ (cond (Nat.beq (b + 2) (b + 2)) _ _)) = _
  rw [beq_ne (by omega), beq_ne (by omega), Nat.beq_refl]; rfl
theorem ks_1 (i : Nat) : kset I b n f g (b + 1) i = f i := by rw [ks_f]
theorem ks_2 (i : Nat) : kset I b n f g (b + 2) i = g i := by rw [ks_g]
theorem ks_self : kset I b (I b 2) (I (b + 1)) (I (b + 2)) = I := by
  funext a
  by_cases h0 : a = b
  · subst h0
    rw [ks_b]
    funext j
    show (if j = 2 then I a 2 else I a j) = I a j
    split
    · rename_i h; rw [h]
    · rfl
  · by_cases h1 : a = b + 1
    · subst h1; exact ks_f
    · by_cases h2 : a = b + 2
      · subst h2; exact ks_g
      · show cond (Nat.beq a b) _ (cond (Nat.beq a (b + 1)) _ (cond (Nat.beq a (b + 2)) _ _)) = _
        rw [beq_ne h0, beq_ne h1, beq_ne h2]; rfl
theorem gup_ks0 : gupI (kset I b n f g) b 2 x = kset I b x f g := by
  funext a
  show (if a = b then upd (kset I b n f g b) 2 x else kset I b n f g a) = _
  by_cases h0 : a = b
  · subst h0
    rw [if_pos rfl, ks_b, ks_b]
    funext j
    show (if j = 2 then x else if j = 2 then n else I a j) = if j = 2 then x else I a j
    by_cases hj : j = 2
    · rw [if_pos hj, if_pos hj]
    · rw [if_neg hj, if_neg hj, if_neg hj]
  · rw [if_neg h0]
    show cond (Nat.beq a b) _ _ = cond (Nat.beq a b) _ _
    rw [beq_ne h0]; rfl
theorem gup_ks1 {k : Nat} : gupI (kset I b n f g) (b + 1) k x = kset I b n (upd f k x) g := by
  funext a
  show (if a = b + 1 then upd (kset I b n f g (b + 1)) k x else kset I b n f g a) = _
  by_cases h0 : a = b + 1
  · subst h0
    rw [if_pos rfl, ks_f, ks_f]
  · rw [if_neg h0]
    show cond (Nat.beq a b) _ (cond (Nat.beq a (b + 1)) _ _) = cond (Nat.beq a b) _ (cond (Nat.beq a (b + 1)) _ _)
    rw [beq_ne h0]; rfl
theorem gup_ks2 {k : Nat} : gupI (kset I b n f g) (b + 2) k x = kset I b n f (upd g k x) := by
  funext a
  show (if a = b + 2 then upd (kset I b n f g (b + 2)) k x else kset I b n f g a) = _
  by_cases h0 : a = b + 2
  · subst h0
    rw [if_pos rfl, ks_g, ks_g]
  · rw [if_neg h0]
    show cond (Nat.beq a b) _ (cond (Nat.beq a (b + 1)) _ (cond (Nat.beq a (b + 2)) _ _)) = cond (Nat.beq a b) _ (cond (Nat.beq a (b + 1)) _ (cond (Nat.beq a (b + 2)) _ _))
    rw [beq_ne h0]; rfl
theorem gT_ks0 {X : Int32} {d y pc : Nat} {L : gL} {st : List Value} {cu : Nat × Nat} {Q : Option Value → gW → Prop} (ev : x = X) (h : gT d y pc L st cu (gST (kset I b X f g) J P) Q) : gT d y pc L st cu ((gST (kset I b n f g) J P).1, gupI (gST (kset I b n f g) J P).2.1 b 2 x, (gST (kset I b n f g) J P).2.2) Q := by
  subst ev
  show gT d y pc L st cu (gST (gupI (kset I b n f g) b 2 x) J P) Q
  rw [gup_ks0]; exact h
theorem gT_ks1 {X : Int32} {d y pc : Nat} {L : gL} {st : List Value} {cu : Nat × Nat} {T : Int32} {Q : Option Value → gW → Prop} {k : Nat} (e : T = nI k) (hk : k < 2 ^ 31) (ev : x = X) (h : gT d y pc L st cu (gST (kset I b n (upd f k X) g) J P) Q) : gT d y pc L st cu ((gST (kset I b n f g) J P).1, gupI (gST (kset I b n f g) J P).2.1 (b + 1) T.toNatClampNeg x, (gST (kset I b n f g) J P).2.2) Q := by
  subst ev
  rw [e, nI_clamp hk]
  show gT d y pc L st cu (gST (gupI (kset I b n f g) (b + 1) k x) J P) Q
  rw [gup_ks1]; exact h
theorem gT_ks2 {X : Int32} {d y pc : Nat} {L : gL} {st : List Value} {cu : Nat × Nat} {T : Int32} {Q : Option Value → gW → Prop} {k : Nat} (e : T = nI k) (hk : k < 2 ^ 31) (ev : x = X) (h : gT d y pc L st cu (gST (kset I b n f (upd g k X)) J P) Q) : gT d y pc L st cu ((gST (kset I b n f g) J P).1, gupI (gST (kset I b n f g) J P).2.1 (b + 2) T.toNatClampNeg x, (gST (kset I b n f g) J P).2.2) Q := by
  subst ev
  rw [e, nI_clamp hk]
  show gT d y pc L st cu (gST (gupI (kset I b n f g) (b + 2) k x) J P) Q
  rw [gup_ks2]; exact h
end
theorem cK_eq {n : Int32} {f g : Nat → Int32} {l l' : zK} (e : l = l') (h : cK n f g l') : cK n f g l := by
  rw [e]; exact h
theorem kRow_out {P : Nat → Nat} {z : Nat} (hz : z < 4) : kRow P (34 + 6 * z) ∧ gRf P 22 z = some (34 + 6 * z) := by
  have : z = 0 ∨ z = 1 ∨ z = 2 ∨ z = 3 := by omega
  rcases this with rfl | rfl | rfl | rfl <;> exact ⟨⟨rfl, rfl, rfl, rfl, rfl⟩, rfl⟩
theorem kRow_dig {P : Nat → Nat} {z : Nat} (hz : z < 4) : kRow P (37 + 6 * z) ∧ gRf P 23 z = some (37 + 6 * z) := by
  have : z = 0 ∨ z = 1 ∨ z = 2 ∨ z = 3 := by omega
  rcases this with rfl | rfl | rfl | rfl <;> exact ⟨⟨rfl, rfl, rfl, rfl, rfl⟩, rfl⟩
theorem c_khas {d b : Nat} {k : Int32} {l : zK} {I : Nat → Nat → Int32} {J : Nat → Nat → Int64} {P : Nat → Nat} (hb : kRow P b) (hl : l.length ≤ 3) (hK : cK (I b 2) (I (b + 1)) (I (b + 2)) l) : gTM (d + 1) 24 [.ref b, .int k] (gST I J P) (gB (gST I J P) (khas l k)) := by
  rcases zK3 hl with rfl | ⟨a1, a2, rfl⟩ | ⟨a1, a2, b1, b2, rfl⟩ | ⟨a1, a2, b1, b2, c1, c2, rfl⟩
  · refine gT_n 3 ?_
    refine ⟨hb.ob, rfl, ?_⟩
    refine gT_n 6 ?_
    refine ⟨hb.ob, fun _ => ?_, fun c => absurd (kpT (p := fun z : Int32 => z ≤ 0) (show _ = (0 : Int32) from hK.1) (by decide)) c⟩
    refine gT_n 2 ?_
    show gT _ 24 5 _ _ _ _ _
    refine gT_n 1 ?_
    refine ⟨fun _ => ?_, fun c => absurd (by decide) c⟩
    refine gT_n 2 ?_
    refine ⟨(Or.inl rfl), ?_⟩
    exact ⟨rfl, Or.inr ⟨rfl, id⟩⟩
  · refine gT_n 3 ?_
    refine ⟨hb.ob, rfl, ?_⟩
    refine gT_n 6 ?_
    refine ⟨hb.ob, fun c => absurd c (kpT (p := fun z : Int32 => ¬ (z ≤ 0)) (show _ = (1 : Int32) from hK.1) (by decide)), fun _ => ?_⟩
    refine gT_n 2 ?_
    refine ⟨hb.ob, ?_⟩
    refine gT_top (hb.v0) ?_
    refine gT_n 4 ?_
    refine ⟨hb.ar1, (pk_inS (m := 3) (k := 0) (hb.ln1) (by decide) (rfl)), px_ne (X := a1) (Y := k) (hK.2.1.1) (rfl) (fun κ1 => ?_) (fun κ1 => ?_)⟩
    · refine gT_n 6 ?_
      refine ⟨hb.ob, fun _ => ?_, fun c => absurd (kpT (p := fun z : Int32 => z ≤ 1) (show _ = (1 : Int32) from hK.1) (by decide)) c⟩
      refine gT_n 2 ?_
      show gT _ 24 5 _ _ _ _ _
      refine gT_n 1 ?_
      refine ⟨fun _ => ?_, fun c => absurd (by decide) c⟩
      refine gT_n 2 ?_
      refine ⟨(Or.inl rfl), ?_⟩
      exact ⟨rfl, Or.inr ⟨rfl, κ1⟩⟩
    · refine gT_n 2 ?_
      show gT _ 24 5 _ _ _ _ _
      refine gT_n 1 ?_
      refine ⟨fun c => absurd c (by decide), fun _ => ?_⟩
      refine gT_n 3 ?_
      refine ⟨(Or.inr rfl), ?_⟩
      exact ⟨rfl, Or.inl ⟨rfl, κ1⟩⟩
  · refine gT_n 3 ?_
    refine ⟨hb.ob, rfl, ?_⟩
    refine gT_n 6 ?_
    refine ⟨hb.ob, fun c => absurd c (kpT (p := fun z : Int32 => ¬ (z ≤ 0)) (show _ = (2 : Int32) from hK.1) (by decide)), fun _ => ?_⟩
    refine gT_n 2 ?_
    refine ⟨hb.ob, ?_⟩
    refine gT_top (hb.v0) ?_
    refine gT_n 4 ?_
    refine ⟨hb.ar1, (pk_inS (m := 3) (k := 0) (hb.ln1) (by decide) (rfl)), px_ne (X := a1) (Y := k) (hK.2.1.1) (rfl) (fun κ1 => ?_) (fun κ1 => ?_)⟩
    · refine gT_n 6 ?_
      refine ⟨hb.ob, fun c => absurd c (kpT (p := fun z : Int32 => ¬ (z ≤ 1)) (show _ = (2 : Int32) from hK.1) (by decide)), fun _ => ?_⟩
      refine gT_n 2 ?_
      refine ⟨hb.ob, ?_⟩
      refine gT_top (hb.v0) ?_
      refine gT_n 4 ?_
      refine ⟨hb.ar1, (pk_inS (m := 3) (k := 1) (hb.ln1) (by decide) (rfl)), px_ne (X := b1) (Y := k) (hK.2.1.2.1) (rfl) (fun κ2 => ?_) (fun κ2 => ?_)⟩
      · refine gT_n 6 ?_
        refine ⟨hb.ob, fun _ => ?_, fun c => absurd (kpT (p := fun z : Int32 => z ≤ 2) (show _ = (2 : Int32) from hK.1) (by decide)) c⟩
        refine gT_n 2 ?_
        show gT _ 24 5 _ _ _ _ _
        refine gT_n 1 ?_
        refine ⟨fun _ => ?_, fun c => absurd (by decide) c⟩
        refine gT_n 2 ?_
        refine ⟨(Or.inl rfl), ?_⟩
        exact ⟨rfl, Or.inr ⟨rfl, (fun z => Or.elim z κ1 κ2)⟩⟩
      · refine gT_n 2 ?_
        show gT _ 24 5 _ _ _ _ _
        refine gT_n 1 ?_
        refine ⟨fun c => absurd c (by decide), fun _ => ?_⟩
        refine gT_n 3 ?_
        refine ⟨(Or.inr rfl), ?_⟩
        exact ⟨rfl, Or.inl ⟨rfl, (Or.inr (κ2))⟩⟩
    · refine gT_n 2 ?_
      show gT _ 24 5 _ _ _ _ _
      refine gT_n 1 ?_
      refine ⟨fun c => absurd c (by decide), fun _ => ?_⟩
      refine gT_n 3 ?_
      refine ⟨(Or.inr rfl), ?_⟩
      exact ⟨rfl, Or.inl ⟨rfl, (Or.inl κ1)⟩⟩
  · refine gT_n 3 ?_
    refine ⟨hb.ob, rfl, ?_⟩
    refine gT_n 6 ?_
    refine ⟨hb.ob, fun c => absurd c (kpT (p := fun z : Int32 => ¬ (z ≤ 0)) (show _ = (3 : Int32) from hK.1) (by decide)), fun _ => ?_⟩
    refine gT_n 2 ?_
    refine ⟨hb.ob, ?_⟩
    refine gT_top (hb.v0) ?_
    refine gT_n 4 ?_
    refine ⟨hb.ar1, (pk_inS (m := 3) (k := 0) (hb.ln1) (by decide) (rfl)), px_ne (X := a1) (Y := k) (hK.2.1.1) (rfl) (fun κ1 => ?_) (fun κ1 => ?_)⟩
    · refine gT_n 6 ?_
      refine ⟨hb.ob, fun c => absurd c (kpT (p := fun z : Int32 => ¬ (z ≤ 1)) (show _ = (3 : Int32) from hK.1) (by decide)), fun _ => ?_⟩
      refine gT_n 2 ?_
      refine ⟨hb.ob, ?_⟩
      refine gT_top (hb.v0) ?_
      refine gT_n 4 ?_
      refine ⟨hb.ar1, (pk_inS (m := 3) (k := 1) (hb.ln1) (by decide) (rfl)), px_ne (X := b1) (Y := k) (hK.2.1.2.1) (rfl) (fun κ2 => ?_) (fun κ2 => ?_)⟩
      · refine gT_n 6 ?_
        refine ⟨hb.ob, fun c => absurd c (kpT (p := fun z : Int32 => ¬ (z ≤ 2)) (show _ = (3 : Int32) from hK.1) (by decide)), fun _ => ?_⟩
        refine gT_n 2 ?_
        refine ⟨hb.ob, ?_⟩
        refine gT_top (hb.v0) ?_
        refine gT_n 4 ?_
        refine ⟨hb.ar1, (pk_inS (m := 3) (k := 2) (hb.ln1) (by decide) (rfl)), px_ne (X := c1) (Y := k) (hK.2.1.2.2) (rfl) (fun κ3 => ?_) (fun κ3 => ?_)⟩
        · refine gT_n 6 ?_
          refine ⟨hb.ob, fun _ => ?_, fun c => absurd (kpT (p := fun z : Int32 => z ≤ 3) (show _ = (3 : Int32) from hK.1) (by decide)) c⟩
          refine gT_n 2 ?_
          show gT _ 24 5 _ _ _ _ _
          refine gT_n 1 ?_
          refine ⟨fun _ => ?_, fun c => absurd (by decide) c⟩
          refine gT_n 2 ?_
          refine ⟨(Or.inl rfl), ?_⟩
          exact ⟨rfl, Or.inr ⟨rfl, (fun z => Or.elim z κ1 (fun z => Or.elim z κ2 κ3))⟩⟩
        · refine gT_n 2 ?_
          show gT _ 24 5 _ _ _ _ _
          refine gT_n 1 ?_
          refine ⟨fun c => absurd c (by decide), fun _ => ?_⟩
          refine gT_n 3 ?_
          refine ⟨(Or.inr rfl), ?_⟩
          exact ⟨rfl, Or.inl ⟨rfl, (Or.inr (Or.inr (κ3)))⟩⟩
      · refine gT_n 2 ?_
        show gT _ 24 5 _ _ _ _ _
        refine gT_n 1 ?_
        refine ⟨fun c => absurd c (by decide), fun _ => ?_⟩
        refine gT_n 3 ?_
        refine ⟨(Or.inr rfl), ?_⟩
        exact ⟨rfl, Or.inl ⟨rfl, (Or.inr (Or.inl κ2))⟩⟩
    · refine gT_n 2 ?_
      show gT _ 24 5 _ _ _ _ _
      refine gT_n 1 ?_
      refine ⟨fun c => absurd c (by decide), fun _ => ?_⟩
      refine gT_n 3 ?_
      refine ⟨(Or.inr rfl), ?_⟩
      exact ⟨rfl, Or.inl ⟨rfl, (Or.inl κ1)⟩⟩
theorem c_kage {d b : Nat} {k ck : Int32} {l : zK} {I : Nat → Nat → Int32} {J : Nat → Nat → Int64} {P : Nat → Nat} (hb : kRow P b) (hl : l.length ≤ 3) (hK : cK (I b 2) (I (b + 1)) (I (b + 2)) l) (hk : khas l k) : gTM (d + 1) 25 [.ref b, .int k, .int ck] (gST I J P) (fun r u => u = gST I J P ∧ r = some (.int (ck - ksin l k))) := by
  rcases zK3 hl with rfl | ⟨a1, a2, rfl⟩ | ⟨a1, a2, b1, b2, rfl⟩ | ⟨a1, a2, b1, b2, c1, c2, rfl⟩
  · exact hk.elim
  · refine gT_n 3 ?_
    refine ⟨hb.ob, rfl, ?_⟩
    refine gT_n 6 ?_
    refine ⟨hb.ob, fun c => absurd c (kpT (p := fun z : Int32 => ¬ (z ≤ 0)) (show _ = (1 : Int32) from hK.1) (by decide)), fun _ => ?_⟩
    refine gT_n 2 ?_
    refine ⟨hb.ob, ?_⟩
    refine gT_top (hb.v0) ?_
    refine gT_n 4 ?_
    refine ⟨hb.ar1, (pk_inS (m := 3) (k := 0) (hb.ln1) (by decide) (rfl)), px_ne (X := a1) (Y := k) (hK.2.1.1) (rfl) (fun κ1 => ?_) (fun κ1 => ?_)⟩
    · refine gT_n 6 ?_
      refine ⟨hb.ob, fun _ => ?_, fun c => absurd (kpT (p := fun z : Int32 => z ≤ 1) (show _ = (1 : Int32) from hK.1) (by decide)) c⟩
      refine gT_n 2 ?_
      show gT _ 25 5 _ _ _ _ _
      refine gT_n 3 ?_
      refine ⟨fun c => absurd c (by decide), fun _ => ?_⟩
      refine gT_n 3 ?_
      exact absurd hk κ1
    · refine gT_n 2 ?_
      show gT _ 25 5 _ _ _ _ _
      refine gT_n 3 ?_
      refine ⟨fun _ => ?_, fun c => absurd (by decide) c⟩
      refine gT_n 3 ?_
      refine ⟨hb.ob, ?_⟩
      refine gT_top (hb.v1) ?_
      refine gT_n 4 ?_
      refine ⟨hb.ar2, (pk_inS (m := 3) (k := 0) (hb.ln2) (by decide) (rfl)), ?_⟩
      exact ⟨rfl, ri (congrArg (ck - ·) ((hK.2.2.1).trans (Eq.symm (rfl))))⟩
  · refine gT_n 3 ?_
    refine ⟨hb.ob, rfl, ?_⟩
    refine gT_n 6 ?_
    refine ⟨hb.ob, fun c => absurd c (kpT (p := fun z : Int32 => ¬ (z ≤ 0)) (show _ = (2 : Int32) from hK.1) (by decide)), fun _ => ?_⟩
    refine gT_n 2 ?_
    refine ⟨hb.ob, ?_⟩
    refine gT_top (hb.v0) ?_
    refine gT_n 4 ?_
    refine ⟨hb.ar1, (pk_inS (m := 3) (k := 0) (hb.ln1) (by decide) (rfl)), px_ne (X := a1) (Y := k) (hK.2.1.1) (rfl) (fun κ1 => ?_) (fun κ1 => ?_)⟩
    · refine gT_n 6 ?_
      refine ⟨hb.ob, fun c => absurd c (kpT (p := fun z : Int32 => ¬ (z ≤ 1)) (show _ = (2 : Int32) from hK.1) (by decide)), fun _ => ?_⟩
      refine gT_n 2 ?_
      refine ⟨hb.ob, ?_⟩
      refine gT_top (hb.v0) ?_
      refine gT_n 4 ?_
      refine ⟨hb.ar1, (pk_inS (m := 3) (k := 1) (hb.ln1) (by decide) (rfl)), px_ne (X := b1) (Y := k) (hK.2.1.2.1) (rfl) (fun κ2 => ?_) (fun κ2 => ?_)⟩
      · refine gT_n 6 ?_
        refine ⟨hb.ob, fun _ => ?_, fun c => absurd (kpT (p := fun z : Int32 => z ≤ 2) (show _ = (2 : Int32) from hK.1) (by decide)) c⟩
        refine gT_n 2 ?_
        show gT _ 25 5 _ _ _ _ _
        refine gT_n 3 ?_
        refine ⟨fun c => absurd c (by decide), fun _ => ?_⟩
        refine gT_n 3 ?_
        exact absurd hk (fun z => Or.elim z κ1 κ2)
      · refine gT_n 2 ?_
        show gT _ 25 5 _ _ _ _ _
        refine gT_n 3 ?_
        refine ⟨fun _ => ?_, fun c => absurd (by decide) c⟩
        refine gT_n 3 ?_
        refine ⟨hb.ob, ?_⟩
        refine gT_top (hb.v1) ?_
        refine gT_n 4 ?_
        refine ⟨hb.ar2, (pk_inS (m := 3) (k := 1) (hb.ln2) (by decide) (rfl)), ?_⟩
        exact ⟨rfl, ri (congrArg (ck - ·) ((hK.2.2.2.1).trans (Eq.symm (if_neg κ1))))⟩
    · refine gT_n 2 ?_
      show gT _ 25 5 _ _ _ _ _
      refine gT_n 3 ?_
      refine ⟨fun _ => ?_, fun c => absurd (by decide) c⟩
      refine gT_n 3 ?_
      refine ⟨hb.ob, ?_⟩
      refine gT_top (hb.v1) ?_
      refine gT_n 4 ?_
      refine ⟨hb.ar2, (pk_inS (m := 3) (k := 0) (hb.ln2) (by decide) (rfl)), ?_⟩
      exact ⟨rfl, ri (congrArg (ck - ·) ((hK.2.2.1).trans (Eq.symm (if_pos κ1))))⟩
  · refine gT_n 3 ?_
    refine ⟨hb.ob, rfl, ?_⟩
    refine gT_n 6 ?_
    refine ⟨hb.ob, fun c => absurd c (kpT (p := fun z : Int32 => ¬ (z ≤ 0)) (show _ = (3 : Int32) from hK.1) (by decide)), fun _ => ?_⟩
    refine gT_n 2 ?_
    refine ⟨hb.ob, ?_⟩
    refine gT_top (hb.v0) ?_
    refine gT_n 4 ?_
    refine ⟨hb.ar1, (pk_inS (m := 3) (k := 0) (hb.ln1) (by decide) (rfl)), px_ne (X := a1) (Y := k) (hK.2.1.1) (rfl) (fun κ1 => ?_) (fun κ1 => ?_)⟩
    · refine gT_n 6 ?_
      refine ⟨hb.ob, fun c => absurd c (kpT (p := fun z : Int32 => ¬ (z ≤ 1)) (show _ = (3 : Int32) from hK.1) (by decide)), fun _ => ?_⟩
      refine gT_n 2 ?_
      refine ⟨hb.ob, ?_⟩
      refine gT_top (hb.v0) ?_
      refine gT_n 4 ?_
      refine ⟨hb.ar1, (pk_inS (m := 3) (k := 1) (hb.ln1) (by decide) (rfl)), px_ne (X := b1) (Y := k) (hK.2.1.2.1) (rfl) (fun κ2 => ?_) (fun κ2 => ?_)⟩
      · refine gT_n 6 ?_
        refine ⟨hb.ob, fun c => absurd c (kpT (p := fun z : Int32 => ¬ (z ≤ 2)) (show _ = (3 : Int32) from hK.1) (by decide)), fun _ => ?_⟩
        refine gT_n 2 ?_
        refine ⟨hb.ob, ?_⟩
        refine gT_top (hb.v0) ?_
        refine gT_n 4 ?_
        refine ⟨hb.ar1, (pk_inS (m := 3) (k := 2) (hb.ln1) (by decide) (rfl)), px_ne (X := c1) (Y := k) (hK.2.1.2.2) (rfl) (fun κ3 => ?_) (fun κ3 => ?_)⟩
        · refine gT_n 6 ?_
          refine ⟨hb.ob, fun _ => ?_, fun c => absurd (kpT (p := fun z : Int32 => z ≤ 3) (show _ = (3 : Int32) from hK.1) (by decide)) c⟩
          refine gT_n 2 ?_
          show gT _ 25 5 _ _ _ _ _
          refine gT_n 3 ?_
          refine ⟨fun c => absurd c (by decide), fun _ => ?_⟩
          refine gT_n 3 ?_
          exact absurd hk (fun z => Or.elim z κ1 (fun z => Or.elim z κ2 κ3))
        · refine gT_n 2 ?_
          show gT _ 25 5 _ _ _ _ _
          refine gT_n 3 ?_
          refine ⟨fun _ => ?_, fun c => absurd (by decide) c⟩
          refine gT_n 3 ?_
          refine ⟨hb.ob, ?_⟩
          refine gT_top (hb.v1) ?_
          refine gT_n 4 ?_
          refine ⟨hb.ar2, (pk_inS (m := 3) (k := 2) (hb.ln2) (by decide) (rfl)), ?_⟩
          exact ⟨rfl, ri (congrArg (ck - ·) ((hK.2.2.2.2).trans (Eq.symm (Eq.trans (if_neg κ1) (if_neg κ2)))))⟩
      · refine gT_n 2 ?_
        show gT _ 25 5 _ _ _ _ _
        refine gT_n 3 ?_
        refine ⟨fun _ => ?_, fun c => absurd (by decide) c⟩
        refine gT_n 3 ?_
        refine ⟨hb.ob, ?_⟩
        refine gT_top (hb.v1) ?_
        refine gT_n 4 ?_
        refine ⟨hb.ar2, (pk_inS (m := 3) (k := 1) (hb.ln2) (by decide) (rfl)), ?_⟩
        exact ⟨rfl, ri (congrArg (ck - ·) ((hK.2.2.2.1).trans (Eq.symm (Eq.trans (if_neg κ1) (if_pos κ2)))))⟩
    · refine gT_n 2 ?_
      show gT _ 25 5 _ _ _ _ _
      refine gT_n 3 ?_
      refine ⟨fun _ => ?_, fun c => absurd (by decide) c⟩
      refine gT_n 3 ?_
      refine ⟨hb.ob, ?_⟩
      refine gT_top (hb.v1) ?_
      refine gT_n 4 ?_
      refine ⟨hb.ar2, (pk_inS (m := 3) (k := 0) (hb.ln2) (by decide) (rfl)), ?_⟩
      exact ⟨rfl, ri (congrArg (ck - ·) ((hK.2.2.1).trans (Eq.symm (if_pos κ1))))⟩
theorem c_kins0 {d b : Nat} {k c n : Int32} {f g : Nat → Int32} {l : zK} {I : Nat → Nat → Int32} {J : Nat → Nat → Int64} {P : Nat → Nat} (hb : kRow P b) (hl : l.length ≤ 2) (hK : cK n f g l) : gTM (d + 1) 26 [.ref b, .int k, .int c] (gST (kset I b n f g) J P) (fun r u => r = none ∧ ∃ n' f' g', u = gST (kset I b n' f' g') J P ∧ cK n' f' g' (kins l k c)) := by
  rcases zK2 hl with rfl | ⟨a1, a2, rfl⟩ | ⟨a1, a2, b1, b2, rfl⟩
  · refine gT_n 4 ?_
    refine ⟨hb.ob, fun _ => ?_, fun c => absurd (kpT (p := fun z : Int32 => z < 3) (Eq.trans ks_0 ((show _ = (0 : Int32) from hK.1))) (by decide)) c⟩
    refine gT_n 3 ?_
    refine ⟨hb.ob, ?_⟩
    refine gT_k (L := [(3, .int 0), (0, .ref b), (1, .int k), (2, .int c)]) ?_ ⟨(viI ((Eq.trans ks_0 ((show _ = (0 : Int32) from hK.1))))), rfl, rfl, rfl, trivial⟩ rfl
    refine gT_n 2 ?_
    refine ⟨fun _ => ?_, fun c => absurd (by decide) c⟩
    refine gT_n 2 ?_
    refine ⟨hb.ob, ?_⟩
    refine gT_top (hb.v0) ?_
    refine gT_n 3 ?_
    refine ⟨hb.ar1, (pk_inS (m := 3) (k := 0) (hb.ln1) (by decide) (rfl)), ?_⟩
    refine gT_ks1 (k := 0) (X := k) (rfl) (by decide) (rfl) ?_
    refine gT_n 2 ?_
    refine ⟨hb.ob, ?_⟩
    refine gT_top (hb.v1) ?_
    refine gT_n 3 ?_
    refine ⟨hb.ar2, (pk_inS (m := 3) (k := 0) (hb.ln2) (by decide) (rfl)), ?_⟩
    refine gT_ks2 (k := 0) (X := c) (rfl) (by decide) (rfl) ?_
    refine gT_n 6 ?_
    refine ⟨hb.ob, hb.ob, ?_⟩
    refine gT_ks0 (X := 1) ((k2E (f := fun x y : Int32 => x + y) (Eq.trans ks_0 ((show _ = (0 : Int32) from hK.1))) (rfl : _ = (1 : Int32)) (show ((0 : Int32) + 1) = 1 by decide))) ?_
    refine gT_n 1 ?_
    refine ⟨rfl, ?_⟩
    exact ⟨rfl, _, _, _, rfl, cK_eq (l' := [(k, c)]) rfl ⟨rfl, ⟨rfl, hK.2.1.2.1, hK.2.1.2.2⟩, ⟨rfl, hK.2.2.2.1, hK.2.2.2.2⟩⟩⟩
  · refine gT_n 4 ?_
    refine ⟨hb.ob, fun _ => ?_, fun c => absurd (kpT (p := fun z : Int32 => z < 3) (Eq.trans ks_0 ((show _ = (1 : Int32) from hK.1))) (by decide)) c⟩
    refine gT_n 3 ?_
    refine ⟨hb.ob, ?_⟩
    refine gT_k (L := [(3, .int 1), (0, .ref b), (1, .int k), (2, .int c)]) ?_ ⟨(viI ((Eq.trans ks_0 ((show _ = (1 : Int32) from hK.1))))), rfl, rfl, rfl, trivial⟩ rfl
    refine gT_n 2 ?_
    refine ⟨fun c => absurd c (by decide), fun _ => ?_⟩
    refine gT_n 2 ?_
    refine ⟨hb.ob, ?_⟩
    refine gT_top (hb.v0) ?_
    refine gT_n 6 ?_
    refine ⟨hb.ar1, (pk_inS (m := 3) (k := 0) (hb.ln1) (by decide) (rfl)), px_le (X := a1) (Y := k) ((Eq.trans (ks_1 _) (hK.2.1.1))) (rfl) (fun κ1 => ?_) (fun κ1 => ?_)⟩
    · refine gT_n 2 ?_
      refine ⟨hb.ob, ?_⟩
      refine gT_top (hb.v0) ?_
      refine gT_n 3 ?_
      refine ⟨hb.ar1, (pk_inS (m := 3) (k := 1) (hb.ln1) (by decide) (rfl)), ?_⟩
      refine gT_ks1 (k := 1) (X := k) (rfl) (by decide) (rfl) ?_
      refine gT_n 2 ?_
      refine ⟨hb.ob, ?_⟩
      refine gT_top (hb.v1) ?_
      refine gT_n 3 ?_
      refine ⟨hb.ar2, (pk_inS (m := 3) (k := 1) (hb.ln2) (by decide) (rfl)), ?_⟩
      refine gT_ks2 (k := 1) (X := c) (rfl) (by decide) (rfl) ?_
      refine gT_n 6 ?_
      refine ⟨hb.ob, hb.ob, ?_⟩
      refine gT_ks0 (X := 2) ((k2E (f := fun x y : Int32 => x + y) (Eq.trans ks_0 ((show _ = (1 : Int32) from hK.1))) (rfl : _ = (1 : Int32)) (show ((1 : Int32) + 1) = 2 by decide))) ?_
      refine gT_n 1 ?_
      refine ⟨rfl, ?_⟩
      exact ⟨rfl, _, _, _, rfl, cK_eq (l' := [(a1, a2), (k, c)]) (if_neg (Int32.not_lt.mpr κ1)) ⟨rfl, ⟨hK.2.1.1, rfl, hK.2.1.2.2⟩, ⟨hK.2.2.1, rfl, hK.2.2.2.2⟩⟩⟩
    · refine gT_n 2 ?_
      refine ⟨hb.ob, ?_⟩
      refine gT_top (hb.v0) ?_
      refine gT_n 3 ?_
      refine ⟨hb.ob, ?_⟩
      refine gT_top (hb.v0) ?_
      refine gT_n 5 ?_
      refine ⟨hb.ar1, (pk_inS (m := 3) (k := 0) (hb.ln1) (by decide) (rfl)), hb.ar1, (pk_inS (m := 3) (k := 1) (hb.ln1) (by decide) (rfl)), ?_⟩
      refine gT_ks1 (k := 1) (X := a1) (rfl) (by decide) ((Eq.trans (ks_1 _) (hK.2.1.1))) ?_
      refine gT_n 2 ?_
      refine ⟨hb.ob, ?_⟩
      refine gT_top (hb.v1) ?_
      refine gT_n 3 ?_
      refine ⟨hb.ob, ?_⟩
      refine gT_top (hb.v1) ?_
      refine gT_n 5 ?_
      refine ⟨hb.ar2, (pk_inS (m := 3) (k := 0) (hb.ln2) (by decide) (rfl)), hb.ar2, (pk_inS (m := 3) (k := 1) (hb.ln2) (by decide) (rfl)), ?_⟩
      refine gT_ks2 (k := 1) (X := a2) (rfl) (by decide) ((Eq.trans (ks_2 _) (hK.2.2.1))) ?_
      refine gT_n 4 ?_
      refine ⟨fun _ => ?_, fun c => absurd (by decide) c⟩
      refine gT_n 2 ?_
      refine ⟨hb.ob, ?_⟩
      refine gT_top (hb.v0) ?_
      refine gT_n 3 ?_
      refine ⟨hb.ar1, (pk_inS (m := 3) (k := 0) (hb.ln1) (by decide) (rfl)), ?_⟩
      refine gT_ks1 (k := 0) (X := k) (rfl) (by decide) (rfl) ?_
      refine gT_n 2 ?_
      refine ⟨hb.ob, ?_⟩
      refine gT_top (hb.v1) ?_
      refine gT_n 3 ?_
      refine ⟨hb.ar2, (pk_inS (m := 3) (k := 0) (hb.ln2) (by decide) (rfl)), ?_⟩
      refine gT_ks2 (k := 0) (X := c) (rfl) (by decide) (rfl) ?_
      refine gT_n 6 ?_
      refine ⟨hb.ob, hb.ob, ?_⟩
      refine gT_ks0 (X := 2) ((k2E (f := fun x y : Int32 => x + y) (Eq.trans ks_0 ((show _ = (1 : Int32) from hK.1))) (rfl : _ = (1 : Int32)) (show ((1 : Int32) + 1) = 2 by decide))) ?_
      refine gT_n 1 ?_
      refine ⟨rfl, ?_⟩
      exact ⟨rfl, _, _, _, rfl, cK_eq (l' := [(k, c), (a1, a2)]) (if_pos (Int32.not_le.mp κ1)) ⟨rfl, ⟨rfl, rfl, hK.2.1.2.2⟩, ⟨rfl, rfl, hK.2.2.2.2⟩⟩⟩
  · refine gT_n 4 ?_
    refine ⟨hb.ob, fun _ => ?_, fun c => absurd (kpT (p := fun z : Int32 => z < 3) (Eq.trans ks_0 ((show _ = (2 : Int32) from hK.1))) (by decide)) c⟩
    refine gT_n 3 ?_
    refine ⟨hb.ob, ?_⟩
    refine gT_k (L := [(3, .int 2), (0, .ref b), (1, .int k), (2, .int c)]) ?_ ⟨(viI ((Eq.trans ks_0 ((show _ = (2 : Int32) from hK.1))))), rfl, rfl, rfl, trivial⟩ rfl
    refine gT_n 2 ?_
    refine ⟨fun c => absurd c (by decide), fun _ => ?_⟩
    refine gT_n 2 ?_
    refine ⟨hb.ob, ?_⟩
    refine gT_top (hb.v0) ?_
    refine gT_n 6 ?_
    refine ⟨hb.ar1, (pk_inS (m := 3) (k := 1) (hb.ln1) (by decide) (rfl)), px_le (X := b1) (Y := k) ((Eq.trans (ks_1 _) (hK.2.1.2.1))) (rfl) (fun κ1 => ?_) (fun κ1 => ?_)⟩
    · refine gT_n 2 ?_
      refine ⟨hb.ob, ?_⟩
      refine gT_top (hb.v0) ?_
      refine gT_n 3 ?_
      refine ⟨hb.ar1, (pk_inS (m := 3) (k := 2) (hb.ln1) (by decide) (rfl)), ?_⟩
      refine gT_ks1 (k := 2) (X := k) (rfl) (by decide) (rfl) ?_
      refine gT_n 2 ?_
      refine ⟨hb.ob, ?_⟩
      refine gT_top (hb.v1) ?_
      refine gT_n 3 ?_
      refine ⟨hb.ar2, (pk_inS (m := 3) (k := 2) (hb.ln2) (by decide) (rfl)), ?_⟩
      refine gT_ks2 (k := 2) (X := c) (rfl) (by decide) (rfl) ?_
      refine gT_n 6 ?_
      refine ⟨hb.ob, hb.ob, ?_⟩
      refine gT_ks0 (X := 3) ((k2E (f := fun x y : Int32 => x + y) (Eq.trans ks_0 ((show _ = (2 : Int32) from hK.1))) (rfl : _ = (1 : Int32)) (show ((2 : Int32) + 1) = 3 by decide))) ?_
      refine gT_n 1 ?_
      refine ⟨rfl, ?_⟩
      exact ⟨rfl, _, _, _, rfl, cK_eq (l' := [(a1, a2), (b1, b2), (k, c)]) (if_neg (Int32.not_lt.mpr κ1)) ⟨rfl, ⟨hK.2.1.1, hK.2.1.2.1, rfl⟩, ⟨hK.2.2.1, hK.2.2.2.1, rfl⟩⟩⟩
    · refine gT_n 2 ?_
      refine ⟨hb.ob, ?_⟩
      refine gT_top (hb.v0) ?_
      refine gT_n 3 ?_
      refine ⟨hb.ob, ?_⟩
      refine gT_top (hb.v0) ?_
      refine gT_n 5 ?_
      refine ⟨hb.ar1, (pk_inS (m := 3) (k := 1) (hb.ln1) (by decide) (rfl)), hb.ar1, (pk_inS (m := 3) (k := 2) (hb.ln1) (by decide) (rfl)), ?_⟩
      refine gT_ks1 (k := 2) (X := b1) (rfl) (by decide) ((Eq.trans (ks_1 _) (hK.2.1.2.1))) ?_
      refine gT_n 2 ?_
      refine ⟨hb.ob, ?_⟩
      refine gT_top (hb.v1) ?_
      refine gT_n 3 ?_
      refine ⟨hb.ob, ?_⟩
      refine gT_top (hb.v1) ?_
      refine gT_n 5 ?_
      refine ⟨hb.ar2, (pk_inS (m := 3) (k := 1) (hb.ln2) (by decide) (rfl)), hb.ar2, (pk_inS (m := 3) (k := 2) (hb.ln2) (by decide) (rfl)), ?_⟩
      refine gT_ks2 (k := 2) (X := b2) (rfl) (by decide) ((Eq.trans (ks_2 _) (hK.2.2.2.1))) ?_
      refine gT_n 4 ?_
      refine ⟨fun c => absurd c (by decide), fun _ => ?_⟩
      refine gT_n 2 ?_
      refine ⟨hb.ob, ?_⟩
      refine gT_top (hb.v0) ?_
      refine gT_n 6 ?_
      refine ⟨hb.ar1, (pk_inS (m := 3) (k := 0) (hb.ln1) (by decide) (rfl)), px_le (X := a1) (Y := k) ((Eq.trans (ks_1 _) (hK.2.1.1))) (rfl) (fun κ2 => ?_) (fun κ2 => ?_)⟩
      · refine gT_n 2 ?_
        refine ⟨hb.ob, ?_⟩
        refine gT_top (hb.v0) ?_
        refine gT_n 3 ?_
        refine ⟨hb.ar1, (pk_inS (m := 3) (k := 1) (hb.ln1) (by decide) (rfl)), ?_⟩
        refine gT_ks1 (k := 1) (X := k) (rfl) (by decide) (rfl) ?_
        refine gT_n 2 ?_
        refine ⟨hb.ob, ?_⟩
        refine gT_top (hb.v1) ?_
        refine gT_n 3 ?_
        refine ⟨hb.ar2, (pk_inS (m := 3) (k := 1) (hb.ln2) (by decide) (rfl)), ?_⟩
        refine gT_ks2 (k := 1) (X := c) (rfl) (by decide) (rfl) ?_
        refine gT_n 6 ?_
        refine ⟨hb.ob, hb.ob, ?_⟩
        refine gT_ks0 (X := 3) ((k2E (f := fun x y : Int32 => x + y) (Eq.trans ks_0 ((show _ = (2 : Int32) from hK.1))) (rfl : _ = (1 : Int32)) (show ((2 : Int32) + 1) = 3 by decide))) ?_
        refine gT_n 1 ?_
        refine ⟨rfl, ?_⟩
        exact ⟨rfl, _, _, _, rfl, cK_eq (l' := [(a1, a2), (k, c), (b1, b2)]) (Eq.trans (if_pos (Int32.not_le.mp κ1)) (if_neg (Int32.not_lt.mpr κ2))) ⟨rfl, ⟨hK.2.1.1, rfl, rfl⟩, ⟨hK.2.2.1, rfl, rfl⟩⟩⟩
      · refine gT_n 2 ?_
        refine ⟨hb.ob, ?_⟩
        refine gT_top (hb.v0) ?_
        refine gT_n 3 ?_
        refine ⟨hb.ob, ?_⟩
        refine gT_top (hb.v0) ?_
        refine gT_n 5 ?_
        refine ⟨hb.ar1, (pk_inS (m := 3) (k := 0) (hb.ln1) (by decide) (rfl)), hb.ar1, (pk_inS (m := 3) (k := 1) (hb.ln1) (by decide) (rfl)), ?_⟩
        refine gT_ks1 (k := 1) (X := a1) (rfl) (by decide) ((Eq.trans (ks_1 _) (hK.2.1.1))) ?_
        refine gT_n 2 ?_
        refine ⟨hb.ob, ?_⟩
        refine gT_top (hb.v1) ?_
        refine gT_n 3 ?_
        refine ⟨hb.ob, ?_⟩
        refine gT_top (hb.v1) ?_
        refine gT_n 5 ?_
        refine ⟨hb.ar2, (pk_inS (m := 3) (k := 0) (hb.ln2) (by decide) (rfl)), hb.ar2, (pk_inS (m := 3) (k := 1) (hb.ln2) (by decide) (rfl)), ?_⟩
        refine gT_ks2 (k := 1) (X := a2) (rfl) (by decide) ((Eq.trans (ks_2 _) (hK.2.2.1))) ?_
        refine gT_n 4 ?_
        refine ⟨fun _ => ?_, fun c => absurd (by decide) c⟩
        refine gT_n 2 ?_
        refine ⟨hb.ob, ?_⟩
        refine gT_top (hb.v0) ?_
        refine gT_n 3 ?_
        refine ⟨hb.ar1, (pk_inS (m := 3) (k := 0) (hb.ln1) (by decide) (rfl)), ?_⟩
        refine gT_ks1 (k := 0) (X := k) (rfl) (by decide) (rfl) ?_
        refine gT_n 2 ?_
        refine ⟨hb.ob, ?_⟩
        refine gT_top (hb.v1) ?_
        refine gT_n 3 ?_
        refine ⟨hb.ar2, (pk_inS (m := 3) (k := 0) (hb.ln2) (by decide) (rfl)), ?_⟩
        refine gT_ks2 (k := 0) (X := c) (rfl) (by decide) (rfl) ?_
        refine gT_n 6 ?_
        refine ⟨hb.ob, hb.ob, ?_⟩
        refine gT_ks0 (X := 3) ((k2E (f := fun x y : Int32 => x + y) (Eq.trans ks_0 ((show _ = (2 : Int32) from hK.1))) (rfl : _ = (1 : Int32)) (show ((2 : Int32) + 1) = 3 by decide))) ?_
        refine gT_n 1 ?_
        refine ⟨rfl, ?_⟩
        exact ⟨rfl, _, _, _, rfl, cK_eq (l' := [(k, c), (a1, a2), (b1, b2)]) (Eq.trans (if_pos (Int32.not_le.mp κ1)) (if_pos (Int32.not_le.mp κ2))) ⟨rfl, ⟨rfl, rfl, rfl⟩, ⟨rfl, rfl, rfl⟩⟩⟩
theorem c_kins {d b : Nat} {k c : Int32} {l : zK} {I : Nat → Nat → Int32} {J : Nat → Nat → Int64} {P : Nat → Nat} (hb : kRow P b) (hl : l.length ≤ 2) (hK : cK (I b 2) (I (b + 1)) (I (b + 2)) l) : gTM (d + 1) 26 [.ref b, .int k, .int c] (gST I J P) (fun r u => r = none ∧ ∃ n' f' g', u = gST (kset I b n' f' g') J P ∧ cK n' f' g' (kins l k c)) := by
  have h := c_kins0 (d := d) (I := I) (J := J) (k := k) (c := c) hb hl hK
  rw [ks_self] at h
  exact h
theorem c_kdel0 {d b : Nat} {k n : Int32} {f g : Nat → Int32} {l : zK} {I : Nat → Nat → Int32} {J : Nat → Nat → Int64} {P : Nat → Nat} (hb : kRow P b) (hl : l.length ≤ 3) (hK : cK n f g l) (hk : khas l k) : gTM (d + 1) 27 [.ref b, .int k] (gST (kset I b n f g) J P) (fun r u => r = none ∧ ∃ n' f' g', u = gST (kset I b n' f' g') J P ∧ cK n' f' g' (kdel l k)) := by
  rcases zK3 hl with rfl | ⟨a1, a2, rfl⟩ | ⟨a1, a2, b1, b2, rfl⟩ | ⟨a1, a2, b1, b2, c1, c2, rfl⟩
  · exact hk.elim
  · refine gT_n 3 ?_
    refine ⟨hb.ob, rfl, ?_⟩
    refine gT_n 6 ?_
    refine ⟨hb.ob, fun c => absurd c (kpT (p := fun z : Int32 => ¬ (z ≤ 0)) (Eq.trans ks_0 ((show _ = (1 : Int32) from hK.1))) (by decide)), fun _ => ?_⟩
    refine gT_n 2 ?_
    refine ⟨hb.ob, ?_⟩
    refine gT_top (hb.v0) ?_
    refine gT_n 4 ?_
    refine ⟨hb.ar1, (pk_inS (m := 3) (k := 0) (hb.ln1) (by decide) (rfl)), px_ne (X := a1) (Y := k) ((Eq.trans (ks_1 _) (hK.2.1.1))) (rfl) (fun κ1 => ?_) (fun κ1 => ?_)⟩
    · refine gT_n 6 ?_
      refine ⟨hb.ob, fun _ => ?_, fun c => absurd (kpT (p := fun z : Int32 => z ≤ 1) (Eq.trans ks_0 ((show _ = (1 : Int32) from hK.1))) (by decide)) c⟩
      refine gT_n 2 ?_
      show gT _ 27 5 _ _ _ _ _
      refine gT_n 3 ?_
      refine ⟨fun c => absurd c (by decide), fun _ => ?_⟩
      refine gT_n 1 ?_
      refine ⟨rfl, ?_⟩
      exact absurd hk κ1
    · refine gT_n 2 ?_
      show gT _ 27 5 _ _ _ _ _
      refine gT_n 3 ?_
      refine ⟨fun _ => ?_, fun c => absurd (by decide) c⟩
      refine gT_n 6 ?_
      refine ⟨hb.ob, hb.ob, ?_⟩
      refine gT_ks0 (X := 0) ((k2E (f := fun x y : Int32 => x - y) (Eq.trans ks_0 ((show _ = (1 : Int32) from hK.1))) (rfl : _ = (1 : Int32)) (show ((1 : Int32) - 1) = 0 by decide))) ?_
      refine gT_n 6 ?_
      refine ⟨hb.ob, fun _ => ?_, fun c => absurd (kpT (p := fun z : Int32 => z ≤ 0) (Eq.trans ks_0 (show _ = 0 from rfl)) (by decide)) c⟩
      refine gT_n 2 ?_
      refine ⟨hb.ob, ?_⟩
      refine gT_top (hb.v0) ?_
      refine gT_n 4 ?_
      refine ⟨hb.ob, hb.ar1, (pk_inS (m := 3) (k := 0) (hb.ln1) (by decide) ((Eq.trans ks_0 (show _ = 0 from rfl)))), ?_⟩
      refine gT_ks1 (k := 0) (X := 0) ((Eq.trans ks_0 (show _ = 0 from rfl))) (by decide) (rfl) ?_
      refine gT_n 2 ?_
      refine ⟨hb.ob, ?_⟩
      refine gT_top (hb.v1) ?_
      refine gT_n 4 ?_
      refine ⟨hb.ob, hb.ar2, (pk_inS (m := 3) (k := 0) (hb.ln2) (by decide) ((Eq.trans ks_0 (show _ = 0 from rfl)))), ?_⟩
      refine gT_ks2 (k := 0) (X := 0) ((Eq.trans ks_0 (show _ = 0 from rfl))) (by decide) (rfl) ?_
      refine gT_n 1 ?_
      refine ⟨rfl, ?_⟩
      exact ⟨rfl, _, _, _, rfl, cK_eq (l' := []) (if_pos κ1) ⟨rfl, ⟨rfl, hK.2.1.2.1, hK.2.1.2.2⟩, ⟨rfl, hK.2.2.2.1, hK.2.2.2.2⟩⟩⟩
  · refine gT_n 3 ?_
    refine ⟨hb.ob, rfl, ?_⟩
    refine gT_n 6 ?_
    refine ⟨hb.ob, fun c => absurd c (kpT (p := fun z : Int32 => ¬ (z ≤ 0)) (Eq.trans ks_0 ((show _ = (2 : Int32) from hK.1))) (by decide)), fun _ => ?_⟩
    refine gT_n 2 ?_
    refine ⟨hb.ob, ?_⟩
    refine gT_top (hb.v0) ?_
    refine gT_n 4 ?_
    refine ⟨hb.ar1, (pk_inS (m := 3) (k := 0) (hb.ln1) (by decide) (rfl)), px_ne (X := a1) (Y := k) ((Eq.trans (ks_1 _) (hK.2.1.1))) (rfl) (fun κ1 => ?_) (fun κ1 => ?_)⟩
    · refine gT_n 6 ?_
      refine ⟨hb.ob, fun c => absurd c (kpT (p := fun z : Int32 => ¬ (z ≤ 1)) (Eq.trans ks_0 ((show _ = (2 : Int32) from hK.1))) (by decide)), fun _ => ?_⟩
      refine gT_n 2 ?_
      refine ⟨hb.ob, ?_⟩
      refine gT_top (hb.v0) ?_
      refine gT_n 4 ?_
      refine ⟨hb.ar1, (pk_inS (m := 3) (k := 1) (hb.ln1) (by decide) (rfl)), px_ne (X := b1) (Y := k) ((Eq.trans (ks_1 _) (hK.2.1.2.1))) (rfl) (fun κ2 => ?_) (fun κ2 => ?_)⟩
      · refine gT_n 6 ?_
        refine ⟨hb.ob, fun _ => ?_, fun c => absurd (kpT (p := fun z : Int32 => z ≤ 2) (Eq.trans ks_0 ((show _ = (2 : Int32) from hK.1))) (by decide)) c⟩
        refine gT_n 2 ?_
        show gT _ 27 5 _ _ _ _ _
        refine gT_n 3 ?_
        refine ⟨fun c => absurd c (by decide), fun _ => ?_⟩
        refine gT_n 1 ?_
        refine ⟨rfl, ?_⟩
        exact absurd hk (fun z => Or.elim z κ1 κ2)
      · refine gT_n 2 ?_
        show gT _ 27 5 _ _ _ _ _
        refine gT_n 3 ?_
        refine ⟨fun _ => ?_, fun c => absurd (by decide) c⟩
        refine gT_n 6 ?_
        refine ⟨hb.ob, hb.ob, ?_⟩
        refine gT_ks0 (X := 1) ((k2E (f := fun x y : Int32 => x - y) (Eq.trans ks_0 ((show _ = (2 : Int32) from hK.1))) (rfl : _ = (1 : Int32)) (show ((2 : Int32) - 1) = 1 by decide))) ?_
        refine gT_n 6 ?_
        refine ⟨hb.ob, fun _ => ?_, fun c => absurd (kpT (p := fun z : Int32 => z ≤ 1) (Eq.trans ks_0 (show _ = 1 from rfl)) (by decide)) c⟩
        refine gT_n 2 ?_
        refine ⟨hb.ob, ?_⟩
        refine gT_top (hb.v0) ?_
        refine gT_n 4 ?_
        refine ⟨hb.ob, hb.ar1, (pk_inS (m := 3) (k := 1) (hb.ln1) (by decide) ((Eq.trans ks_0 (show _ = 1 from rfl)))), ?_⟩
        refine gT_ks1 (k := 1) (X := 0) ((Eq.trans ks_0 (show _ = 1 from rfl))) (by decide) (rfl) ?_
        refine gT_n 2 ?_
        refine ⟨hb.ob, ?_⟩
        refine gT_top (hb.v1) ?_
        refine gT_n 4 ?_
        refine ⟨hb.ob, hb.ar2, (pk_inS (m := 3) (k := 1) (hb.ln2) (by decide) ((Eq.trans ks_0 (show _ = 1 from rfl)))), ?_⟩
        refine gT_ks2 (k := 1) (X := 0) ((Eq.trans ks_0 (show _ = 1 from rfl))) (by decide) (rfl) ?_
        refine gT_n 1 ?_
        refine ⟨rfl, ?_⟩
        exact ⟨rfl, _, _, _, rfl, cK_eq (l' := [(a1, a2)]) (Eq.trans (if_neg κ1) (if_pos κ2)) ⟨rfl, ⟨hK.2.1.1, rfl, hK.2.1.2.2⟩, ⟨hK.2.2.1, rfl, hK.2.2.2.2⟩⟩⟩
    · refine gT_n 2 ?_
      show gT _ 27 5 _ _ _ _ _
      refine gT_n 3 ?_
      refine ⟨fun _ => ?_, fun c => absurd (by decide) c⟩
      refine gT_n 6 ?_
      refine ⟨hb.ob, hb.ob, ?_⟩
      refine gT_ks0 (X := 1) ((k2E (f := fun x y : Int32 => x - y) (Eq.trans ks_0 ((show _ = (2 : Int32) from hK.1))) (rfl : _ = (1 : Int32)) (show ((2 : Int32) - 1) = 1 by decide))) ?_
      refine gT_n 6 ?_
      refine ⟨hb.ob, fun c => absurd c (kpT (p := fun z : Int32 => ¬ (z ≤ 0)) (Eq.trans ks_0 (show _ = 1 from rfl)) (by decide)), fun _ => ?_⟩
      refine gT_n 2 ?_
      refine ⟨hb.ob, ?_⟩
      refine gT_top (hb.v0) ?_
      refine gT_n 3 ?_
      refine ⟨hb.ob, ?_⟩
      refine gT_top (hb.v0) ?_
      refine gT_n 5 ?_
      refine ⟨hb.ar1, (pk_inS (m := 3) (k := 1) (hb.ln1) (by decide) (rfl)), hb.ar1, (pk_inS (m := 3) (k := 0) (hb.ln1) (by decide) (rfl)), ?_⟩
      refine gT_ks1 (k := 0) (X := b1) (rfl) (by decide) ((Eq.trans (ks_1 _) (hK.2.1.2.1))) ?_
      refine gT_n 2 ?_
      refine ⟨hb.ob, ?_⟩
      refine gT_top (hb.v1) ?_
      refine gT_n 3 ?_
      refine ⟨hb.ob, ?_⟩
      refine gT_top (hb.v1) ?_
      refine gT_n 5 ?_
      refine ⟨hb.ar2, (pk_inS (m := 3) (k := 1) (hb.ln2) (by decide) (rfl)), hb.ar2, (pk_inS (m := 3) (k := 0) (hb.ln2) (by decide) (rfl)), ?_⟩
      refine gT_ks2 (k := 0) (X := b2) (rfl) (by decide) ((Eq.trans (ks_2 _) (hK.2.2.2.1))) ?_
      refine gT_n 6 ?_
      refine ⟨hb.ob, fun _ => ?_, fun c => absurd (kpT (p := fun z : Int32 => z ≤ 1) (Eq.trans ks_0 (show _ = 1 from rfl)) (by decide)) c⟩
      refine gT_n 2 ?_
      refine ⟨hb.ob, ?_⟩
      refine gT_top (hb.v0) ?_
      refine gT_n 4 ?_
      refine ⟨hb.ob, hb.ar1, (pk_inS (m := 3) (k := 1) (hb.ln1) (by decide) ((Eq.trans ks_0 (show _ = 1 from rfl)))), ?_⟩
      refine gT_ks1 (k := 1) (X := 0) ((Eq.trans ks_0 (show _ = 1 from rfl))) (by decide) (rfl) ?_
      refine gT_n 2 ?_
      refine ⟨hb.ob, ?_⟩
      refine gT_top (hb.v1) ?_
      refine gT_n 4 ?_
      refine ⟨hb.ob, hb.ar2, (pk_inS (m := 3) (k := 1) (hb.ln2) (by decide) ((Eq.trans ks_0 (show _ = 1 from rfl)))), ?_⟩
      refine gT_ks2 (k := 1) (X := 0) ((Eq.trans ks_0 (show _ = 1 from rfl))) (by decide) (rfl) ?_
      refine gT_n 1 ?_
      refine ⟨rfl, ?_⟩
      exact ⟨rfl, _, _, _, rfl, cK_eq (l' := [(b1, b2)]) (if_pos κ1) ⟨rfl, ⟨rfl, rfl, hK.2.1.2.2⟩, ⟨rfl, rfl, hK.2.2.2.2⟩⟩⟩
  · refine gT_n 3 ?_
    refine ⟨hb.ob, rfl, ?_⟩
    refine gT_n 6 ?_
    refine ⟨hb.ob, fun c => absurd c (kpT (p := fun z : Int32 => ¬ (z ≤ 0)) (Eq.trans ks_0 ((show _ = (3 : Int32) from hK.1))) (by decide)), fun _ => ?_⟩
    refine gT_n 2 ?_
    refine ⟨hb.ob, ?_⟩
    refine gT_top (hb.v0) ?_
    refine gT_n 4 ?_
    refine ⟨hb.ar1, (pk_inS (m := 3) (k := 0) (hb.ln1) (by decide) (rfl)), px_ne (X := a1) (Y := k) ((Eq.trans (ks_1 _) (hK.2.1.1))) (rfl) (fun κ1 => ?_) (fun κ1 => ?_)⟩
    · refine gT_n 6 ?_
      refine ⟨hb.ob, fun c => absurd c (kpT (p := fun z : Int32 => ¬ (z ≤ 1)) (Eq.trans ks_0 ((show _ = (3 : Int32) from hK.1))) (by decide)), fun _ => ?_⟩
      refine gT_n 2 ?_
      refine ⟨hb.ob, ?_⟩
      refine gT_top (hb.v0) ?_
      refine gT_n 4 ?_
      refine ⟨hb.ar1, (pk_inS (m := 3) (k := 1) (hb.ln1) (by decide) (rfl)), px_ne (X := b1) (Y := k) ((Eq.trans (ks_1 _) (hK.2.1.2.1))) (rfl) (fun κ2 => ?_) (fun κ2 => ?_)⟩
      · refine gT_n 6 ?_
        refine ⟨hb.ob, fun c => absurd c (kpT (p := fun z : Int32 => ¬ (z ≤ 2)) (Eq.trans ks_0 ((show _ = (3 : Int32) from hK.1))) (by decide)), fun _ => ?_⟩
        refine gT_n 2 ?_
        refine ⟨hb.ob, ?_⟩
        refine gT_top (hb.v0) ?_
        refine gT_n 4 ?_
        refine ⟨hb.ar1, (pk_inS (m := 3) (k := 2) (hb.ln1) (by decide) (rfl)), px_ne (X := c1) (Y := k) ((Eq.trans (ks_1 _) (hK.2.1.2.2))) (rfl) (fun κ3 => ?_) (fun κ3 => ?_)⟩
        · refine gT_n 6 ?_
          refine ⟨hb.ob, fun _ => ?_, fun c => absurd (kpT (p := fun z : Int32 => z ≤ 3) (Eq.trans ks_0 ((show _ = (3 : Int32) from hK.1))) (by decide)) c⟩
          refine gT_n 2 ?_
          show gT _ 27 5 _ _ _ _ _
          refine gT_n 3 ?_
          refine ⟨fun c => absurd c (by decide), fun _ => ?_⟩
          refine gT_n 1 ?_
          refine ⟨rfl, ?_⟩
          exact absurd hk (fun z => Or.elim z κ1 (fun z => Or.elim z κ2 κ3))
        · refine gT_n 2 ?_
          show gT _ 27 5 _ _ _ _ _
          refine gT_n 3 ?_
          refine ⟨fun _ => ?_, fun c => absurd (by decide) c⟩
          refine gT_n 6 ?_
          refine ⟨hb.ob, hb.ob, ?_⟩
          refine gT_ks0 (X := 2) ((k2E (f := fun x y : Int32 => x - y) (Eq.trans ks_0 ((show _ = (3 : Int32) from hK.1))) (rfl : _ = (1 : Int32)) (show ((3 : Int32) - 1) = 2 by decide))) ?_
          refine gT_n 6 ?_
          refine ⟨hb.ob, fun _ => ?_, fun c => absurd (kpT (p := fun z : Int32 => z ≤ 2) (Eq.trans ks_0 (show _ = 2 from rfl)) (by decide)) c⟩
          refine gT_n 2 ?_
          refine ⟨hb.ob, ?_⟩
          refine gT_top (hb.v0) ?_
          refine gT_n 4 ?_
          refine ⟨hb.ob, hb.ar1, (pk_inS (m := 3) (k := 2) (hb.ln1) (by decide) ((Eq.trans ks_0 (show _ = 2 from rfl)))), ?_⟩
          refine gT_ks1 (k := 2) (X := 0) ((Eq.trans ks_0 (show _ = 2 from rfl))) (by decide) (rfl) ?_
          refine gT_n 2 ?_
          refine ⟨hb.ob, ?_⟩
          refine gT_top (hb.v1) ?_
          refine gT_n 4 ?_
          refine ⟨hb.ob, hb.ar2, (pk_inS (m := 3) (k := 2) (hb.ln2) (by decide) ((Eq.trans ks_0 (show _ = 2 from rfl)))), ?_⟩
          refine gT_ks2 (k := 2) (X := 0) ((Eq.trans ks_0 (show _ = 2 from rfl))) (by decide) (rfl) ?_
          refine gT_n 1 ?_
          refine ⟨rfl, ?_⟩
          exact ⟨rfl, _, _, _, rfl, cK_eq (l' := [(a1, a2), (b1, b2)]) (Eq.trans (Eq.trans (if_neg κ1) (if_neg κ2)) (if_pos κ3)) ⟨rfl, ⟨hK.2.1.1, hK.2.1.2.1, rfl⟩, ⟨hK.2.2.1, hK.2.2.2.1, rfl⟩⟩⟩
      · refine gT_n 2 ?_
        show gT _ 27 5 _ _ _ _ _
        refine gT_n 3 ?_
        refine ⟨fun _ => ?_, fun c => absurd (by decide) c⟩
        refine gT_n 6 ?_
        refine ⟨hb.ob, hb.ob, ?_⟩
        refine gT_ks0 (X := 2) ((k2E (f := fun x y : Int32 => x - y) (Eq.trans ks_0 ((show _ = (3 : Int32) from hK.1))) (rfl : _ = (1 : Int32)) (show ((3 : Int32) - 1) = 2 by decide))) ?_
        refine gT_n 6 ?_
        refine ⟨hb.ob, fun c => absurd c (kpT (p := fun z : Int32 => ¬ (z ≤ 1)) (Eq.trans ks_0 (show _ = 2 from rfl)) (by decide)), fun _ => ?_⟩
        refine gT_n 2 ?_
        refine ⟨hb.ob, ?_⟩
        refine gT_top (hb.v0) ?_
        refine gT_n 3 ?_
        refine ⟨hb.ob, ?_⟩
        refine gT_top (hb.v0) ?_
        refine gT_n 5 ?_
        refine ⟨hb.ar1, (pk_inS (m := 3) (k := 2) (hb.ln1) (by decide) (rfl)), hb.ar1, (pk_inS (m := 3) (k := 1) (hb.ln1) (by decide) (rfl)), ?_⟩
        refine gT_ks1 (k := 1) (X := c1) (rfl) (by decide) ((Eq.trans (ks_1 _) (hK.2.1.2.2))) ?_
        refine gT_n 2 ?_
        refine ⟨hb.ob, ?_⟩
        refine gT_top (hb.v1) ?_
        refine gT_n 3 ?_
        refine ⟨hb.ob, ?_⟩
        refine gT_top (hb.v1) ?_
        refine gT_n 5 ?_
        refine ⟨hb.ar2, (pk_inS (m := 3) (k := 2) (hb.ln2) (by decide) (rfl)), hb.ar2, (pk_inS (m := 3) (k := 1) (hb.ln2) (by decide) (rfl)), ?_⟩
        refine gT_ks2 (k := 1) (X := c2) (rfl) (by decide) ((Eq.trans (ks_2 _) (hK.2.2.2.2))) ?_
        refine gT_n 6 ?_
        refine ⟨hb.ob, fun _ => ?_, fun c => absurd (kpT (p := fun z : Int32 => z ≤ 2) (Eq.trans ks_0 (show _ = 2 from rfl)) (by decide)) c⟩
        refine gT_n 2 ?_
        refine ⟨hb.ob, ?_⟩
        refine gT_top (hb.v0) ?_
        refine gT_n 4 ?_
        refine ⟨hb.ob, hb.ar1, (pk_inS (m := 3) (k := 2) (hb.ln1) (by decide) ((Eq.trans ks_0 (show _ = 2 from rfl)))), ?_⟩
        refine gT_ks1 (k := 2) (X := 0) ((Eq.trans ks_0 (show _ = 2 from rfl))) (by decide) (rfl) ?_
        refine gT_n 2 ?_
        refine ⟨hb.ob, ?_⟩
        refine gT_top (hb.v1) ?_
        refine gT_n 4 ?_
        refine ⟨hb.ob, hb.ar2, (pk_inS (m := 3) (k := 2) (hb.ln2) (by decide) ((Eq.trans ks_0 (show _ = 2 from rfl)))), ?_⟩
        refine gT_ks2 (k := 2) (X := 0) ((Eq.trans ks_0 (show _ = 2 from rfl))) (by decide) (rfl) ?_
        refine gT_n 1 ?_
        refine ⟨rfl, ?_⟩
        exact ⟨rfl, _, _, _, rfl, cK_eq (l' := [(a1, a2), (c1, c2)]) (Eq.trans (if_neg κ1) (if_pos κ2)) ⟨rfl, ⟨hK.2.1.1, rfl, rfl⟩, ⟨hK.2.2.1, rfl, rfl⟩⟩⟩
    · refine gT_n 2 ?_
      show gT _ 27 5 _ _ _ _ _
      refine gT_n 3 ?_
      refine ⟨fun _ => ?_, fun c => absurd (by decide) c⟩
      refine gT_n 6 ?_
      refine ⟨hb.ob, hb.ob, ?_⟩
      refine gT_ks0 (X := 2) ((k2E (f := fun x y : Int32 => x - y) (Eq.trans ks_0 ((show _ = (3 : Int32) from hK.1))) (rfl : _ = (1 : Int32)) (show ((3 : Int32) - 1) = 2 by decide))) ?_
      refine gT_n 6 ?_
      refine ⟨hb.ob, fun c => absurd c (kpT (p := fun z : Int32 => ¬ (z ≤ 0)) (Eq.trans ks_0 (show _ = 2 from rfl)) (by decide)), fun _ => ?_⟩
      refine gT_n 2 ?_
      refine ⟨hb.ob, ?_⟩
      refine gT_top (hb.v0) ?_
      refine gT_n 3 ?_
      refine ⟨hb.ob, ?_⟩
      refine gT_top (hb.v0) ?_
      refine gT_n 5 ?_
      refine ⟨hb.ar1, (pk_inS (m := 3) (k := 1) (hb.ln1) (by decide) (rfl)), hb.ar1, (pk_inS (m := 3) (k := 0) (hb.ln1) (by decide) (rfl)), ?_⟩
      refine gT_ks1 (k := 0) (X := b1) (rfl) (by decide) ((Eq.trans (ks_1 _) (hK.2.1.2.1))) ?_
      refine gT_n 2 ?_
      refine ⟨hb.ob, ?_⟩
      refine gT_top (hb.v1) ?_
      refine gT_n 3 ?_
      refine ⟨hb.ob, ?_⟩
      refine gT_top (hb.v1) ?_
      refine gT_n 5 ?_
      refine ⟨hb.ar2, (pk_inS (m := 3) (k := 1) (hb.ln2) (by decide) (rfl)), hb.ar2, (pk_inS (m := 3) (k := 0) (hb.ln2) (by decide) (rfl)), ?_⟩
      refine gT_ks2 (k := 0) (X := b2) (rfl) (by decide) ((Eq.trans (ks_2 _) (hK.2.2.2.1))) ?_
      refine gT_n 6 ?_
      refine ⟨hb.ob, fun c => absurd c (kpT (p := fun z : Int32 => ¬ (z ≤ 1)) (Eq.trans ks_0 (show _ = 2 from rfl)) (by decide)), fun _ => ?_⟩
      refine gT_n 2 ?_
      refine ⟨hb.ob, ?_⟩
      refine gT_top (hb.v0) ?_
      refine gT_n 3 ?_
      refine ⟨hb.ob, ?_⟩
      refine gT_top (hb.v0) ?_
      refine gT_n 5 ?_
      refine ⟨hb.ar1, (pk_inS (m := 3) (k := 2) (hb.ln1) (by decide) (rfl)), hb.ar1, (pk_inS (m := 3) (k := 1) (hb.ln1) (by decide) (rfl)), ?_⟩
      refine gT_ks1 (k := 1) (X := c1) (rfl) (by decide) ((Eq.trans (ks_1 _) (hK.2.1.2.2))) ?_
      refine gT_n 2 ?_
      refine ⟨hb.ob, ?_⟩
      refine gT_top (hb.v1) ?_
      refine gT_n 3 ?_
      refine ⟨hb.ob, ?_⟩
      refine gT_top (hb.v1) ?_
      refine gT_n 5 ?_
      refine ⟨hb.ar2, (pk_inS (m := 3) (k := 2) (hb.ln2) (by decide) (rfl)), hb.ar2, (pk_inS (m := 3) (k := 1) (hb.ln2) (by decide) (rfl)), ?_⟩
      refine gT_ks2 (k := 1) (X := c2) (rfl) (by decide) ((Eq.trans (ks_2 _) (hK.2.2.2.2))) ?_
      refine gT_n 6 ?_
      refine ⟨hb.ob, fun _ => ?_, fun c => absurd (kpT (p := fun z : Int32 => z ≤ 2) (Eq.trans ks_0 (show _ = 2 from rfl)) (by decide)) c⟩
      refine gT_n 2 ?_
      refine ⟨hb.ob, ?_⟩
      refine gT_top (hb.v0) ?_
      refine gT_n 4 ?_
      refine ⟨hb.ob, hb.ar1, (pk_inS (m := 3) (k := 2) (hb.ln1) (by decide) ((Eq.trans ks_0 (show _ = 2 from rfl)))), ?_⟩
      refine gT_ks1 (k := 2) (X := 0) ((Eq.trans ks_0 (show _ = 2 from rfl))) (by decide) (rfl) ?_
      refine gT_n 2 ?_
      refine ⟨hb.ob, ?_⟩
      refine gT_top (hb.v1) ?_
      refine gT_n 4 ?_
      refine ⟨hb.ob, hb.ar2, (pk_inS (m := 3) (k := 2) (hb.ln2) (by decide) ((Eq.trans ks_0 (show _ = 2 from rfl)))), ?_⟩
      refine gT_ks2 (k := 2) (X := 0) ((Eq.trans ks_0 (show _ = 2 from rfl))) (by decide) (rfl) ?_
      refine gT_n 1 ?_
      refine ⟨rfl, ?_⟩
      exact ⟨rfl, _, _, _, rfl, cK_eq (l' := [(b1, b2), (c1, c2)]) (if_pos κ1) ⟨rfl, ⟨rfl, rfl, rfl⟩, ⟨rfl, rfl, rfl⟩⟩⟩
theorem c_kdel {d b : Nat} {k : Int32} {l : zK} {I : Nat → Nat → Int32} {J : Nat → Nat → Int64} {P : Nat → Nat} (hb : kRow P b) (hl : l.length ≤ 3) (hK : cK (I b 2) (I (b + 1)) (I (b + 2)) l) (hk : khas l k) : gTM (d + 1) 27 [.ref b, .int k] (gST I J P) (fun r u => r = none ∧ ∃ n' f' g', u = gST (kset I b n' f' g') J P ∧ cK n' f' g' (kdel l k)) := by
  have h := c_kdel0 (d := d) (I := I) (J := J) (k := k) hb hl hK hk
  rw [ks_self] at h
  exact h
