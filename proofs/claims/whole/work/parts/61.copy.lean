/-! copies -/
/-- the first i of f, then g -/
def cpr {α : Type} (f g : Nat → α) (i : Nat) : Nat → α := fun j => if j < i then f j else g j
theorem cpr_0 {α : Type} {f g : Nat → α} : cpr f g 0 = g := by
  funext j
  exact if_neg (Nat.not_lt_zero j)
theorem cpr_in {α : Type} {f g : Nat → α} {i j : Nat} (h : j < i) : cpr f g i j = f j := if_pos h
theorem cpr_upd {f g : Nat → Int32} {i : Nat} : upd (cpr f g i) i (f i) = cpr f g (i + 1) := by
  funext j
  show (if j = i then f i else if j < i then f j else g j) = if j < i + 1 then f j else g j
  by_cases c : j = i
  · rw [if_pos c, if_pos (by omega), c]
  · rw [if_neg c]
    by_cases c2 : j < i
    · rw [if_pos c2, if_pos (by omega)]
    · rw [if_neg c2, if_neg (by omega)]
theorem cpr_updL {f g : Nat → Int64} {i : Nat} : vp_updL (cpr f g i) i (f i) = cpr f g (i + 1) := by
  funext j
  show (if j = i then f i else if j < i then f j else g j) = if j < i + 1 then f j else g j
  by_cases c : j = i
  · rw [if_pos c, if_pos (by omega), c]
  · rw [if_neg c]
    by_cases c2 : j < i
    · rw [if_pos c2, if_pos (by omega)]
    · rw [if_neg c2, if_neg (by omega)]
/-- g with the first i of f laid at t -/
def cpo {α : Type} (f g : Nat → α) (t i : Nat) : Nat → α := fun j => if t ≤ j ∧ j < t + i then f (j - t) else g j
theorem cpo_0 {α : Type} {f g : Nat → α} {t : Nat} : cpo f g t 0 = g := by
  funext j
  exact if_neg (by omega)
theorem cpo_in {α : Type} {f g : Nat → α} {t i j : Nat} (h : j < i) : cpo f g t i (t + j) = f j := by
  unfold cpo
  rw [if_pos ⟨by omega, by omega⟩, Nat.add_sub_cancel_left]
theorem cpo_out {α : Type} {f g : Nat → α} {t i j : Nat} (h : ¬ (t ≤ j ∧ j < t + i)) : cpo f g t i j = g j := if_neg h
theorem cpo_upd {f g : Nat → Int32} {t i : Nat} : upd (cpo f g t i) (t + i) (f i) = cpo f g t (i + 1) := by
  funext j
  show (if j = t + i then f i else if t ≤ j ∧ j < t + i then f (j - t) else g j) = if t ≤ j ∧ j < t + (i + 1) then f (j - t) else g j
  by_cases c : j = t + i
  · rw [if_pos c, if_pos (by omega), c, Nat.add_sub_cancel_left]
  · rw [if_neg c]
    by_cases c2 : t ≤ j ∧ j < t + i
    · rw [if_pos c2, if_pos (by omega)]
    · rw [if_neg c2, if_neg (by omega)]
theorem cpo_updL {f g : Nat → Int64} {t i : Nat} : vp_updL (cpo f g t i) (t + i) (f i) = cpo f g t (i + 1) := by
  funext j
  show (if j = t + i then f i else if t ≤ j ∧ j < t + i then f (j - t) else g j) = if t ≤ j ∧ j < t + (i + 1) then f (j - t) else g j
  by_cases c : j = t + i
  · rw [if_pos c, if_pos (by omega), c, Nat.add_sub_cancel_left]
  · rw [if_neg c]
    by_cases c2 : t ≤ j ∧ j < t + i
    · rw [if_pos c2, if_pos (by omega)]
    · rw [if_neg c2, if_neg (by omega)]
theorem m1_b {α : Type} {J : Nat → α} {a : Nat} {A : α} : m1 J a A a = A := by
  unfold m1
  rw [Nat.beq_refl]; rfl
theorem m1_n {α : Type} {J : Nat → α} {a o : Nat} {A : α} (h : ¬ o = a) : m1 J a A o = J o := by
  unfold m1
  rw [beq_ne h]; rfl
theorem gup_m1 {I : Nat → Nat → Int32} {a k : Nat} {A : Nat → Int32} {x : Int32} : gupI (m1 I a A) a k x = m1 I a (upd A k x) := by
  funext o
  show (if o = a then upd (m1 I a A a) k x else m1 I a A o) = _
  by_cases h : o = a
  · subst h
    rw [if_pos rfl, m1_b, m1_b]
  · rw [if_neg h, m1_n h, m1_n h]
theorem gT_m1 {d y pc a n : Nat} {L : gL} {st : List Value} {cu : Nat × Nat} {I : Nat → Nat → Int32} {J : Nat → Nat → Int64} {P : Nat → Nat} {A : Nat → Int32} {Q : Option Value → gW → Prop} {T x X : Int32} (e : T = nI n) (hn : n < 2 ^ 31) (ev : x = X) (h : gT d y pc L st cu (gST (m1 I a (upd A n X)) J P) Q) : gT d y pc L st cu ((gST (m1 I a A) J P).1, gupI (gST (m1 I a A) J P).2.1 a T.toNatClampNeg x, (gST (m1 I a A) J P).2.2) Q := by
  subst ev
  rw [e, nI_clamp hn]
  show gT d y pc L st cu (gST (gupI (m1 I a A) a n x) J P) Q
  rw [gup_m1]; exact h
theorem arS {I : Nat → Nat → Int32} {J : Nat → Nat → Int64} {P : Nat → Nat} {a la : Nat} (h : SH[a]? = some (.inr (0, la))) : gar (gST I J P) a = some 0 ∧ gln (gST I J P) a = la := by
  unfold gar gln
  rw [show (gST I J P).1[a]? = some (.inr (0, la)) from h]
  exact ⟨rfl, rfl⟩
theorem m_keeps {d a m t la : Nat} {I : Nat → Nat → Int32} {J : Nat → Nat → Int64} {P : Nat → Nat} (ha : SH[a]? = some (.inr (0, la))) (hm : m ≤ la) (hla : la ≤ 260) (ht : t + m ≤ 260) (hne : ¬ a = 212) : gTM d 273 [.ref 171, .ref a, .int (nI m), .int (nI t)] (gST I J P) (fun r u => r = none ∧ u = gST (m1 I 212 (cpo (I a) (I 212) t m)) J P) := by
  have loop : ∀ i, i ≤ m → gT d 273 3 [(4, .int (nI i)), (0, .ref 171), (1, .ref a), (2, .int (nI m)), (3, .int (nI t))] [] (0, 0) (gST (m1 I 212 (cpo (I a) (I 212) t i)) J P) (fun r u => r = none ∧ u = gST (m1 I 212 (cpo (I a) (I 212) t m)) J P) := by
    refine loopU m (fun i hi ih => ?_)
    refine gT_n 3 ?_
    refine pk_le m i (fun κ1 => ?_) (fun κ1 => ?_) (rfl) (rfl) (by omega) (by omega)
    · refine gT_n 1 ?_
      refine ⟨rfl, ?_⟩
      obtain rfl : i = m := by omega
      exact ⟨rfl, rfl⟩
    · refine gT_n 9 ?_
      refine ⟨rfl, (arS ha).1, (pk_inS (m := la) (k := i) ((arS ha).2) (by omega) (rfl) (by omega)), rfl, (pk_inS (m := 260) (k := (t + i)) (rfl) (by omega) (pk_addE (n := t) (k := i) (rfl) (rfl))), ?_⟩
      refine gT_m1 (a := 212) (n := (t + i)) (X := (I a i)) (pk_addE (n := t) (k := i) (rfl) (rfl)) (by omega) ((rdI (rfl) (by omega) (congrFun (m1_n hne) i))) ?_
      refine gT_n 2 ?_
      rw [cpo_upd]
      have e := ih (i + 1) (by omega) (by omega)
      rw [← nI_1] at e
      exact e
  refine gT_n 2 ?_
  have e := loop 0 (by omega)
  rw [cpo_0, m1_self] at e
  exact e
theorem m_brings {d a m t la : Nat} {I : Nat → Nat → Int32} {J : Nat → Nat → Int64} {P : Nat → Nat} (ha : SH[a]? = some (.inr (0, la))) (hm : m ≤ la) (hla : la ≤ 260) (ht : t + m ≤ 260) (hne : ¬ a = 212) : gTM d 274 [.ref 171, .ref a, .int (nI m), .int (nI t)] (gST I J P) (fun r u => r = none ∧ u = gST (m1 I a (cpr (fun j => I 212 (t + j)) (I a) m)) J P) := by
  have loop : ∀ i, i ≤ m → gT d 274 3 [(4, .int (nI i)), (0, .ref 171), (1, .ref a), (2, .int (nI m)), (3, .int (nI t))] [] (0, 0) (gST (m1 I a (cpr (fun j => I 212 (t + j)) (I a) i)) J P) (fun r u => r = none ∧ u = gST (m1 I a (cpr (fun j => I 212 (t + j)) (I a) m)) J P) := by
    refine loopU m (fun i hi ih => ?_)
    refine gT_n 3 ?_
    refine pk_le m i (fun κ1 => ?_) (fun κ1 => ?_) (rfl) (rfl) (by omega) (by omega)
    · refine gT_n 1 ?_
      refine ⟨rfl, ?_⟩
      obtain rfl : i = m := by omega
      exact ⟨rfl, rfl⟩
    · refine gT_n 9 ?_
      refine ⟨rfl, rfl, (pk_in (t + i) 260 (by omega) (pk_addE (n := t) (k := i) (rfl) (rfl))), (arS ha).1, (pk_inS (m := la) (k := i) ((arS ha).2) (by omega) (rfl) (by omega)), ?_⟩
      refine gT_m1 (a := a) (n := i) (X := (I 212 (t + i))) (rfl) (by omega) ((rdI (pk_addE (n := t) (k := i) (rfl) (rfl)) (by omega) (congrFun (m1_n (fun z => hne z.symm)) (t + i)))) ?_
      refine gT_n 2 ?_
      rw [show I 212 (t + i) = (fun j => I 212 (t + j)) i from rfl, cpr_upd]
      have e := ih (i + 1) (by omega) (by omega)
      rw [← nI_1] at e
      exact e
  refine gT_n 2 ?_
  have e := loop 0 (by omega)
  rw [cpr_0, m1_self] at e
  exact e
theorem ks_n {I : Nat → Nat → Int32} {b o i : Nat} {n : Int32} {f g : Nat → Int32} (h0 : ¬ o = b) (h1 : ¬ o = b + 1) (h2 : ¬ o = b + 2) : kset I b n f g o i = I o i := by
  have e : kset I b n f g o = I o := by
    show cond (Nat.beq o b) _ (cond (Nat.beq o (b + 1)) _ (cond (Nat.beq o (b + 2)) _ _)) = _
    rw [beq_ne h0, beq_ne h1, beq_ne h2]; rfl
  rw [e]
theorem c_kcopy0 {d b c : Nat} {n : Int32} {f g : Nat → Int32} {l : zK} {I : Nat → Nat → Int32} {J : Nat → Nat → Int64} {P : Nat → Nat} (hb : kRow P b) (hc : kRow P c) (hne : c + 2 < b ∨ b + 2 < c) (hK : cK (I c 2) (I (c + 1)) (I (c + 2)) l) : gTM d 28 [.ref b, .ref c] (gST (kset I b n f g) J P) (fun r u => r = none ∧ ∃ n' f' g', u = gST (kset I b n' f' g') J P ∧ cK n' f' g' l) := by
  refine gT_n 4 ?_
  refine ⟨hc.ob, hb.ob, ?_⟩
  refine gT_ks0 (X := (I c 2)) ((Eq.trans (ks_n (by omega) (by omega) (by omega)) (rfl))) ?_
  refine gT_n 5 ?_
  refine ⟨fun c => absurd c (by decide), fun _ => ?_⟩
  refine gT_n 2 ?_
  refine ⟨hb.ob, ?_⟩
  refine gT_top (hb.v0) ?_
  refine gT_n 3 ?_
  refine ⟨hc.ob, ?_⟩
  refine gT_top (hc.v0) ?_
  refine gT_n 3 ?_
  refine ⟨hc.ar1, (pk_inS (m := 3) (k := 0) (hc.ln1) (by decide) (rfl)), hb.ar1, (pk_inS (m := 3) (k := 0) (hb.ln1) (by decide) (rfl)), ?_⟩
  refine gT_ks1 (k := 0) (X := (I (c + 1) 0)) (rfl) (by decide) ((Eq.trans (ks_n (by omega) (by omega) (by omega)) (rfl))) ?_
  refine gT_n 2 ?_
  refine ⟨hb.ob, ?_⟩
  refine gT_top (hb.v1) ?_
  refine gT_n 3 ?_
  refine ⟨hc.ob, ?_⟩
  refine gT_top (hc.v1) ?_
  refine gT_n 3 ?_
  refine ⟨hc.ar2, (pk_inS (m := 3) (k := 0) (hc.ln2) (by decide) (rfl)), hb.ar2, (pk_inS (m := 3) (k := 0) (hb.ln2) (by decide) (rfl)), ?_⟩
  refine gT_ks2 (k := 0) (X := (I (c + 2) 0)) (rfl) (by decide) ((Eq.trans (ks_n (by omega) (by omega) (by omega)) (rfl))) ?_
  refine gT_n 5 ?_
  refine ⟨fun c => absurd c (by decide), fun _ => ?_⟩
  refine gT_n 2 ?_
  refine ⟨hb.ob, ?_⟩
  refine gT_top (hb.v0) ?_
  refine gT_n 3 ?_
  refine ⟨hc.ob, ?_⟩
  refine gT_top (hc.v0) ?_
  refine gT_n 3 ?_
  refine ⟨hc.ar1, (pk_inS (m := 3) (k := 1) (hc.ln1) (by decide) (rfl)), hb.ar1, (pk_inS (m := 3) (k := 1) (hb.ln1) (by decide) (rfl)), ?_⟩
  refine gT_ks1 (k := 1) (X := (I (c + 1) 1)) (rfl) (by decide) ((Eq.trans (ks_n (by omega) (by omega) (by omega)) (rfl))) ?_
  refine gT_n 2 ?_
  refine ⟨hb.ob, ?_⟩
  refine gT_top (hb.v1) ?_
  refine gT_n 3 ?_
  refine ⟨hc.ob, ?_⟩
  refine gT_top (hc.v1) ?_
  refine gT_n 3 ?_
  refine ⟨hc.ar2, (pk_inS (m := 3) (k := 1) (hc.ln2) (by decide) (rfl)), hb.ar2, (pk_inS (m := 3) (k := 1) (hb.ln2) (by decide) (rfl)), ?_⟩
  refine gT_ks2 (k := 1) (X := (I (c + 2) 1)) (rfl) (by decide) ((Eq.trans (ks_n (by omega) (by omega) (by omega)) (rfl))) ?_
  refine gT_n 5 ?_
  refine ⟨fun c => absurd c (by decide), fun _ => ?_⟩
  refine gT_n 2 ?_
  refine ⟨hb.ob, ?_⟩
  refine gT_top (hb.v0) ?_
  refine gT_n 3 ?_
  refine ⟨hc.ob, ?_⟩
  refine gT_top (hc.v0) ?_
  refine gT_n 3 ?_
  refine ⟨hc.ar1, (pk_inS (m := 3) (k := 2) (hc.ln1) (by decide) (rfl)), hb.ar1, (pk_inS (m := 3) (k := 2) (hb.ln1) (by decide) (rfl)), ?_⟩
  refine gT_ks1 (k := 2) (X := (I (c + 1) 2)) (rfl) (by decide) ((Eq.trans (ks_n (by omega) (by omega) (by omega)) (rfl))) ?_
  refine gT_n 2 ?_
  refine ⟨hb.ob, ?_⟩
  refine gT_top (hb.v1) ?_
  refine gT_n 3 ?_
  refine ⟨hc.ob, ?_⟩
  refine gT_top (hc.v1) ?_
  refine gT_n 3 ?_
  refine ⟨hc.ar2, (pk_inS (m := 3) (k := 2) (hc.ln2) (by decide) (rfl)), hb.ar2, (pk_inS (m := 3) (k := 2) (hb.ln2) (by decide) (rfl)), ?_⟩
  refine gT_ks2 (k := 2) (X := (I (c + 2) 2)) (rfl) (by decide) ((Eq.trans (ks_n (by omega) (by omega) (by omega)) (rfl))) ?_
  refine gT_n 5 ?_
  refine ⟨fun _ => ?_, fun c => absurd (by decide) c⟩
  refine gT_n 1 ?_
  refine ⟨rfl, ?_⟩
  exact ⟨rfl, _, _, _, rfl, ⟨hK.1, hK.2.1, hK.2.2⟩⟩
theorem c_kcopy {d b c : Nat} {l : zK} {I : Nat → Nat → Int32} {J : Nat → Nat → Int64} {P : Nat → Nat} (hb : kRow P b) (hc : kRow P c) (hne : c + 2 < b ∨ b + 2 < c) (hK : cK (I c 2) (I (c + 1)) (I (c + 2)) l) : gTM d 28 [.ref b, .ref c] (gST I J P) (fun r u => r = none ∧ ∃ n' f' g', u = gST (kset I b n' f' g') J P ∧ cK n' f' g' l) := by
  have h := c_kcopy0 (d := d) (I := I) (J := J) (n := I b 2) (f := I (b + 1)) (g := I (b + 2)) hb hc hne hK
  rw [ks_self] at h
  exact h
