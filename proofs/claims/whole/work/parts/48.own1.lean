/-! OWNERS in the class -/
theorem pk_orE {x y : Int32} {n k : Nat} (e : x = nI n) (f : y = nI k) (hn : n < 64) (hk : k < 64) : x ||| y = nI (n ||| k) := by
  rw [e, f]
  have H : ∀ n, n < 64 → ∀ k, k < 64 → nI n ||| nI k = nI (n ||| k) := by decide +kernel
  exact H n hn k hk
theorem pk_ndE {x y : Int32} {n k : Nat} (e : x = nI n) (f : y = nI k) (hn : n < 64) (hk : k < 64) : x &&& y = nI (n &&& k) := by
  rw [e, f]
  have H : ∀ n, n < 64 → ∀ k, k < 64 → nI n &&& nI k = nI (n &&& k) := by decide +kernel
  exact H n hn k hk
theorem pk_shE {x : Int32} {n : Nat} (e : x = nI n) (hn : n < 3) : (1 : Int32) <<< (x &&& 31) = nI (2 ^ n) := by
  rw [e]
  have : n = 0 ∨ n = 1 ∨ n = 2 := by omega
  rcases this with rfl | rfl | rfl <;> decide
def oMI (I : Nat → Nat → Int32) (c : Int32) (B : Nat → Int32) : Nat → Nat → Int32 := m2 I 142 (upd (I 142) 2 c) 144 B
def oMJ (J : Nat → Nat → Int64) (A : Nat → Int64) : Nat → Nat → Int64 := m1 J 143 A
def cO (c : Int32) (A : Nat → Int64) (B : Nat → Int32) (l : zO) : Prop := c = nI l.length ∧ ∀ i, i < l.length → A i = lN (og l i).1 ∧ B i = nI (og l i).2
theorem oM_self {I : Nat → Nat → Int32} : oMI I (I 142 2) (I 144) = I := by
  unfold oMI
  rw [upd_self, m2_self]
theorem oJ_self {J : Nat → Nat → Int64} : oMJ J (J 143) = J := m1_self
section
variable {I : Nat → Nat → Int32} {J J' : Nat → Nat → Int64} {P : Nat → Nat} {c x X : Int32} {A : Nat → Int64} {B : Nat → Int32} {d y pc n : Nat} {L : gL} {st : List Value} {cu : Nat × Nat} {Q : Option Value → gW → Prop} {T : Int32}
theorem gT_oC (ev : x = X) (h : gT d y pc L st cu (gST (oMI I X B) J' P) Q) : gT d y pc L st cu ((gST (oMI I c B) J' P).1, gupI (gST (oMI I c B) J' P).2.1 142 2 x, (gST (oMI I c B) J' P).2.2) Q := by
  subst ev
  show gT d y pc L st cu (gST (gupI (m2 I 142 (upd (I 142) 2 c) 144 B) 142 2 x) J' P) Q
  rw [gup_m2a, upd_upd]; exact h
theorem gT_oB (e : T = nI n) (hn : n < 2 ^ 31) (ev : x = X) (h : gT d y pc L st cu (gST (oMI I c (upd B n X)) J' P) Q) : gT d y pc L st cu ((gST (oMI I c B) J' P).1, gupI (gST (oMI I c B) J' P).2.1 144 T.toNatClampNeg x, (gST (oMI I c B) J' P).2.2) Q := by
  subst ev
  rw [e, nI_clamp hn]
  show gT d y pc L st cu (gST (gupI (m2 I 142 (upd (I 142) 2 c) 144 B) 144 n x) J' P) Q
  rw [gup_m2b (by decide)]; exact h
theorem gT_oA {x X : Int64} {I' : Nat → Nat → Int32} (e : T = nI n) (hn : n < 2 ^ 31) (ev : x = X) (h : gT d y pc L st cu (gST I' (oMJ J (vp_updL A n X)) P) Q) : gT d y pc L st cu ((gST I' (oMJ J A) P).1, (gST I' (oMJ J A) P).2.1, gupL (gST I' (oMJ J A) P).2.2.1 143 T.toNatClampNeg x, (gST I' (oMJ J A) P).2.2.2) Q := by
  subst ev
  rw [e, nI_clamp hn]
  show gT d y pc L st cu (gST I' (gupL (m1 J 143 A) 143 n x) P) Q
  rw [gup_m1L]; exact h
end
/-- f with the places from i to m moved up by one -/
def shr {α : Type} (f : Nat → α) (m i : Nat) : Nat → α := fun j => if i < j ∧ j ≤ m then f (j - 1) else f j
theorem shr_0 {α : Type} {f : Nat → α} {m : Nat} : shr f m m = f := by
  funext j
  exact if_neg (by omega)
theorem shr_at {α : Type} {f : Nat → α} {m i : Nat} (h : 0 < i) : shr f m i (i - 1) = f (i - 1) := if_neg (by omega)
theorem shr_upd {f : Nat → Int32} {m i : Nat} (h : 0 < i) (h2 : i ≤ m) : upd (shr f m i) i (f (i - 1)) = shr f m (i - 1) := by
  funext j
  show (if j = i then f (i - 1) else if i < j ∧ j ≤ m then f (j - 1) else f j) = if i - 1 < j ∧ j ≤ m then f (j - 1) else f j
  by_cases c : j = i
  · subst c
    rw [if_pos rfl, if_pos (by omega)]
  · rw [if_neg c]
    by_cases c2 : i < j ∧ j ≤ m
    · rw [if_pos c2, if_pos (by omega)]
    · rw [if_neg c2, if_neg (by omega)]
theorem shr_updL {f : Nat → Int64} {m i : Nat} (h : 0 < i) (h2 : i ≤ m) : vp_updL (shr f m i) i (f (i - 1)) = shr f m (i - 1) := by
  funext j
  show (if j = i then f (i - 1) else if i < j ∧ j ≤ m then f (j - 1) else f j) = if i - 1 < j ∧ j ≤ m then f (j - 1) else f j
  by_cases c : j = i
  · subst c
    rw [if_pos rfl, if_pos (by omega)]
  · rw [if_neg c]
    by_cases c2 : i < j ∧ j ≤ m
    · rw [if_pos c2, if_pos (by omega)]
    · rw [if_neg c2, if_neg (by omega)]
theorem cO_put {c : Int32} {A : Nat → Int64} {B : Nat → Int32} {l l' : zO} {n b a : Nat} (h : cO c A B l) (ha : a ≤ l.length) (e : l'.length = l.length + 1) (g : ∀ j, j < l.length + 1 → og l' j = if j < a then og l j else if j = a then (n, b) else og l (j - 1)) : cO (nI (l.length + 1)) (vp_updL (shr A l.length a) a (lN n)) (upd (shr B l.length a) a (nI b)) l' := by
  refine ⟨by rw [e], fun j hj => ?_⟩
  rw [e] at hj
  rw [g j hj]
  show (if j = a then lN n else shr A l.length a j) = _ ∧ (if j = a then nI b else shr B l.length a j) = _
  by_cases c1 : j < a
  · rw [if_pos c1, if_neg (show ¬ j = a by omega), if_neg (show ¬ j = a by omega)]
    unfold shr
    rw [if_neg (show ¬ (a < j ∧ j ≤ l.length) by omega), if_neg (show ¬ (a < j ∧ j ≤ l.length) by omega)]
    exact h.2 j (by omega)
  · rw [if_neg c1]
    by_cases c2 : j = a
    · rw [if_pos c2, if_pos c2, if_pos c2]; exact ⟨rfl, rfl⟩
    · rw [if_neg c2, if_neg c2, if_neg c2]
      unfold shr
      rw [if_pos (show a < j ∧ j ≤ l.length by omega), if_pos (show a < j ∧ j ≤ l.length by omega)]
      exact h.2 (j - 1) (by omega)
theorem cO_set {c : Int32} {A : Nat → Int64} {B : Nat → Int32} {l l' : zO} {n b a : Nat} (h : cO c A B l) (hn : (og l a).1 = n) (e : l'.length = l.length) (g : ∀ j, j < l.length → og l' j = if j = a then (n, b) else og l j) : cO c A (upd B a (nI b)) l' := by
  refine ⟨by rw [e]; exact h.1, fun j hj => ?_⟩
  rw [e] at hj
  rw [g j hj]
  show _ ∧ (if j = a then nI b else B j) = _
  have := h.2 j hj
  by_cases c2 : j = a
  · subst c2
    rw [if_pos rfl, if_pos rfl, ← hn]; exact ⟨this.1, rfl⟩
  · rw [if_neg c2, if_neg c2]; exact this
theorem loopD {P : Nat → Prop} (h : ∀ i, (∀ i', i' < i → P i') → P i) : ∀ i, P i := fun i => Nat.strongRecOn i h
theorem c_ahead {d n : Nat} {I : Nat → Nat → Int32} {J : Nat → Nat → Int64} {P : Nat → Nat} {l : zO} {f : Nat → Nat} (hf : oIs l f) (h28 : l.length ≤ 28) (hO : cO (I 142 2) (J 143) (I 144) l) (hn : n < 2 ^ 60) : gTM d 40 [.ref 142, .long (lN n)] (gST I J P) (fun r u => u = gST I J P ∧ ∃ a, isA l n a ∧ r = some (.int (nI a))) := by
  have loop : ∀ a, a ≤ l.length → (∀ i, a ≤ i → i < l.length → n ≤ (og l i).1) → gT d 40 5 [(3, .int (nI a)), (0, .ref 142), (1, .long (lN n))] [] (0, 0) (gST I J P) (fun r u => u = gST I J P ∧ ∃ a, isA l n a ∧ r = some (.int (nI a))) := by
    refine loopD (fun a ih ha hg => ?_)
    refine gT_n 2 ?_
    refine pk_le a 0 (fun κ1 => ?_) (fun κ1 => ?_) (rfl) (rfl) (by omega) (by omega)
    · refine gT_n 2 ?_
      exact ⟨rfl, a, ⟨ha, fun i hi => absurd hi (by omega), hg⟩, rfl⟩
    · refine gT_n 9 ?_
      refine ⟨rfl, rfl, (pk_in (a - 1) 28 (by omega) (pk_subE (n := a) (k := 1) (rfl) (rfl) (by omega))), pl_lt ((og l (a - 1)).1) n (fun κ2 => ?_) (fun κ2 => ?_) (rdJ (Eq.trans (pk_subE (n := a) (k := 1) (rfl) (rfl) (by omega)) (congrArg nI (show (a - 1) = a - 1 by omega))) (by omega) (hO.2 (a - 1) (by omega)).1) (rfl) ((hf.2.1 (a - 1) (by omega)).2.2.2.lt) (hn)⟩
      · refine gT_n 2 ?_
        refine ⟨rfl, a, ⟨ha, fun i hi => ?_, hg⟩, rfl⟩
        by_cases c : i = a - 1
        · rw [c]; exact κ2
        · exact Nat.lt_trans (hf.1 i (a - 1) (by omega) (by omega)) κ2
      · refine gT_n 2 ?_
        have hp : 0 < a := by omega
        refine gT_k (L := [(3, .int (nI (a - 1))), (0, .ref 142), (1, .long (lN n))]) (ih (a - 1) (by omega) (by omega) (fun i h1 h2 => ?_)) ⟨viI (pk_d1 hp), rfl, rfl, trivial⟩ rfl
        by_cases c : i = a - 1
        · rw [c]; exact κ2
        · exact hg i (by omega) h2
  refine gT_n 3 ?_
  refine ⟨rfl, ?_⟩
  refine gT_k (L := [(3, .int (nI l.length)), (0, .ref 142), (1, .long (lN n))]) ?_ ⟨(viI (hO.1)), rfl, rfl, trivial⟩ rfl
  exact loop l.length (Nat.le_refl _) (fun i h1 h2 => absurd h1 (by omega))
theorem c_oix {d n : Nat} {I : Nat → Nat → Int32} {J : Nat → Nat → Int64} {P : Nat → Nat} {l : zO} {f : Nat → Nat} (hf : oIs l f) (h28 : l.length ≤ 28) (hO : cO (I 142 2) (J 143) (I 144) l) (hn : n < 2 ^ 60) : gTM (d + 1) 41 [.ref 142, .long (lN n)] (gST I J P) (fun r u => u = gST I J P ∧ ((∃ a, a < l.length ∧ (og l a).1 = n ∧ r = some (.int (nI a))) ∨ (r = some (.int (-4)) ∧ ∀ i, i < l.length → ¬ (og l i).1 = n))) := by
  refine gT_n 3 ?_
  refine ⟨rfl, rfl, gTM.use (c_ahead hf h28 hO hn) (Nat.le_refl _) (fun r u hq => ?_)⟩
  obtain ⟨rfl, a, ha, rfl⟩ := hq  -- X4_howManyAhead[R142, lN n]
  refine gT_n 5 ?_
  refine ⟨rfl, pk_le l.length a (fun κ1 => ?_) (fun κ1 => ?_) (hO.1) (rfl) (by omega) (by have := ha.1; omega)⟩
  · refine gT_n 2 ?_
    exact ⟨rfl, Or.inr ⟨rfl, fun i hi z => by have := ha.2.1 i (by omega); omega⟩⟩
  · refine gT_n 7 ?_
    refine ⟨rfl, rfl, (pk_in a 28 (by omega) (rfl)), pl_ne ((og l a).1) n (fun κ2 => ?_) (fun κ2 => ?_) (rdJ (rfl) (by omega) (hO.2 a (by omega)).1) (rfl) ((hf.2.1 a (by omega)).2.2.2.lt) (hn)⟩
    · refine gT_n 2 ?_
      exact ⟨rfl, Or.inr ⟨rfl, fun i hi z => by
          rcases Nat.lt_trichotomy i a with c | c | c
          · have := ha.2.1 i c; omega
          · exact κ2 (c ▸ z)
          · have := hf.1 a i c hi; have := ha.2.2 a (Nat.le_refl _) (by omega); omega⟩⟩
    · refine gT_n 3 ?_
      exact ⟨rfl, Or.inl ⟨a, κ1, κ2, rfl⟩⟩
theorem c_oins {d n b : Nat} {I : Nat → Nat → Int32} {J : Nat → Nat → Int64} {P : Nat → Nat} {c : Int32} {A : Nat → Int64} {B : Nat → Int32} {l : zO} {f : Nat → Nat} (hf : oIs l f) (hO : cO c A B l) (hl : l.length < 28) (hn : vn n) (hb : 0 < b) (hb2 : b < 64) : gTM (d + 1) 39 [.ref 142, .long (lN n), .int (nI b)] (gST (oMI I c B) (oMJ J A) P) (fun r u => r = none ∧ ∃ c' A' B' l', u = gST (oMI I c' B') (oMJ J A') P ∧ cO c' A' B' l' ∧ oIs l' (oor f n b) ∧ l'.length ≤ l.length + 1) := by
  refine gT_n 3 ?_
  refine ⟨rfl, rfl, gTM.use (c_ahead (I := oMI I c B) (J := oMJ J A) hf (by omega) hO hn.lt) (Nat.le_refl _) (fun r u hq => ?_)⟩
  obtain ⟨rfl, a, ha, rfl⟩ := hq  -- X4_howManyAhead[R142, lN n]
  refine gT_n 5 ?_
  refine ⟨rfl, pk_le l.length a (fun κ1 => ?_) (fun κ1 => ?_) (hO.1) (rfl) (by omega) (by have := ha.1; omega)⟩
  · refine gT_n 4 ?_
    refine ⟨rfl, pk_lt l.length 28 (fun κ2 => ?_) (fun κ2 => ?_) (hO.1) (rfl) (by omega) (by omega)⟩
    · refine gT_n 3 ?_
      refine ⟨rfl, ?_⟩
      refine gT_k (L := [(5, .int (nI l.length)), (4, .int (nI a)), (0, .ref 142), (1, .long (lN n)), (3, .int (nI b))]) ?_ ⟨(viI (hO.1)), rfl, rfl, rfl, rfl, trivial⟩ rfl
      have hne : ∀ i, i < l.length → ¬ (og l i).1 = n := by
        intro i hi z
        rcases Nat.lt_trichotomy i a with q | q | q
        · have := ha.2.1 i q; omega
        · first | exact id (q ▸ z) | omega
        · have := hf.1 a i q hi; have := ha.2.2 a (Nat.le_refl _) (by omega); omega
      have loop : ∀ i, a ≤ i → i ≤ l.length → gT (d + 1) 39 56 [(5, .int (nI i)), (4, .int (nI a)), (0, .ref 142), (1, .long (lN n)), (3, .int (nI b))] [] (0, 0) (gST (oMI I c (shr B l.length i)) (oMJ J (shr A l.length i)) P) (fun r u => r = none ∧ ∃ c' A' B' l', u = gST (oMI I c' B') (oMJ J A') P ∧ cO c' A' B' l' ∧ oIs l' (oor f n b) ∧ l'.length ≤ l.length + 1) := by
        refine loopD (fun i ih hai hil => ?_)
        refine gT_n 3 ?_
        refine pk_le i a (fun κ1 => ?_) (fun κ1 => ?_) (rfl) (rfl) (by omega) (by omega)
        · refine gT_n 5 ?_
          refine ⟨rfl, rfl, (pk_inS (m := 28) (k := a) (rfl) (by omega) (rfl)), ?_⟩
          refine gT_oA (n := a) (X := (lN n)) (rfl) (by omega) (rfl) ?_
          refine gT_n 5 ?_
          refine ⟨rfl, rfl, (pk_inS (m := 28) (k := a) (rfl) (by omega) (rfl)), ?_⟩
          refine gT_oB (n := a) (X := (nI b)) (rfl) (by omega) (rfl) ?_
          refine gT_n 6 ?_
          refine ⟨rfl, rfl, ?_⟩
          refine gT_oC (X := (nI (l.length + 1))) (pk_addE (n := l.length) (k := 1) (hO.1) (rfl)) ?_
          refine gT_n 1 ?_
          refine ⟨rfl, ?_⟩
          obtain rfl : i = a := by omega
          obtain ⟨l', e1, e2⟩ := o_put (l := l) (n, b) ha.1
          exact ⟨rfl, _, _, _, l', rfl, cO_put hO ha.1 e1 e2, oIs_new hf ha hn hb hb2 hne e1 e2, by omega⟩
        · refine gT_n 10 ?_
          refine ⟨rfl, rfl, rfl, (pk_inS (m := 28) (k := (i - 1)) (rfl) (by omega) (pk_subE (n := i) (k := 1) (rfl) (rfl) (by omega))), rfl, (pk_inS (m := 28) (k := i) (rfl) (by omega) (rfl)), ?_⟩
          refine gT_oA (n := i) (X := (A (i - 1))) (rfl) (by omega) (rdJ (Eq.trans (pk_subE (n := i) (k := 1) (rfl) (rfl) (by omega)) (congrArg nI (show (i - 1) = i - 1 by omega))) (by omega) (shr_at (by omega))) ?_
          refine gT_n 10 ?_
          refine ⟨rfl, rfl, rfl, (pk_inS (m := 28) (k := (i - 1)) (rfl) (by omega) (pk_subE (n := i) (k := 1) (rfl) (rfl) (by omega))), rfl, (pk_inS (m := 28) (k := i) (rfl) (by omega) (rfl)), ?_⟩
          refine gT_oB (n := i) (X := (B (i - 1))) (rfl) (by omega) (rdI (Eq.trans (pk_subE (n := i) (k := 1) (rfl) (rfl) (by omega)) (congrArg nI (show (i - 1) = i - 1 by omega))) (by omega) (shr_at (by omega))) ?_
          refine gT_n 2 ?_
          refine gT_m (w' := gST (oMI I c (shr B l.length (i - 1))) (oMJ J (shr A l.length (i - 1))) P) (by rw [shr_upd (by omega) (by omega), shr_updL (by omega) (by omega)]) ?_
          exact gT_k (L := [(5, .int (nI (i - 1))), (4, .int (nI a)), (0, .ref 142), (1, .long (lN n)), (3, .int (nI b))]) (ih (i - 1) (by omega) (by omega) (by omega)) ⟨viI (pk_d1 (by omega)), rfl, rfl, rfl, rfl, trivial⟩ rfl
      have e := loop l.length ha.1 (Nat.le_refl _)
      rw [shr_0, shr_0] at e
      exact e
    · refine gT_n 1 ?_
      refine ⟨rfl, ?_⟩
      exact absurd hl (by omega)
  · refine gT_n 7 ?_
    refine ⟨rfl, rfl, (pk_inS (m := 28) (k := a) (rfl) (by omega) (rfl)), pl_ne ((og l a).1) n (fun κ3 => ?_) (fun κ3 => ?_) (rdJ (rfl) (by omega) (hO.2 a (by omega)).1) (rfl) ((hf.2.1 a (by omega)).2.2.2.lt) (hn.lt)⟩
    · refine gT_n 4 ?_
      refine ⟨rfl, pk_lt l.length 28 (fun κ4 => ?_) (fun κ4 => ?_) (hO.1) (rfl) (by omega) (by omega)⟩
      · refine gT_n 3 ?_
        refine ⟨rfl, ?_⟩
        refine gT_k (L := [(5, .int (nI l.length)), (4, .int (nI a)), (0, .ref 142), (1, .long (lN n)), (3, .int (nI b))]) ?_ ⟨(viI (hO.1)), rfl, rfl, rfl, rfl, trivial⟩ rfl
        have hne : ∀ i, i < l.length → ¬ (og l i).1 = n := by
          intro i hi z
          rcases Nat.lt_trichotomy i a with q | q | q
          · have := ha.2.1 i q; omega
          · first | exact κ3 (q ▸ z) | omega
          · have := hf.1 a i q hi; have := ha.2.2 a (Nat.le_refl _) (by omega); omega
        have loop : ∀ i, a ≤ i → i ≤ l.length → gT (d + 1) 39 56 [(5, .int (nI i)), (4, .int (nI a)), (0, .ref 142), (1, .long (lN n)), (3, .int (nI b))] [] (0, 0) (gST (oMI I c (shr B l.length i)) (oMJ J (shr A l.length i)) P) (fun r u => r = none ∧ ∃ c' A' B' l', u = gST (oMI I c' B') (oMJ J A') P ∧ cO c' A' B' l' ∧ oIs l' (oor f n b) ∧ l'.length ≤ l.length + 1) := by
          refine loopD (fun i ih hai hil => ?_)
          refine gT_n 3 ?_
          refine pk_le i a (fun κ1 => ?_) (fun κ1 => ?_) (rfl) (rfl) (by omega) (by omega)
          · refine gT_n 5 ?_
            refine ⟨rfl, rfl, (pk_inS (m := 28) (k := a) (rfl) (by omega) (rfl)), ?_⟩
            refine gT_oA (n := a) (X := (lN n)) (rfl) (by omega) (rfl) ?_
            refine gT_n 5 ?_
            refine ⟨rfl, rfl, (pk_inS (m := 28) (k := a) (rfl) (by omega) (rfl)), ?_⟩
            refine gT_oB (n := a) (X := (nI b)) (rfl) (by omega) (rfl) ?_
            refine gT_n 6 ?_
            refine ⟨rfl, rfl, ?_⟩
            refine gT_oC (X := (nI (l.length + 1))) (pk_addE (n := l.length) (k := 1) (hO.1) (rfl)) ?_
            refine gT_n 1 ?_
            refine ⟨rfl, ?_⟩
            obtain rfl : i = a := by omega
            obtain ⟨l', e1, e2⟩ := o_put (l := l) (n, b) ha.1
            exact ⟨rfl, _, _, _, l', rfl, cO_put hO ha.1 e1 e2, oIs_new hf ha hn hb hb2 hne e1 e2, by omega⟩
          · refine gT_n 10 ?_
            refine ⟨rfl, rfl, rfl, (pk_inS (m := 28) (k := (i - 1)) (rfl) (by omega) (pk_subE (n := i) (k := 1) (rfl) (rfl) (by omega))), rfl, (pk_inS (m := 28) (k := i) (rfl) (by omega) (rfl)), ?_⟩
            refine gT_oA (n := i) (X := (A (i - 1))) (rfl) (by omega) (rdJ (Eq.trans (pk_subE (n := i) (k := 1) (rfl) (rfl) (by omega)) (congrArg nI (show (i - 1) = i - 1 by omega))) (by omega) (shr_at (by omega))) ?_
            refine gT_n 10 ?_
            refine ⟨rfl, rfl, rfl, (pk_inS (m := 28) (k := (i - 1)) (rfl) (by omega) (pk_subE (n := i) (k := 1) (rfl) (rfl) (by omega))), rfl, (pk_inS (m := 28) (k := i) (rfl) (by omega) (rfl)), ?_⟩
            refine gT_oB (n := i) (X := (B (i - 1))) (rfl) (by omega) (rdI (Eq.trans (pk_subE (n := i) (k := 1) (rfl) (rfl) (by omega)) (congrArg nI (show (i - 1) = i - 1 by omega))) (by omega) (shr_at (by omega))) ?_
            refine gT_n 2 ?_
            refine gT_m (w' := gST (oMI I c (shr B l.length (i - 1))) (oMJ J (shr A l.length (i - 1))) P) (by rw [shr_upd (by omega) (by omega), shr_updL (by omega) (by omega)]) ?_
            exact gT_k (L := [(5, .int (nI (i - 1))), (4, .int (nI a)), (0, .ref 142), (1, .long (lN n)), (3, .int (nI b))]) (ih (i - 1) (by omega) (by omega) (by omega)) ⟨viI (pk_d1 (by omega)), rfl, rfl, rfl, rfl, trivial⟩ rfl
        have e := loop l.length ha.1 (Nat.le_refl _)
        rw [shr_0, shr_0] at e
        exact e
      · refine gT_n 1 ?_
        refine ⟨rfl, ?_⟩
        exact absurd hl (by omega)
    · refine gT_n 8 ?_
      refine ⟨rfl, rfl, (pk_inS (m := 28) (k := a) (rfl) (by omega) (rfl)), rfl, (pk_inS (m := 28) (k := a) (rfl) (by omega) (rfl)), ?_⟩
      refine gT_oB (n := a) (X := (nI (((og l a).2) ||| b))) (rfl) (by omega) (pk_orE (n := ((og l a).2)) (k := b) (rdI (rfl) (by omega) (hO.2 a (by omega)).2) (rfl) ((hf.2.1 a (by omega)).2.2.1) (by omega)) ?_
      refine gT_n 1 ?_
      refine ⟨rfl, ?_⟩
      obtain ⟨l', e1, e2⟩ := o_set (l := l) (n, (og l a).2 ||| b) κ1
      exact ⟨rfl, _, _, _, l', rfl, cO_set hO κ3 e1 e2, oIs_or hf κ1 hb2 κ3 e1 e2, by omega⟩
