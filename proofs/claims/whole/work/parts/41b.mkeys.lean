/-! the reference's rows of a zone -/
def mQ (n : Int32) (f g : Nat → Int32) (l : zK) : Prop := n = nI l.length ∧ ∀ i, i < l.length → f i = (kg l i).1 ∧ g i = (kg l i).2
theorem mQ_eq {n : Int32} {f g : Nat → Int32} {l l' : zK} (e : l = l') (h : mQ n f g l') : mQ n f g l := by
  rw [e]; exact h
theorem mQ0 {f g : Nat → Int32} {n : Int32} (h : n = 0) : mQ n f g [] := ⟨h, fun i hi => absurd hi (Nat.not_lt_zero i)⟩
theorem mQ1 {f g : Nat → Int32} {n : Int32} {a : Int32 × Int32} (h : n = 1) (h0 : f 0 = a.1 ∧ g 0 = a.2) : mQ n f g [a] := ⟨h, fun i hi => by
  have : i = 0 := Nat.lt_one_iff.mp hi
  subst this; exact h0⟩
theorem mQ2 {f g : Nat → Int32} {n : Int32} {a b : Int32 × Int32} (h : n = 2) (h0 : f 0 = a.1 ∧ g 0 = a.2) (h1 : f 1 = b.1 ∧ g 1 = b.2) : mQ n f g [a, b] := ⟨h, fun i hi => by
  have hi' : i < 2 := hi
  have : i = 0 ∨ i = 1 := by omega
  rcases this with rfl | rfl
  · exact h0
  · exact h1⟩
theorem mQ3 {f g : Nat → Int32} {n : Int32} {a b c : Int32 × Int32} (h : n = 3) (h0 : f 0 = a.1 ∧ g 0 = a.2) (h1 : f 1 = b.1 ∧ g 1 = b.2) (h2 : f 2 = c.1 ∧ g 2 = c.2) : mQ n f g [a, b, c] := ⟨h, fun i hi => by
  have hi' : i < 3 := hi
  have : i = 0 ∨ i = 1 ∨ i = 2 := by omega
  rcases this with rfl | rfl | rfl
  · exact h0
  · exact h1
  · exact h2⟩
def rowup (F : Nat → Int32) (w z : Nat) (f : Nat → Int32) : Nat → Int32 := fun j => if w * z ≤ j ∧ j < w * z + w then f (j - w * z) else F j
theorem rowup_in {F f : Nat → Int32} {w z i : Nat} (h : i < w) : rowup F w z f (w * z + i) = f i := by
  unfold rowup
  rw [if_pos ⟨Nat.le_add_right _ _, by omega⟩, Nat.add_sub_cancel_left]
theorem rowup_upd {F f : Nat → Int32} {w z k : Nat} {x : Int32} (h : k < w) : upd (rowup F w z f) (w * z + k) x = rowup F w z (upd f k x) := by
  funext j
  show (if j = w * z + k then x else rowup F w z f j) = _
  unfold rowup upd
  by_cases e : j = w * z + k
  · subst e
    rw [if_pos rfl, if_pos ⟨Nat.le_add_right _ _, by omega⟩, Nat.add_sub_cancel_left, if_pos rfl]
  · rw [if_neg e]
    by_cases hj : w * z ≤ j ∧ j < w * z + w
    · rw [if_pos hj, if_pos hj, if_neg (by omega)]
    · rw [if_neg hj, if_neg hj]
theorem rowup_self {F : Nat → Int32} {w z : Nat} : rowup F w z (fun i => F (w * z + i)) = F := by
  funext j
  unfold rowup
  by_cases hj : w * z ≤ j ∧ j < w * z + w
  · rw [if_pos hj]
    show F (w * z + (j - w * z)) = F j
    rw [Nat.add_sub_cancel' hj.1]
  · rw [if_neg hj]
theorem rowup_out {F f : Nat → Int32} {w z y i : Nat} (hi : i < w) (h : ¬ y = z) : rowup F w z f (w * y + i) = F (w * y + i) := by
  unfold rowup
  refine if_neg (fun c => h ?_)
  have h1 : w * z < w * (y + 1) := by rw [Nat.mul_succ]; omega
  have h2 : w * y < w * (z + 1) := by rw [Nat.mul_succ]; omega
  have a1 := Nat.lt_of_mul_lt_mul_left h1
  have a2 := Nat.lt_of_mul_lt_mul_left h2
  omega
theorem upd_at {F : Nat → Int32} {z : Nat} {n : Int32} : upd F z n z = n := if_pos rfl
theorem upd_self {F : Nat → Int32} {z : Nat} : upd F z (F z) = F := by
  funext j
  show (if j = z then F z else F j) = F j
  split
  · rename_i h; rw [h]
  · rfl
theorem upd_upd {F : Nat → Int32} {z : Nat} {x y : Int32} : upd (upd F z x) z y = upd F z y := by
  funext j
  show (if j = z then y else if j = z then x else F j) = if j = z then y else F j
  by_cases h : j = z
  · rw [if_pos h, if_pos h]
  · rw [if_neg h, if_neg h, if_neg h]
theorem mKs_set {w z : Nat} {mn ks ss f g : Nat → Int32} {n : Int32} {l : Nat → zK} {l' : zK} (h : mKs w mn ks ss l) (hl : ∀ y, y < 4 → (l y).length ≤ w) (hq : mQ n f g l') (hl' : l'.length ≤ w) : mKs w (upd mn z n) (rowup ks w z f) (rowup ss w z g) (kup l z l') := by
  intro y hy
  by_cases e : y = z
  · subst e
    have ek : kup l y l' y = l' := by
      show cond (Nat.beq y y) _ _ = _
      rw [Nat.beq_refl]; rfl
    rw [ek]
    refine ⟨?_, fun i hi => ?_⟩
    · show (if y = y then n else mn y) = _
      rw [if_pos rfl]; exact hq.1
    · rw [rowup_in (by omega), rowup_in (by omega)]
      exact hq.2 i hi
  · have ek : kup l z l' y = l y := by
      show cond (Nat.beq y z) _ _ = _
      rw [beq_ne e]; rfl
    rw [ek]
    have hy2 := hl y hy
    refine ⟨?_, fun i hi => ?_⟩
    · show (if y = z then n else mn y) = _
      rw [if_neg e]; exact (h y hy).1
    · rw [rowup_out (by omega) e, rowup_out (by omega) e]
      exact (h y hy).2 i hi
def kAt (l : zK) (k : Int32) (w : gW) : Option Value → gW → Prop := fun r u => u = w ∧ ((∃ i, i < l.length ∧ r = some (.int (nI i)) ∧ khas l k ∧ (kg l i).2 = ksin l k) ∨ (r = some (.int (-4)) ∧ ¬ khas l k))
def mset3 (I : Nat → Nat → Int32) (z : Nat) (n : Int32) (f g : Nat → Int32) : Nat → Nat → Int32 := fun a => cond (Nat.beq a 179) (upd (I 179) z n) (cond (Nat.beq a 177) (rowup (I 177) 3 z f) (cond (Nat.beq a 178) (rowup (I 178) 3 z g) (I a)))
section
variable {z : Nat} {n x : Int32} {f g : Nat → Int32} {I : Nat → Nat → Int32} {J : Nat → Nat → Int64} {P : Nat → Nat}
theorem ms3_self : mset3 I z (I 179 z) (fun i => I 177 (3 * z + i)) (fun i => I 178 (3 * z + i)) = I := by
  funext a
  by_cases h0 : a = 179
  · subst h0; exact upd_self
  · by_cases h1 : a = 177
    · subst h1; exact rowup_self
    · by_cases h2 : a = 178
      · subst h2; exact rowup_self
      · show cond (Nat.beq a 179) _ (cond (Nat.beq a 177) _ (cond (Nat.beq a 178) _ _)) = _
        rw [beq_ne h0, beq_ne h1, beq_ne h2]; rfl
theorem ms3_n : mset3 I z n f g 179 z = n := if_pos rfl
theorem ms3_f {i : Nat} (h : i < 3) : mset3 I z n f g 177 (3 * z + i) = f i := rowup_in h
theorem ms3_g {i : Nat} (h : i < 3) : mset3 I z n f g 178 (3 * z + i) = g i := rowup_in h
theorem gup_ms3n : gupI (mset3 I z n f g) 179 z x = mset3 I z x f g := by
  funext a
  show (if a = 179 then upd (upd (I 179) z n) z x else mset3 I z n f g a) = _
  by_cases h0 : a = 179
  · subst h0
    rw [if_pos rfl, upd_upd]; rfl
  · rw [if_neg h0]
    show cond (Nat.beq a 179) _ _ = cond (Nat.beq a 179) _ _
    rw [beq_ne h0]; rfl
theorem gup_ms3f {k : Nat} (hk : k < 3) : gupI (mset3 I z n f g) 177 (3 * z + k) x = mset3 I z n (upd f k x) g := by
  funext a
  show (if a = 177 then upd (rowup (I 177) 3 z f) (3 * z + k) x else mset3 I z n f g a) = _
  by_cases h0 : a = 177
  · subst h0
    rw [if_pos rfl, rowup_upd hk]; rfl
  · rw [if_neg h0]
    show cond (Nat.beq a 179) _ (cond (Nat.beq a 177) _ _) = cond (Nat.beq a 179) _ (cond (Nat.beq a 177) _ _)
    rw [beq_ne h0]; rfl
theorem gup_ms3g {k : Nat} (hk : k < 3) : gupI (mset3 I z n f g) 178 (3 * z + k) x = mset3 I z n f (upd g k x) := by
  funext a
  show (if a = 178 then upd (rowup (I 178) 3 z g) (3 * z + k) x else mset3 I z n f g a) = _
  by_cases h0 : a = 178
  · subst h0
    rw [if_pos rfl, rowup_upd hk]; rfl
  · rw [if_neg h0]
    show cond (Nat.beq a 179) _ (cond (Nat.beq a 177) _ (cond (Nat.beq a 178) _ _)) = cond (Nat.beq a 179) _ (cond (Nat.beq a 177) _ (cond (Nat.beq a 178) _ _))
    rw [beq_ne h0]; rfl
theorem gT_ms3n {X : Int32} {d y pc : Nat} {L : gL} {st : List Value} {cu : Nat × Nat} {T : Int32} {Q : Option Value → gW → Prop} {k : Nat} (e : T = nI z) (hk : z < 2 ^ 31) (_ : k < 1) (ev : x = X) (h : gT d y pc L st cu (gST (mset3 I z X f g) J P) Q) : gT d y pc L st cu ((gST (mset3 I z n f g) J P).1, gupI (gST (mset3 I z n f g) J P).2.1 179 T.toNatClampNeg x, (gST (mset3 I z n f g) J P).2.2) Q := by
  subst ev
  rw [e, nI_clamp hk]
  show gT d y pc L st cu (gST (gupI (mset3 I z n f g) 179 z x) J P) Q
  rw [gup_ms3n]; exact h
theorem gT_ms3f {X : Int32} {d y pc : Nat} {L : gL} {st : List Value} {cu : Nat × Nat} {T : Int32} {Q : Option Value → gW → Prop} {k : Nat} (e : T = nI (3 * z + k)) (hk : 3 * z + k < 2 ^ 31) (hw : k < 3) (ev : x = X) (h : gT d y pc L st cu (gST (mset3 I z n (upd f k X) g) J P) Q) : gT d y pc L st cu ((gST (mset3 I z n f g) J P).1, gupI (gST (mset3 I z n f g) J P).2.1 177 T.toNatClampNeg x, (gST (mset3 I z n f g) J P).2.2) Q := by
  subst ev
  rw [e, nI_clamp hk]
  show gT d y pc L st cu (gST (gupI (mset3 I z n f g) 177 (3 * z + k) x) J P) Q
  rw [gup_ms3f hw]; exact h
theorem gT_ms3g {X : Int32} {d y pc : Nat} {L : gL} {st : List Value} {cu : Nat × Nat} {T : Int32} {Q : Option Value → gW → Prop} {k : Nat} (e : T = nI (3 * z + k)) (hk : 3 * z + k < 2 ^ 31) (hw : k < 3) (ev : x = X) (h : gT d y pc L st cu (gST (mset3 I z n f (upd g k X)) J P) Q) : gT d y pc L st cu ((gST (mset3 I z n f g) J P).1, gupI (gST (mset3 I z n f g) J P).2.1 178 T.toNatClampNeg x, (gST (mset3 I z n f g) J P).2.2) Q := by
  subst ev
  rw [e, nI_clamp hk]
  show gT d y pc L st cu (gST (gupI (mset3 I z n f g) 178 (3 * z + k) x) J P) Q
  rw [gup_ms3g hw]; exact h
end
def mset2 (I : Nat → Nat → Int32) (z : Nat) (n : Int32) (f g : Nat → Int32) : Nat → Nat → Int32 := fun a => cond (Nat.beq a 183) (upd (I 183) z n) (cond (Nat.beq a 181) (rowup (I 181) 2 z f) (cond (Nat.beq a 182) (rowup (I 182) 2 z g) (I a)))
section
variable {z : Nat} {n x : Int32} {f g : Nat → Int32} {I : Nat → Nat → Int32} {J : Nat → Nat → Int64} {P : Nat → Nat}
theorem ms2_self : mset2 I z (I 183 z) (fun i => I 181 (2 * z + i)) (fun i => I 182 (2 * z + i)) = I := by
  funext a
  by_cases h0 : a = 183
  · subst h0; exact upd_self
  · by_cases h1 : a = 181
    · subst h1; exact rowup_self
    · by_cases h2 : a = 182
      · subst h2; exact rowup_self
      · show cond (Nat.beq a 183) _ (cond (Nat.beq a 181) _ (cond (Nat.beq a 182) _ _)) = _
        rw [beq_ne h0, beq_ne h1, beq_ne h2]; rfl
theorem ms2_n : mset2 I z n f g 183 z = n := if_pos rfl
theorem ms2_f {i : Nat} (h : i < 2) : mset2 I z n f g 181 (2 * z + i) = f i := rowup_in h
theorem ms2_g {i : Nat} (h : i < 2) : mset2 I z n f g 182 (2 * z + i) = g i := rowup_in h
theorem gup_ms2n : gupI (mset2 I z n f g) 183 z x = mset2 I z x f g := by
  funext a
  show (if a = 183 then upd (upd (I 183) z n) z x else mset2 I z n f g a) = _
  by_cases h0 : a = 183
  · subst h0
    rw [if_pos rfl, upd_upd]; rfl
  · rw [if_neg h0]
    show cond (Nat.beq a 183) _ _ = cond (Nat.beq a 183) _ _
    rw [beq_ne h0]; rfl
theorem gup_ms2f {k : Nat} (hk : k < 2) : gupI (mset2 I z n f g) 181 (2 * z + k) x = mset2 I z n (upd f k x) g := by
  funext a
  show (if a = 181 then upd (rowup (I 181) 2 z f) (2 * z + k) x else mset2 I z n f g a) = _
  by_cases h0 : a = 181
  · subst h0
    rw [if_pos rfl, rowup_upd hk]; rfl
  · rw [if_neg h0]
    show cond (Nat.beq a 183) _ (cond (Nat.beq a 181) _ _) = cond (Nat.beq a 183) _ (cond (Nat.beq a 181) _ _)
    rw [beq_ne h0]; rfl
theorem gup_ms2g {k : Nat} (hk : k < 2) : gupI (mset2 I z n f g) 182 (2 * z + k) x = mset2 I z n f (upd g k x) := by
  funext a
  show (if a = 182 then upd (rowup (I 182) 2 z g) (2 * z + k) x else mset2 I z n f g a) = _
  by_cases h0 : a = 182
  · subst h0
    rw [if_pos rfl, rowup_upd hk]; rfl
  · rw [if_neg h0]
    show cond (Nat.beq a 183) _ (cond (Nat.beq a 181) _ (cond (Nat.beq a 182) _ _)) = cond (Nat.beq a 183) _ (cond (Nat.beq a 181) _ (cond (Nat.beq a 182) _ _))
    rw [beq_ne h0]; rfl
theorem gT_ms2n {X : Int32} {d y pc : Nat} {L : gL} {st : List Value} {cu : Nat × Nat} {T : Int32} {Q : Option Value → gW → Prop} {k : Nat} (e : T = nI z) (hk : z < 2 ^ 31) (_ : k < 1) (ev : x = X) (h : gT d y pc L st cu (gST (mset2 I z X f g) J P) Q) : gT d y pc L st cu ((gST (mset2 I z n f g) J P).1, gupI (gST (mset2 I z n f g) J P).2.1 183 T.toNatClampNeg x, (gST (mset2 I z n f g) J P).2.2) Q := by
  subst ev
  rw [e, nI_clamp hk]
  show gT d y pc L st cu (gST (gupI (mset2 I z n f g) 183 z x) J P) Q
  rw [gup_ms2n]; exact h
theorem gT_ms2f {X : Int32} {d y pc : Nat} {L : gL} {st : List Value} {cu : Nat × Nat} {T : Int32} {Q : Option Value → gW → Prop} {k : Nat} (e : T = nI (2 * z + k)) (hk : 2 * z + k < 2 ^ 31) (hw : k < 2) (ev : x = X) (h : gT d y pc L st cu (gST (mset2 I z n (upd f k X) g) J P) Q) : gT d y pc L st cu ((gST (mset2 I z n f g) J P).1, gupI (gST (mset2 I z n f g) J P).2.1 181 T.toNatClampNeg x, (gST (mset2 I z n f g) J P).2.2) Q := by
  subst ev
  rw [e, nI_clamp hk]
  show gT d y pc L st cu (gST (gupI (mset2 I z n f g) 181 (2 * z + k) x) J P) Q
  rw [gup_ms2f hw]; exact h
theorem gT_ms2g {X : Int32} {d y pc : Nat} {L : gL} {st : List Value} {cu : Nat × Nat} {T : Int32} {Q : Option Value → gW → Prop} {k : Nat} (e : T = nI (2 * z + k)) (hk : 2 * z + k < 2 ^ 31) (hw : k < 2) (ev : x = X) (h : gT d y pc L st cu (gST (mset2 I z n f (upd g k X)) J P) Q) : gT d y pc L st cu ((gST (mset2 I z n f g) J P).1, gupI (gST (mset2 I z n f g) J P).2.1 182 T.toNatClampNeg x, (gST (mset2 I z n f g) J P).2.2) Q := by
  subst ev
  rw [e, nI_clamp hk]
  show gT d y pc L st cu (gST (gupI (mset2 I z n f g) 182 (2 * z + k) x) J P) Q
  rw [gup_ms2g hw]; exact h
end
theorem m_kAt0 {d z : Nat} {k n : Int32} {f g : Nat → Int32} {l : zK} {I : Nat → Nat → Int32} {J : Nat → Nat → Int64} {P : Nat → Nat} (hz : z < 4) (hl : l.length ≤ 3) (hK : mQ n f g l) : gTM d 262 [.ref 171, .int (nI z), .int k] (gST (mset3 I z n f g) J P) (kAt l k (gST (mset3 I z n f g) J P)) := by
  rcases zK3 hl with rfl | ⟨a1, a2, rfl⟩ | ⟨a1, a2, b1, b2, rfl⟩ | ⟨a1, a2, b1, b2, c1, c2, rfl⟩
  · refine gT_n 8 ?_
    refine ⟨rfl, rfl, (pk_inS (m := 4) (k := z) (rfl) (by omega) ((Eq.trans (rfl) (congrArg nI (show z = z by omega))))), fun _ => ?_, fun c => absurd (kpT (p := fun z : Int32 => z ≤ 0) (rdI ((Eq.trans (rfl) (congrArg nI (show z = z by omega)))) (by omega) (Eq.trans (upd_at) ((show _ = (0 : Int32) from hK.1)))) (by decide)) c⟩
    refine gT_n 2 ?_
    exact ⟨rfl, Or.inr ⟨rfl, id⟩⟩
  · refine gT_n 8 ?_
    refine ⟨rfl, rfl, (pk_inS (m := 4) (k := z) (rfl) (by omega) ((Eq.trans (rfl) (congrArg nI (show z = z by omega))))), fun c => absurd c (kpT (p := fun z : Int32 => ¬ (z ≤ 0)) (rdI ((Eq.trans (rfl) (congrArg nI (show z = z by omega)))) (by omega) (Eq.trans (upd_at) ((show _ = (1 : Int32) from hK.1)))) (by decide)), fun _ => ?_⟩
    refine gT_n 10 ?_
    refine ⟨rfl, rfl, (pk_inS (m := 12) (k := 3 * z + 0) (rfl) (by omega) ((Eq.trans (pk_addE (n := (3 * z)) (k := 0) (pk_mulE (n := 3) (k := z) (rfl) (rfl)) (rfl)) (congrArg nI (show ((3 * z) + 0) = 3 * z + 0 by omega))))), px_ne (X := a1) (Y := k) ((rdI ((Eq.trans (pk_addE (n := (3 * z)) (k := 0) (pk_mulE (n := 3) (k := z) (rfl) (rfl)) (rfl)) (congrArg nI (show ((3 * z) + 0) = 3 * z + 0 by omega)))) (by omega) (Eq.trans (rowup_in (by decide)) ((hK.2 0 (show 0 < 1 by decide)).1)))) (rfl) (fun κ1 => ?_) (fun κ1 => ?_)⟩
    · refine gT_n 8 ?_
      refine ⟨rfl, rfl, (pk_inS (m := 4) (k := z) (rfl) (by omega) ((Eq.trans (rfl) (congrArg nI (show z = z by omega))))), fun _ => ?_, fun c => absurd (kpT (p := fun z : Int32 => z ≤ 1) (rdI ((Eq.trans (rfl) (congrArg nI (show z = z by omega)))) (by omega) (Eq.trans (upd_at) ((show _ = (1 : Int32) from hK.1)))) (by decide)) c⟩
      refine gT_n 2 ?_
      exact ⟨rfl, Or.inr ⟨rfl, κ1⟩⟩
    · refine gT_n 2 ?_
      exact ⟨rfl, Or.inl ⟨0, (show 0 < 1 by decide), rfl, κ1, Eq.symm (rfl)⟩⟩
  · refine gT_n 8 ?_
    refine ⟨rfl, rfl, (pk_inS (m := 4) (k := z) (rfl) (by omega) ((Eq.trans (rfl) (congrArg nI (show z = z by omega))))), fun c => absurd c (kpT (p := fun z : Int32 => ¬ (z ≤ 0)) (rdI ((Eq.trans (rfl) (congrArg nI (show z = z by omega)))) (by omega) (Eq.trans (upd_at) ((show _ = (2 : Int32) from hK.1)))) (by decide)), fun _ => ?_⟩
    refine gT_n 10 ?_
    refine ⟨rfl, rfl, (pk_inS (m := 12) (k := 3 * z + 0) (rfl) (by omega) ((Eq.trans (pk_addE (n := (3 * z)) (k := 0) (pk_mulE (n := 3) (k := z) (rfl) (rfl)) (rfl)) (congrArg nI (show ((3 * z) + 0) = 3 * z + 0 by omega))))), px_ne (X := a1) (Y := k) ((rdI ((Eq.trans (pk_addE (n := (3 * z)) (k := 0) (pk_mulE (n := 3) (k := z) (rfl) (rfl)) (rfl)) (congrArg nI (show ((3 * z) + 0) = 3 * z + 0 by omega)))) (by omega) (Eq.trans (rowup_in (by decide)) ((hK.2 0 (show 0 < 2 by decide)).1)))) (rfl) (fun κ1 => ?_) (fun κ1 => ?_)⟩
    · refine gT_n 8 ?_
      refine ⟨rfl, rfl, (pk_inS (m := 4) (k := z) (rfl) (by omega) ((Eq.trans (rfl) (congrArg nI (show z = z by omega))))), fun c => absurd c (kpT (p := fun z : Int32 => ¬ (z ≤ 1)) (rdI ((Eq.trans (rfl) (congrArg nI (show z = z by omega)))) (by omega) (Eq.trans (upd_at) ((show _ = (2 : Int32) from hK.1)))) (by decide)), fun _ => ?_⟩
      refine gT_n 10 ?_
      refine ⟨rfl, rfl, (pk_inS (m := 12) (k := 3 * z + 1) (rfl) (by omega) ((Eq.trans (pk_addE (n := (3 * z)) (k := 1) (pk_mulE (n := 3) (k := z) (rfl) (rfl)) (rfl)) (congrArg nI (show ((3 * z) + 1) = 3 * z + 1 by omega))))), px_ne (X := b1) (Y := k) ((rdI ((Eq.trans (pk_addE (n := (3 * z)) (k := 1) (pk_mulE (n := 3) (k := z) (rfl) (rfl)) (rfl)) (congrArg nI (show ((3 * z) + 1) = 3 * z + 1 by omega)))) (by omega) (Eq.trans (rowup_in (by decide)) ((hK.2 1 (show 1 < 2 by decide)).1)))) (rfl) (fun κ2 => ?_) (fun κ2 => ?_)⟩
      · refine gT_n 8 ?_
        refine ⟨rfl, rfl, (pk_inS (m := 4) (k := z) (rfl) (by omega) ((Eq.trans (rfl) (congrArg nI (show z = z by omega))))), fun _ => ?_, fun c => absurd (kpT (p := fun z : Int32 => z ≤ 2) (rdI ((Eq.trans (rfl) (congrArg nI (show z = z by omega)))) (by omega) (Eq.trans (upd_at) ((show _ = (2 : Int32) from hK.1)))) (by decide)) c⟩
        refine gT_n 2 ?_
        exact ⟨rfl, Or.inr ⟨rfl, (fun z => Or.elim z κ1 κ2)⟩⟩
      · refine gT_n 2 ?_
        exact ⟨rfl, Or.inl ⟨1, (show 1 < 2 by decide), rfl, (Or.inr (κ2)), Eq.symm (if_neg κ1)⟩⟩
    · refine gT_n 2 ?_
      exact ⟨rfl, Or.inl ⟨0, (show 0 < 2 by decide), rfl, (Or.inl κ1), Eq.symm (if_pos κ1)⟩⟩
  · refine gT_n 8 ?_
    refine ⟨rfl, rfl, (pk_inS (m := 4) (k := z) (rfl) (by omega) ((Eq.trans (rfl) (congrArg nI (show z = z by omega))))), fun c => absurd c (kpT (p := fun z : Int32 => ¬ (z ≤ 0)) (rdI ((Eq.trans (rfl) (congrArg nI (show z = z by omega)))) (by omega) (Eq.trans (upd_at) ((show _ = (3 : Int32) from hK.1)))) (by decide)), fun _ => ?_⟩
    refine gT_n 10 ?_
    refine ⟨rfl, rfl, (pk_inS (m := 12) (k := 3 * z + 0) (rfl) (by omega) ((Eq.trans (pk_addE (n := (3 * z)) (k := 0) (pk_mulE (n := 3) (k := z) (rfl) (rfl)) (rfl)) (congrArg nI (show ((3 * z) + 0) = 3 * z + 0 by omega))))), px_ne (X := a1) (Y := k) ((rdI ((Eq.trans (pk_addE (n := (3 * z)) (k := 0) (pk_mulE (n := 3) (k := z) (rfl) (rfl)) (rfl)) (congrArg nI (show ((3 * z) + 0) = 3 * z + 0 by omega)))) (by omega) (Eq.trans (rowup_in (by decide)) ((hK.2 0 (show 0 < 3 by decide)).1)))) (rfl) (fun κ1 => ?_) (fun κ1 => ?_)⟩
    · refine gT_n 8 ?_
      refine ⟨rfl, rfl, (pk_inS (m := 4) (k := z) (rfl) (by omega) ((Eq.trans (rfl) (congrArg nI (show z = z by omega))))), fun c => absurd c (kpT (p := fun z : Int32 => ¬ (z ≤ 1)) (rdI ((Eq.trans (rfl) (congrArg nI (show z = z by omega)))) (by omega) (Eq.trans (upd_at) ((show _ = (3 : Int32) from hK.1)))) (by decide)), fun _ => ?_⟩
      refine gT_n 10 ?_
      refine ⟨rfl, rfl, (pk_inS (m := 12) (k := 3 * z + 1) (rfl) (by omega) ((Eq.trans (pk_addE (n := (3 * z)) (k := 1) (pk_mulE (n := 3) (k := z) (rfl) (rfl)) (rfl)) (congrArg nI (show ((3 * z) + 1) = 3 * z + 1 by omega))))), px_ne (X := b1) (Y := k) ((rdI ((Eq.trans (pk_addE (n := (3 * z)) (k := 1) (pk_mulE (n := 3) (k := z) (rfl) (rfl)) (rfl)) (congrArg nI (show ((3 * z) + 1) = 3 * z + 1 by omega)))) (by omega) (Eq.trans (rowup_in (by decide)) ((hK.2 1 (show 1 < 3 by decide)).1)))) (rfl) (fun κ2 => ?_) (fun κ2 => ?_)⟩
      · refine gT_n 8 ?_
        refine ⟨rfl, rfl, (pk_inS (m := 4) (k := z) (rfl) (by omega) ((Eq.trans (rfl) (congrArg nI (show z = z by omega))))), fun c => absurd c (kpT (p := fun z : Int32 => ¬ (z ≤ 2)) (rdI ((Eq.trans (rfl) (congrArg nI (show z = z by omega)))) (by omega) (Eq.trans (upd_at) ((show _ = (3 : Int32) from hK.1)))) (by decide)), fun _ => ?_⟩
        refine gT_n 10 ?_
        refine ⟨rfl, rfl, (pk_inS (m := 12) (k := 3 * z + 2) (rfl) (by omega) ((Eq.trans (pk_addE (n := (3 * z)) (k := 2) (pk_mulE (n := 3) (k := z) (rfl) (rfl)) (rfl)) (congrArg nI (show ((3 * z) + 2) = 3 * z + 2 by omega))))), px_ne (X := c1) (Y := k) ((rdI ((Eq.trans (pk_addE (n := (3 * z)) (k := 2) (pk_mulE (n := 3) (k := z) (rfl) (rfl)) (rfl)) (congrArg nI (show ((3 * z) + 2) = 3 * z + 2 by omega)))) (by omega) (Eq.trans (rowup_in (by decide)) ((hK.2 2 (show 2 < 3 by decide)).1)))) (rfl) (fun κ3 => ?_) (fun κ3 => ?_)⟩
        · refine gT_n 8 ?_
          refine ⟨rfl, rfl, (pk_inS (m := 4) (k := z) (rfl) (by omega) ((Eq.trans (rfl) (congrArg nI (show z = z by omega))))), fun _ => ?_, fun c => absurd (kpT (p := fun z : Int32 => z ≤ 3) (rdI ((Eq.trans (rfl) (congrArg nI (show z = z by omega)))) (by omega) (Eq.trans (upd_at) ((show _ = (3 : Int32) from hK.1)))) (by decide)) c⟩
          refine gT_n 2 ?_
          exact ⟨rfl, Or.inr ⟨rfl, (fun z => Or.elim z κ1 (fun z => Or.elim z κ2 κ3))⟩⟩
        · refine gT_n 2 ?_
          exact ⟨rfl, Or.inl ⟨2, (show 2 < 3 by decide), rfl, (Or.inr (Or.inr (κ3))), Eq.symm (Eq.trans (if_neg κ1) (if_neg κ2))⟩⟩
      · refine gT_n 2 ?_
        exact ⟨rfl, Or.inl ⟨1, (show 1 < 3 by decide), rfl, (Or.inr (Or.inl κ2)), Eq.symm (Eq.trans (if_neg κ1) (if_pos κ2))⟩⟩
    · refine gT_n 2 ?_
      exact ⟨rfl, Or.inl ⟨0, (show 0 < 3 by decide), rfl, (Or.inl κ1), Eq.symm (if_pos κ1)⟩⟩
theorem m_kAt {d z : Nat} {k : Int32} {l : zK} {I : Nat → Nat → Int32} {J : Nat → Nat → Int64} {P : Nat → Nat} (hz : z < 4) (hl : l.length ≤ 3) (hK : mQ (I 179 z) (fun i => I 177 (3 * z + i)) (fun i => I 178 (3 * z + i)) l) : gTM d 262 [.ref 171, .int (nI z), .int k] (gST I J P) (kAt l k (gST I J P)) := by
  have h := m_kAt0 (d := d) (I := I) (J := J) (P := P) (k := k) hz hl hK
  rw [ms3_self] at h
  exact h
theorem m_dAt0 {d z : Nat} {k n : Int32} {f g : Nat → Int32} {l : zK} {I : Nat → Nat → Int32} {J : Nat → Nat → Int64} {P : Nat → Nat} (hz : z < 4) (hl : l.length ≤ 2) (hK : mQ n f g l) : gTM d 263 [.ref 171, .int (nI z), .int k] (gST (mset2 I z n f g) J P) (kAt l k (gST (mset2 I z n f g) J P)) := by
  rcases zK2 hl with rfl | ⟨a1, a2, rfl⟩ | ⟨a1, a2, b1, b2, rfl⟩
  · refine gT_n 8 ?_
    refine ⟨rfl, rfl, (pk_inS (m := 4) (k := z) (rfl) (by omega) ((Eq.trans (rfl) (congrArg nI (show z = z by omega))))), fun _ => ?_, fun c => absurd (kpT (p := fun z : Int32 => z ≤ 0) (rdI ((Eq.trans (rfl) (congrArg nI (show z = z by omega)))) (by omega) (Eq.trans (upd_at) ((show _ = (0 : Int32) from hK.1)))) (by decide)) c⟩
    refine gT_n 2 ?_
    exact ⟨rfl, Or.inr ⟨rfl, id⟩⟩
  · refine gT_n 8 ?_
    refine ⟨rfl, rfl, (pk_inS (m := 4) (k := z) (rfl) (by omega) ((Eq.trans (rfl) (congrArg nI (show z = z by omega))))), fun c => absurd c (kpT (p := fun z : Int32 => ¬ (z ≤ 0)) (rdI ((Eq.trans (rfl) (congrArg nI (show z = z by omega)))) (by omega) (Eq.trans (upd_at) ((show _ = (1 : Int32) from hK.1)))) (by decide)), fun _ => ?_⟩
    refine gT_n 10 ?_
    refine ⟨rfl, rfl, (pk_inS (m := 8) (k := 2 * z + 0) (rfl) (by omega) ((Eq.trans (pk_addE (n := (2 * z)) (k := 0) (pk_mulE (n := 2) (k := z) (rfl) (rfl)) (rfl)) (congrArg nI (show ((2 * z) + 0) = 2 * z + 0 by omega))))), px_ne (X := a1) (Y := k) ((rdI ((Eq.trans (pk_addE (n := (2 * z)) (k := 0) (pk_mulE (n := 2) (k := z) (rfl) (rfl)) (rfl)) (congrArg nI (show ((2 * z) + 0) = 2 * z + 0 by omega)))) (by omega) (Eq.trans (rowup_in (by decide)) ((hK.2 0 (show 0 < 1 by decide)).1)))) (rfl) (fun κ1 => ?_) (fun κ1 => ?_)⟩
    · refine gT_n 8 ?_
      refine ⟨rfl, rfl, (pk_inS (m := 4) (k := z) (rfl) (by omega) ((Eq.trans (rfl) (congrArg nI (show z = z by omega))))), fun _ => ?_, fun c => absurd (kpT (p := fun z : Int32 => z ≤ 1) (rdI ((Eq.trans (rfl) (congrArg nI (show z = z by omega)))) (by omega) (Eq.trans (upd_at) ((show _ = (1 : Int32) from hK.1)))) (by decide)) c⟩
      refine gT_n 2 ?_
      exact ⟨rfl, Or.inr ⟨rfl, κ1⟩⟩
    · refine gT_n 2 ?_
      exact ⟨rfl, Or.inl ⟨0, (show 0 < 1 by decide), rfl, κ1, Eq.symm (rfl)⟩⟩
  · refine gT_n 8 ?_
    refine ⟨rfl, rfl, (pk_inS (m := 4) (k := z) (rfl) (by omega) ((Eq.trans (rfl) (congrArg nI (show z = z by omega))))), fun c => absurd c (kpT (p := fun z : Int32 => ¬ (z ≤ 0)) (rdI ((Eq.trans (rfl) (congrArg nI (show z = z by omega)))) (by omega) (Eq.trans (upd_at) ((show _ = (2 : Int32) from hK.1)))) (by decide)), fun _ => ?_⟩
    refine gT_n 10 ?_
    refine ⟨rfl, rfl, (pk_inS (m := 8) (k := 2 * z + 0) (rfl) (by omega) ((Eq.trans (pk_addE (n := (2 * z)) (k := 0) (pk_mulE (n := 2) (k := z) (rfl) (rfl)) (rfl)) (congrArg nI (show ((2 * z) + 0) = 2 * z + 0 by omega))))), px_ne (X := a1) (Y := k) ((rdI ((Eq.trans (pk_addE (n := (2 * z)) (k := 0) (pk_mulE (n := 2) (k := z) (rfl) (rfl)) (rfl)) (congrArg nI (show ((2 * z) + 0) = 2 * z + 0 by omega)))) (by omega) (Eq.trans (rowup_in (by decide)) ((hK.2 0 (show 0 < 2 by decide)).1)))) (rfl) (fun κ1 => ?_) (fun κ1 => ?_)⟩
    · refine gT_n 8 ?_
      refine ⟨rfl, rfl, (pk_inS (m := 4) (k := z) (rfl) (by omega) ((Eq.trans (rfl) (congrArg nI (show z = z by omega))))), fun c => absurd c (kpT (p := fun z : Int32 => ¬ (z ≤ 1)) (rdI ((Eq.trans (rfl) (congrArg nI (show z = z by omega)))) (by omega) (Eq.trans (upd_at) ((show _ = (2 : Int32) from hK.1)))) (by decide)), fun _ => ?_⟩
      refine gT_n 10 ?_
      refine ⟨rfl, rfl, (pk_inS (m := 8) (k := 2 * z + 1) (rfl) (by omega) ((Eq.trans (pk_addE (n := (2 * z)) (k := 1) (pk_mulE (n := 2) (k := z) (rfl) (rfl)) (rfl)) (congrArg nI (show ((2 * z) + 1) = 2 * z + 1 by omega))))), px_ne (X := b1) (Y := k) ((rdI ((Eq.trans (pk_addE (n := (2 * z)) (k := 1) (pk_mulE (n := 2) (k := z) (rfl) (rfl)) (rfl)) (congrArg nI (show ((2 * z) + 1) = 2 * z + 1 by omega)))) (by omega) (Eq.trans (rowup_in (by decide)) ((hK.2 1 (show 1 < 2 by decide)).1)))) (rfl) (fun κ2 => ?_) (fun κ2 => ?_)⟩
      · refine gT_n 8 ?_
        refine ⟨rfl, rfl, (pk_inS (m := 4) (k := z) (rfl) (by omega) ((Eq.trans (rfl) (congrArg nI (show z = z by omega))))), fun _ => ?_, fun c => absurd (kpT (p := fun z : Int32 => z ≤ 2) (rdI ((Eq.trans (rfl) (congrArg nI (show z = z by omega)))) (by omega) (Eq.trans (upd_at) ((show _ = (2 : Int32) from hK.1)))) (by decide)) c⟩
        refine gT_n 2 ?_
        exact ⟨rfl, Or.inr ⟨rfl, (fun z => Or.elim z κ1 κ2)⟩⟩
      · refine gT_n 2 ?_
        exact ⟨rfl, Or.inl ⟨1, (show 1 < 2 by decide), rfl, (Or.inr (κ2)), Eq.symm (if_neg κ1)⟩⟩
    · refine gT_n 2 ?_
      exact ⟨rfl, Or.inl ⟨0, (show 0 < 2 by decide), rfl, (Or.inl κ1), Eq.symm (if_pos κ1)⟩⟩
theorem m_dAt {d z : Nat} {k : Int32} {l : zK} {I : Nat → Nat → Int32} {J : Nat → Nat → Int64} {P : Nat → Nat} (hz : z < 4) (hl : l.length ≤ 2) (hK : mQ (I 183 z) (fun i => I 181 (2 * z + i)) (fun i => I 182 (2 * z + i)) l) : gTM d 263 [.ref 171, .int (nI z), .int k] (gST I J P) (kAt l k (gST I J P)) := by
  have h := m_dAt0 (d := d) (I := I) (J := J) (P := P) (k := k) hz hl hK
  rw [ms2_self] at h
  exact h
