/-! RECORDS by hand: the reference -/
theorem m_inZ1 {d n : Nat} {v : Int32} {a b : Int64} {z : Int32} {w : gW} (hn : n < 2 ^ 30) (ha : (0 : Int32).toInt64 = a) (hb : z.toInt64 = b) (hz : z = nI n - 1) (h : inZ n v) : gTM d 156 [.long v.toInt64, .long a, .long b] w (fun r u => u = w ∧ r = some (.int 1)) := by
  refine gTM.use (m_inZ hn ha hb hz) (Nat.le_refl _) (fun r u hq => ?_)
  obtain ⟨rfl, ⟨rfl, b1⟩ | ⟨rfl, b1⟩⟩ := hq
  · exact ⟨rfl, rfl⟩
  · exact absurd h b1
theorem o_put_m {d : Nat} {s s' : zS} {x : Int32} {I : Nat → Nat → Int32} {J : Nat → Nat → Int64} {P : Nat → Nat} {so v : Int32} (hO : sOK s) (hS : (fPut s so v) x s') (hC : RC s' I J P) (hM : RM s I J) : gTM (d + 9) 271 [.ref 171, .int so, .int v] (gST I J P) (pM x s') := by
  obtain ⟨tp, fn, t, W, nm, pr, ch, i0, i1⟩ := s
  have hO0 := hO
  have hM0 := hM
  obtain ⟨oTp, oT, oW, oN, oP, oI0, oI1⟩ := hO
  obtain ⟨jTp, jF, jT, jSp, jW, jN, jP, jC, jI0, jI1, jB, jL⟩ := hM
  dsimp only at oTp oT oW oN oP oI0 oI1 jTp jF jT jSp jW jN jP jC jI0 jI1
  try dsimp only at hS
  by_cases hh : inZ 3 so ∧ inZ 100 v
  · have hT := (pif_pos hh).mp hS
    clear hS
    obtain ⟨k, q, hk, hq, rfl, rfl, hS⟩ := hT
    try dsimp only at hS
    obtain ⟨lm, hp, hR⟩ := jW.1
    have hr := rOK_perm hp.symm oW.1
    have hc := hR.1
    have hE := hR.2
    have hO := hr.o
    have h24 := hr.1
    have hpl := hp.length_eq
    refine gT_n 5 ?_
    refine ⟨rfl, gTM.use (m_inZ1 (n := 3) (by omega) rfl rfl rfl ⟨k, hk, rfl⟩) (Nat.le_refl _) (fun r u hq => ?_)⟩
    obtain ⟨rfl, rfl⟩ := hq  -- X12_in[i2l(nI k), lN 0, lN 2]
    refine gT_n 1 ?_
    refine ⟨fun c => absurd c (by decide), fun _ => ?_⟩
    refine gT_n 5 ?_
    refine ⟨rfl, gTM.use (m_inZ1 (n := 100) (by omega) rfl rfl rfl ⟨q, hq, rfl⟩) (Nat.le_refl _) (fun r u hq => ?_)⟩
    obtain ⟨rfl, rfl⟩ := hq  -- X12_in[i2l(nI q), lN 0, lN 99]
    refine gT_n 1 ?_
    refine ⟨fun _ => ?_, fun c => absurd c (by decide)⟩
    refine gT_n 5 ?_
    refine ⟨rfl, rfl, rfl, gTM.useA (m_recordOf_171 hr hR oN hk) (Nat.le_refl _) (aR (aL (jN) (aI (rfl) (rfl)))) (fun r u hq => ?_)⟩
    obtain ⟨rfl, ⟨r, ⟨hi1, hi2⟩, rfl⟩ | ⟨hi, rfl⟩⟩ := hq  -- X12_recordOf[R171, lN nm, nI k]
    · refine gT_n 4 ?_
      refine ⟨fun _ => ?_, fun c => absurd c (nI_neg (rfl) (by omega))⟩
      refine gT_n 3 ?_
      refine ⟨fun _ => ?_, fun c => absurd c (nI_neg (rfl) (by omega))⟩
      refine gT_n 5 ?_
      refine ⟨rfl, rfl, (pk_in r 25 (by omega) (rfl)), ?_⟩
      refine gT_k (L := [(4, .int (nI ((rg lm r).2.2))), (3, .int (nI r)), (0, .ref 171), (1, .int (nI k)), (2, .int (nI q))]) ?_ ⟨(viI (rdI (rfl) (by omega) (hE r (by omega)).2.2)), rfl, rfl, rfl, rfl, trivial⟩ rfl
      refine gT_n 3 ?_
      refine ⟨fun _ => ?_, fun c => absurd c (nI_neg (rfl) (by omega))⟩
      refine gT_n 8 ?_
      refine ⟨rfl, rfl, rfl, (pk_in r 25 (by omega) (rfl)), ?_⟩
      refine gT_ivL (n := r) (X := (lN (mo nm))) (rfl) (by omega) (jN) ?_
      refine gT_n 5 ?_
      refine ⟨rfl, rfl, (pk_in r 25 (by omega) (rfl)), ?_⟩
      refine gT_iv (n := r) (X := (nI k)) (rfl) (by omega) (rfl) ?_
      refine gT_n 5 ?_
      refine ⟨rfl, rfl, (pk_in r 25 (by omega) (rfl)), ?_⟩
      refine gT_iv (n := r) (X := (nI q)) (rfl) (by omega) (rfl) ?_
      refine gT_n 6 ?_
      refine ⟨rfl, fun _ => ?_, fun c => absurd c (nI_neg (rfl) (by omega))⟩
      refine gT_n 5 ?_
      refine ⟨rfl, ?_⟩
      rcases hS with ⟨v0, l0, l', p1, rfl, p2, rfl⟩ | ⟨hno, hS⟩
      · obtain ⟨m0, m', a1, a2, a3, a4⟩ := r_set (q := (nm, k, q)) hi1
        rw [rhit_eq ⟨hi1, hi2⟩] at a1
        obtain ⟨e1, e2⟩ := r_one oW.1 p1 (a1.trans hp)
        exact ⟨_, _, P, rfl, ri (congrArg nI e1.symm), hC, ⟨jTp, jF, jT, jSp, ⟨⟨_, a2.symm.trans ((e2.symm.cons _).trans p2), mR_cn (Eq.trans (pk_addE (n := lm.length) (k := 0) (hc) (rfl)) (congrArg nI (Nat.add_zero _)) |>.trans hc.symm) (mR_set hR hi1 a3 a4)⟩, jW.2⟩, jN, jP, jC, jI0, jI1, jB, jL⟩⟩
      · exact (hno _ (hp.mem_iff.mp (rhit_mem ⟨hi1, hi2⟩))).elim
    · refine gT_n 4 ?_
      refine ⟨fun c => absurd (by decide) c, fun _ => ?_⟩
      refine gT_n 4 ?_
      refine ⟨rfl, pk_ne lm.length 24 (fun κ1 => ?_) (fun κ1 => ?_) (hc) (rfl) (by omega) (by omega)⟩
      · refine gT_n 3 ?_
        refine ⟨fun c => absurd (by decide) c, fun _ => ?_⟩
        refine gT_n 6 ?_
        refine ⟨fun c => absurd (by decide) c, fun _ => ?_⟩
        refine gT_n 4 ?_
        refine ⟨rfl, ?_⟩
        refine gT_k (L := [(5, .int (nI lm.length)), (4, .int (-4)), (3, .int (-4)), (0, .ref 171), (1, .int (nI k)), (2, .int (nI q))]) ?_ ⟨(viI (hc)), rfl, rfl, rfl, rfl, rfl, trivial⟩ rfl
        refine gT_n 6 ?_
        refine ⟨rfl, rfl, rfl, (pk_in lm.length 25 (by omega) (rfl)), ?_⟩
        refine gT_ivL (n := lm.length) (X := (lN (mo nm))) (rfl) (by omega) (jN) ?_
        refine gT_n 5 ?_
        refine ⟨rfl, rfl, (pk_in lm.length 25 (by omega) (rfl)), ?_⟩
        refine gT_iv (n := lm.length) (X := (nI k)) (rfl) (by omega) (rfl) ?_
        refine gT_n 5 ?_
        refine ⟨rfl, rfl, (pk_in lm.length 25 (by omega) (rfl)), ?_⟩
        refine gT_iv (n := lm.length) (X := (nI q)) (rfl) (by omega) (rfl) ?_
        refine gT_n 6 ?_
        refine ⟨rfl, fun c => absurd (by decide) c, fun _ => ?_⟩
        refine gT_n 6 ?_
        refine ⟨rfl, ?_⟩
        rcases hS with ⟨v0, l0, l', p1, rfl, p2, rfl⟩ | ⟨hno, hS⟩
        · exact (rhit_mem_of ((p1.trans hp.symm).mem_iff.mp List.mem_cons_self) hi).elim
        · obtain ⟨rfl, l', p2, rfl⟩ := (pif_pos (show W.1.length < 24 by omega)).mp hS
          exact ⟨_, _, P, rfl, rfl, hC, ⟨jTp, jF, jT, jSp, ⟨⟨_, (List.perm_append_singleton _ _).trans ((hp.cons _).trans p2), mR_cn (pk_addE (n := lm.length) (k := 1) (hc) (rfl)) (mR_app hR)⟩, jW.2⟩, jN, jP, jC, jI0, jI1, jB, jL⟩⟩
      · refine gT_n 2 ?_
        rcases hS with ⟨v0, l0, l', p1, rfl, p2, rfl⟩ | ⟨hno, hS⟩
        · exact (rhit_mem_of ((p1.trans hp.symm).mem_iff.mp List.mem_cons_self) hi).elim
        · obtain ⟨rfl, rfl⟩ := (pif_neg (show ¬ W.1.length < 24 by omega)).mp hS
          exact ⟨I, J, P, rfl, rfl, hC, hM0⟩
  · obtain ⟨rfl, rfl⟩ := (pif_neg hh).mp hS
    refine gT_n 5 ?_
    refine ⟨rfl, gTM.use (m_inZ (n := 3) (by omega) rfl rfl rfl) (Nat.le_refl _) (fun r u hq => ?_)⟩
    obtain ⟨rfl, ⟨rfl, β1⟩ | ⟨rfl, β1⟩⟩ := hq  -- X12_in[L(so).toInt64, lN 0, lN 2]
    · refine gT_n 1 ?_
      refine ⟨fun c => absurd c (by decide), fun _ => ?_⟩
      refine gT_n 5 ?_
      refine ⟨rfl, gTM.use (m_inZ (n := 100) (by omega) rfl rfl rfl) (Nat.le_refl _) (fun r u hq => ?_)⟩
      obtain ⟨rfl, ⟨rfl, β2⟩ | ⟨rfl, β2⟩⟩ := hq  -- X12_in[L(v).toInt64, lN 0, lN 99]
      · refine gT_n 1 ?_
        refine ⟨fun _ => ?_, fun c => absurd c (by decide)⟩
        exact absurd ⟨β1, β2⟩ hh
      · refine gT_n 1 ?_
        refine ⟨fun c => absurd (by decide) c, fun _ => ?_⟩
        refine gT_n 2 ?_
        exact ⟨I, J, P, rfl, rfl, hC, hM0⟩
    · refine gT_n 1 ?_
      refine ⟨fun _ => ?_, fun c => absurd (by decide) c⟩
      refine gT_n 2 ?_
      exact ⟨I, J, P, rfl, rfl, hC, hM0⟩
/-- f with the places from r on moved by one, up to k -/
def shf {α : Type} (f : Nat → α) (r k : Nat) : Nat → α := fun j => if r ≤ j ∧ j < k then f (j + 1) else f j
theorem shf_0 {α : Type} {f : Nat → α} {r : Nat} : shf f r r = f := by
  funext j
  exact if_neg (by omega)
theorem shf_at {α : Type} {f : Nat → α} {r k : Nat} : shf f r k (k + 1) = f (k + 1) := if_neg (by omega)
theorem shf_upd {f : Nat → Int32} {r k : Nat} (h : r ≤ k) : upd (shf f r k) k (f (k + 1)) = shf f r (k + 1) := by
  funext j
  show (if j = k then f (k + 1) else if r ≤ j ∧ j < k then f (j + 1) else f j) = if r ≤ j ∧ j < k + 1 then f (j + 1) else f j
  by_cases c : j = k
  · subst c
    rw [if_pos rfl, if_pos ⟨h, by omega⟩]
  · rw [if_neg c]
    by_cases c2 : r ≤ j ∧ j < k
    · rw [if_pos c2, if_pos ⟨c2.1, by omega⟩]
    · rw [if_neg c2, if_neg (by omega)]
theorem shf_updL {f : Nat → Int64} {r k : Nat} (h : r ≤ k) : vp_updL (shf f r k) k (f (k + 1)) = shf f r (k + 1) := by
  funext j
  show (if j = k then f (k + 1) else if r ≤ j ∧ j < k then f (j + 1) else f j) = if r ≤ j ∧ j < k + 1 then f (j + 1) else f j
  by_cases c : j = k
  · subst c
    rw [if_pos rfl, if_pos ⟨h, by omega⟩]
  · rw [if_neg c]
    by_cases c2 : r ≤ j ∧ j < k
    · rw [if_pos c2, if_pos ⟨c2.1, by omega⟩]
    · rw [if_neg c2, if_neg (by omega)]
/-- two rows of the memory set -/
def m2 {α : Type} (I : Nat → α) (a : Nat) (A : α) (b : Nat) (B : α) : Nat → α := fun o => cond (Nat.beq o a) A (cond (Nat.beq o b) B (I o))
theorem m2_self {α : Type} {I : Nat → α} {a b : Nat} : m2 I a (I a) b (I b) = I := by
  funext o
  unfold m2
  by_cases h : o = a
  · subst h; rw [Nat.beq_refl]; rfl
  · rw [beq_ne h]
    by_cases h2 : o = b
    · subst h2; rw [Nat.beq_refl]; rfl
    · rw [beq_ne h2]; rfl
theorem gup_m2a {I : Nat → Nat → Int32} {a b k : Nat} {A B : Nat → Int32} {x : Int32} : gupI (m2 I a A b B) a k x = m2 I a (upd A k x) b B := by
  funext o
  show (if o = a then upd (m2 I a A b B a) k x else m2 I a A b B o) = _
  by_cases h : o = a
  · subst h
    rw [if_pos rfl]
    show upd (cond (Nat.beq o o) A _) k x = cond (Nat.beq o o) (upd A k x) _
    rw [Nat.beq_refl]; rfl
  · rw [if_neg h]
    show cond (Nat.beq o a) A _ = cond (Nat.beq o a) (upd A k x) _
    rw [beq_ne h]; rfl
theorem gup_m2b {I : Nat → Nat → Int32} {a b k : Nat} {A B : Nat → Int32} {x : Int32} (hab : ¬ b = a) : gupI (m2 I a A b B) b k x = m2 I a A b (upd B k x) := by
  funext o
  show (if o = b then upd (m2 I a A b B b) k x else m2 I a A b B o) = _
  by_cases h : o = b
  · subst h
    rw [if_pos rfl]
    show upd (cond (Nat.beq o a) A (cond (Nat.beq o o) B _)) k x = cond (Nat.beq o a) A (cond (Nat.beq o o) (upd B k x) _)
    rw [Nat.beq_refl, beq_ne hab]; rfl
  · rw [if_neg h]
    show cond (Nat.beq o a) A (cond (Nat.beq o b) B _) = cond (Nat.beq o a) A (cond (Nat.beq o b) (upd B k x) _)
    rw [beq_ne h]; rfl
/-- one row of the longs set -/
def m1 {α : Type} (J : Nat → α) (a : Nat) (A : α) : Nat → α := fun o => cond (Nat.beq o a) A (J o)
theorem m1_self {α : Type} {J : Nat → α} {a : Nat} : m1 J a (J a) = J := by
  funext o
  unfold m1
  by_cases h : o = a
  · subst h; rw [Nat.beq_refl]; rfl
  · rw [beq_ne h]; rfl
theorem gup_m1L {J : Nat → Nat → Int64} {a k : Nat} {A : Nat → Int64} {x : Int64} : gupL (m1 J a A) a k x = m1 J a (vp_updL A k x) := by
  funext o
  show (if o = a then vp_updL (m1 J a A a) k x else m1 J a A o) = _
  by_cases h : o = a
  · subst h
    rw [if_pos rfl]
    show vp_updL (cond (Nat.beq o o) A _) k x = cond (Nat.beq o o) (vp_updL A k x) _
    rw [Nat.beq_refl]; rfl
  · rw [if_neg h]
    show cond (Nat.beq o a) A _ = cond (Nat.beq o a) (vp_updL A k x) _
    rw [beq_ne h]; rfl
theorem mR_shift {cn : Int32} {jn : Nat → Int64} {is iv : Nat → Int32} {l l' : zR} {r : Nat} (h : mR cn jn is iv l) (hr : r < l.length) (e : l'.length = l.length - 1) (g : ∀ j, j < l.length - 1 → rg l' j = if j < r then rg l j else rg l (j + 1)) : mR (nI (l.length - 1)) (shf jn r (l.length - 1)) (shf is r (l.length - 1)) (shf iv r (l.length - 1)) l' := by
  refine ⟨by rw [e], fun j hj => ?_⟩
  rw [g j (by omega)]
  by_cases c : j < r
  · rw [if_pos c]
    have := h.2 j (by omega)
    unfold shf
    rw [if_neg (by omega), if_neg (by omega), if_neg (by omega)]
    exact this
  · rw [if_neg c]
    have := h.2 (j + 1) (by omega)
    unfold shf
    rw [if_pos (by omega), if_pos (by omega), if_pos (by omega)]
    exact this
theorem gT_m {d y pc : Nat} {L : gL} {st : List Value} {cu : Nat × Nat} {w w' : gW} {Q : Option Value → gW → Prop} (e : w = w') (h : gT d y pc L st cu w' Q) : gT d y pc L st cu w Q := by
  rw [e]; exact h
theorem o_remove_m {d : Nat} {s s' : zS} {x : Int32} {I : Nat → Nat → Int32} {J : Nat → Nat → Int64} {P : Nat → Nat} {so : Int32} (hO : sOK s) (hS : (fRem s so) x s') (hC : RC s' I J P) (hM : RM s I J) : gTM (d + 9) 272 [.ref 171, .int so] (gST I J P) (pM x s') := by
  obtain ⟨tp, fn, t, W, nm, pr, ch, i0, i1⟩ := s
  have hO0 := hO
  have hM0 := hM
  obtain ⟨oTp, oT, oW, oN, oP, oI0, oI1⟩ := hO
  obtain ⟨jTp, jF, jT, jSp, jW, jN, jP, jC, jI0, jI1, jB, jL⟩ := hM
  dsimp only at oTp oT oW oN oP oI0 oI1 jTp jF jT jSp jW jN jP jC jI0 jI1
  try dsimp only at hS
  by_cases hh : inZ 3 so
  · have hT := (pif_pos hh).mp hS
    clear hS
    obtain ⟨k, hk, rfl, hS⟩ := hT
    try dsimp only at hS
    obtain ⟨lm, hp, hR⟩ := jW.1
    have hr := rOK_perm hp.symm oW.1
    have hc := hR.1
    have hE := hR.2
    have hO := hr.o
    have h24 := hr.1
    have hpl := hp.length_eq
    refine gT_n 5 ?_
    refine ⟨rfl, gTM.use (m_inZ1 (n := 3) (by omega) rfl rfl rfl ⟨k, hk, rfl⟩) (Nat.le_refl _) (fun r u hq => ?_)⟩
    obtain ⟨rfl, rfl⟩ := hq  -- X12_in[i2l(nI k), lN 0, lN 2]
    refine gT_n 1 ?_
    refine ⟨fun _ => ?_, fun c => absurd c (by decide)⟩
    refine gT_n 5 ?_
    refine ⟨rfl, rfl, rfl, gTM.useA (m_recordOf_171 hr hR oN hk) (Nat.le_refl _) (aR (aL (jN) (aI (rfl) (rfl)))) (fun r u hq => ?_)⟩
    obtain ⟨rfl, ⟨r, ⟨hi1, hi2⟩, rfl⟩ | ⟨hi, rfl⟩⟩ := hq  -- X12_recordOf[R171, lN nm, nI k]
    · refine gT_n 4 ?_
      refine ⟨fun _ => ?_, fun c => absurd c (nI_neg (rfl) (by omega))⟩
      refine gT_n 5 ?_
      refine ⟨rfl, rfl, (pk_in r 25 (by omega) (rfl)), ?_⟩
      refine gT_k (L := [(3, .int (nI ((rg lm r).2.2))), (2, .int (nI r)), (0, .ref 171), (1, .int (nI k))]) ?_ ⟨(viI (rdI (rfl) (by omega) (hE r (by omega)).2.2)), rfl, rfl, rfl, trivial⟩ rfl
      refine gT_n 2 ?_
      have loop : ∀ k2, k2 ≤ lm.length - 1 → r ≤ k2 → gT (d + 9) 272 43 [(4, .int (nI k2)), (3, .int (nI (rg lm r).2.2)), (2, .int (nI r)), (0, .ref 171), (1, .int (nI k))] [] (0, 0) (gST (m2 I 175 (shf (I 175) r k2) 176 (shf (I 176) r k2)) (m1 J 174 (shf (J 174) r k2)) P) (pM x s') := by
        refine loopU (lm.length - 1) (fun k2 hk2 ih hrk => ?_)
        refine gT_n 6 ?_
        refine ⟨rfl, pk_le (lm.length - 1) k2 (fun κ1 => ?_) (fun κ1 => ?_) (pk_subE (n := lm.length) (k := 1) (hc) (rfl) (by omega)) (rfl) (by omega) (by omega)⟩
        · refine gT_n 8 ?_
          refine ⟨rfl, rfl, ?_⟩
          obtain rfl : k2 = lm.length - 1 := by omega
          rcases hS with ⟨v0, l', p1, rfl, rfl⟩ | ⟨hno, hS⟩
          · obtain ⟨m', a1, a2, a3⟩ := r_shift hi1
            rw [rhit_eq ⟨hi1, hi2⟩] at a1
            obtain ⟨e1, e2⟩ := r_one oW.1 p1 (a1.trans hp)
            exact ⟨_, _, P, rfl, ri (congrArg nI e1.symm), hC, ⟨jTp, jF, jT, jSp, ⟨⟨m', e2.symm, mR_cn (pk_subE (n := lm.length) (k := 1) (hc) (rfl) (by omega)) (mR_shift hR hi1 a2 a3)⟩, jW.2⟩, jN, jP, jC, jI0, jI1, jB, jL⟩⟩
          · exact (hno _ (hp.mem_iff.mp (rhit_mem ⟨hi1, hi2⟩))).elim
        · refine gT_n 10 ?_
          refine ⟨rfl, rfl, rfl, (pk_in (k2 + 1) 25 (by omega) (pk_addE (n := k2) (k := 1) (rfl) (rfl))), rfl, (pk_in k2 25 (by omega) (rfl)), ?_⟩
          refine gT_ivL (n := k2) (X := (J 174 (k2 + 1))) (rfl) (by omega) (rdJ (pk_addE (n := k2) (k := 1) (rfl) (rfl)) (by omega) shf_at) ?_
          refine gT_n 10 ?_
          refine ⟨rfl, rfl, rfl, (pk_in (k2 + 1) 25 (by omega) (pk_addE (n := k2) (k := 1) (rfl) (rfl))), rfl, (pk_in k2 25 (by omega) (rfl)), ?_⟩
          refine gT_iv (n := k2) (X := (I 175 (k2 + 1))) (rfl) (by omega) (rdI (pk_addE (n := k2) (k := 1) (rfl) (rfl)) (by omega) shf_at) ?_
          refine gT_n 10 ?_
          refine ⟨rfl, rfl, rfl, (pk_in (k2 + 1) 25 (by omega) (pk_addE (n := k2) (k := 1) (rfl) (rfl))), rfl, (pk_in k2 25 (by omega) (rfl)), ?_⟩
          refine gT_iv (n := k2) (X := (I 176 (k2 + 1))) (rfl) (by omega) (rdI (pk_addE (n := k2) (k := 1) (rfl) (rfl)) (by omega) shf_at) ?_
          refine gT_n 2 ?_
          refine gT_m (w' := gST (m2 I 175 (shf (I 175) r (k2 + 1)) 176 (shf (I 176) r (k2 + 1))) (m1 J 174 (shf (J 174) r (k2 + 1))) P) (?_) ?_
          · show (SH, gupI (gupI (m2 I 175 (shf (I 175) r k2) 176 (shf (I 176) r k2)) 175 k2 (I 175 (k2 + 1))) 176 k2 (I 176 (k2 + 1)), gupL (m1 J 174 (shf (J 174) r k2)) 174 k2 (J 174 (k2 + 1)), gRf P) = gST _ _ P
            rw [gup_m2a, gup_m2b (by decide), gup_m1L, shf_upd (by omega), shf_upd (by omega), shf_updL (by omega)]; rfl
          have e := ih (k2 + 1) (by omega) (by omega) (by omega)
          rw [← nI_1] at e
          exact e
      have e := loop r (by omega) (Nat.le_refl _)
      rw [shf_0, shf_0, shf_0, m2_self, m1_self] at e
      exact e
    · refine gT_n 4 ?_
      refine ⟨fun c => absurd (by decide) c, fun _ => ?_⟩
      refine gT_n 2 ?_
      rcases hS with ⟨v0, l', p1, rfl, rfl⟩ | ⟨hno, rfl, rfl⟩
      · exact (rhit_mem_of ((p1.trans hp.symm).mem_iff.mp List.mem_cons_self) hi).elim
      · exact ⟨I, J, P, rfl, rfl, hC, hM0⟩
  · obtain ⟨rfl, rfl⟩ := (pif_neg hh).mp hS
    refine gT_n 5 ?_
    refine ⟨rfl, gTM.use (m_inZ (n := 3) (by omega) rfl rfl rfl) (Nat.le_refl _) (fun r u hq => ?_)⟩
    obtain ⟨rfl, ⟨rfl, β1⟩ | ⟨rfl, β1⟩⟩ := hq  -- X12_in[L(so).toInt64, lN 0, lN 2]
    · refine gT_n 1 ?_
      refine ⟨fun _ => ?_, fun c => absurd c (by decide)⟩
      exact absurd β1 hh
    · refine gT_n 1 ?_
      refine ⟨fun c => absurd (by decide) c, fun _ => ?_⟩
      refine gT_n 2 ?_
      exact ⟨I, J, P, rfl, rfl, hC, hM0⟩
