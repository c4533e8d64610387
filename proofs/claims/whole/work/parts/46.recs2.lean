/-! RECORDS by hand -/
theorem gT_iv {d y pc o n : Nat} {L : gL} {st : List Value} {cu : Nat × Nat} {w : gW} {T x X : Int32} {Q : Option Value → gW → Prop} (e : T = nI n) (hn : n < 2 ^ 31) (ev : x = X) (h : gT d y pc L st cu (w.1, gupI w.2.1 o n X, w.2.2) Q) : gT d y pc L st cu (w.1, gupI w.2.1 o T.toNatClampNeg x, w.2.2) Q := by
  rw [e, nI_clamp hn, ev]; exact h
theorem gT_ivL {d y pc o n : Nat} {L : gL} {st : List Value} {cu : Nat × Nat} {w : gW} {T : Int32} {x X : Int64} {Q : Option Value → gW → Prop} (e : T = nI n) (hn : n < 2 ^ 31) (ev : x = X) (h : gT d y pc L st cu (w.1, w.2.1, gupL w.2.2.1 o n X, w.2.2.2) Q) : gT d y pc L st cu (w.1, w.2.1, gupL w.2.2.1 o T.toNatClampNeg x, w.2.2.2) Q := by
  rw [e, nI_clamp hn, ev]; exact h
theorem rg_app1 {A X : zR} {j : Nat} (h : j < A.length) : rg (A ++ X) j = rg A j := by
  unfold rg
  rw [List.getD_eq_getElem?_getD, List.getD_eq_getElem?_getD, List.getElem?_append_left h]
theorem rg_app2 {A X : zR} {j : Nat} (h : A.length ≤ j) : rg (A ++ X) j = rg X (j - A.length) := by
  unfold rg
  rw [List.getD_eq_getElem?_getD, List.getD_eq_getElem?_getD, List.getElem?_append_right h]
theorem r_at {l : zR} : ∀ {i : Nat}, i < l.length → ∃ A B, l = A ++ rg l i :: B ∧ A.length = i := by
  induction l with
  | nil => intro i h; exact absurd h (Nat.not_lt_zero i)
  | cons a l ih =>
    intro i h
    cases i with
    | zero => exact ⟨[], l, rfl, rfl⟩
    | succ i =>
      obtain ⟨A, B, e, e2⟩ := ih (Nat.lt_of_succ_lt_succ h)
      refine ⟨a :: A, B, ?_, by rw [List.length_cons, e2]⟩
      show a :: l = a :: (A ++ rg l i :: B)
      rw [← e]
theorem r_ext {l l' : zR} (h : l.length = l'.length) (g : ∀ j, j < l.length → rg l j = rg l' j) : l = l' := by
  refine List.ext_getElem h (fun i h1 h2 => ?_)
  have e := g i h1
  unfold rg at e
  rw [List.getD_eq_getElem?_getD, List.getD_eq_getElem?_getD, List.getElem?_eq_getElem h1, List.getElem?_eq_getElem h2] at e
  exact e
/-- one changed -/
theorem r_set {l : zR} {i : Nat} {q : Nat × Nat × Nat} (h : i < l.length) : ∃ l0 l', (rg l i :: l0).Perm l ∧ (q :: l0).Perm l' ∧ l'.length = l.length ∧ ∀ j, j < l.length → rg l' j = if j = i then q else rg l j := by
  obtain ⟨A, B, e, e2⟩ := r_at h
  refine ⟨A ++ B, A ++ q :: B, ?_, List.perm_middle.symm, ?_, fun j hj => ?_⟩
  · conv => rhs; rw [e]
    exact List.perm_middle.symm
  · conv => rhs; rw [e]
    rw [List.length_append, List.length_append]; rfl
  · by_cases c : j = i
    · rw [if_pos c, rg_app2 (by omega), show j - A.length = 0 by omega]; rfl
    · rw [if_neg c]
      conv => rhs; rw [e]
      by_cases c2 : j < i
      · rw [rg_app1 (by omega), rg_app1 (by omega)]
      · rw [rg_app2 (by omega), rg_app2 (by omega), show j - A.length = (j - A.length - 1) + 1 by omega]; rfl
/-- one taken out, the last in its place -/
theorem r_swap {l : zR} {i : Nat} (h : i < l.length) : ∃ l', (rg l i :: l').Perm l ∧ l'.length = l.length - 1 ∧ ∀ j, j < l.length - 1 → rg l' j = if j = i then rg l (l.length - 1) else rg l j := by
  obtain ⟨A, B, e, e2⟩ := r_at h
  have eL : l.length = A.length + (B.length + 1) := by
    conv => lhs; rw [e]
    rw [List.length_append]; rfl
  rcases List.eq_nil_or_concat B with hB | ⟨C, z, hB⟩
  · subst hB
    have eL' : l.length = A.length + 1 := eL
    refine ⟨A, ?_, by omega, fun j hj => ?_⟩
    · conv => rhs; rw [e]
      exact (List.perm_append_singleton _ _).symm
    · rw [if_neg (by omega)]
      conv => rhs; rw [e]
      rw [rg_app1 (by omega)]
  · rw [List.concat_eq_append] at hB
    subst hB
    have eC : l.length = A.length + (C.length + 1 + 1) := by
      rw [eL, List.length_append]; rfl
    refine ⟨A ++ z :: C, ?_, ?_, fun j hj => ?_⟩
    · conv => rhs; rw [e]
      refine List.Perm.trans ?_ List.perm_middle.symm
      refine List.Perm.cons _ ?_
      exact List.Perm.append_left A (List.perm_append_singleton _ _).symm
    · rw [List.length_append, List.length_cons]; omega
    · by_cases c : j = i
      · rw [if_pos c, rg_app2 (by omega), show j - A.length = 0 by omega]
        rw [show rg l (l.length - 1) = rg (A ++ rg l i :: (C ++ [z])) (l.length - 1) from congrArg (fun q => rg q (l.length - 1)) e]
        rw [rg_app2 (by omega), show l.length - 1 - A.length = C.length + 1 by omega]
        show z = rg (C ++ [z]) C.length
        rw [rg_app2 (Nat.le_refl _), Nat.sub_self]; rfl
      · rw [if_neg c]
        conv => rhs; rw [e]
        by_cases c2 : j < i
        · rw [rg_app1 (by omega), rg_app1 (by omega)]
        · rw [rg_app2 (by omega), rg_app2 (by omega), show j - A.length = (j - A.length - 1) + 1 by omega]
          show rg C (j - A.length - 1) = rg (C ++ [z]) (j - A.length - 1)
          rw [rg_app1 (by omega)]
/-- one taken out, those behind it moved -/
theorem r_shift {l : zR} {i : Nat} (h : i < l.length) : ∃ l', (rg l i :: l').Perm l ∧ l'.length = l.length - 1 ∧ ∀ j, j < l.length - 1 → rg l' j = if j < i then rg l j else rg l (j + 1) := by
  obtain ⟨A, B, e, e2⟩ := r_at h
  have eL : l.length = A.length + (B.length + 1) := by
    conv => lhs; rw [e]
    rw [List.length_append]; rfl
  refine ⟨A ++ B, ?_, ?_, fun j hj => ?_⟩
  · conv => rhs; rw [e]
    exact List.perm_middle.symm
  · rw [List.length_append]; omega
  · by_cases c : j < i
    · rw [if_pos c, rg_app1 (by omega)]
      conv => rhs; rw [e]
      rw [rg_app1 (by omega)]
    · rw [if_neg c, rg_app2 (by omega)]
      conv => rhs; rw [e]
      rw [rg_app2 (by omega), show j + 1 - A.length = (j - A.length) + 1 by omega]; rfl
theorem rOK_perm {l l' : zR} (h : l.Perm l') (hr : rOK l) : rOK l' := by
  refine ⟨?_, fun q hq => hr.2.1 q (h.mem_iff.mpr hq), ?_⟩
  · rw [← h.length_eq]; exact hr.1
  · exact (h.map _).nodup_iff.mp hr.2.2
theorem rOK_tl {l : zR} {q : Nat × Nat × Nat} (hr : rOK (q :: l)) : rOK l := by
  refine ⟨?_, fun x hx => hr.2.1 x (List.mem_cons_of_mem _ hx), ?_⟩
  · have := hr.1
    rw [List.length_cons] at this; omega
  · have := hr.2.2
    rw [List.map_cons] at this
    exact (List.nodup_cons.mp this).2
theorem rOK_re {l : zR} {n s v v' : Nat} (hr : rOK ((n, s, v) :: l)) (hv : v' ≤ 99) : rOK ((n, s, v') :: l) := by
  refine ⟨hr.1, fun x hx => ?_, hr.2.2⟩
  rcases List.mem_cons.mp hx with e | e
  · have := hr.2.1 _ List.mem_cons_self
    rw [e]; exact ⟨this.1, this.2.1, hv⟩
  · exact hr.2.1 x (List.mem_cons_of_mem _ e)
theorem rOK_cons {l : zR} {n s v : Nat} (hr : rOK l) (hl : l.length < 24) (hn : vn n) (hs : s < 3) (hv : v ≤ 99) (h : ∀ w, (n, s, w) ∉ l) : rOK ((n, s, v) :: l) := by
  refine ⟨hl, fun x hx => ?_, ?_⟩
  · rcases List.mem_cons.mp hx with e | e
    · rw [e]; exact ⟨hn, hs, hv⟩
    · exact hr.2.1 x e
  · rw [List.map_cons]
    refine List.nodup_cons.mpr ⟨fun hm => ?_, hr.2.2⟩
    obtain ⟨q, hq, e⟩ := List.mem_map.mp hm
    obtain ⟨a, b, c⟩ := q
    simp only [Prod.mk.injEq] at e
    obtain ⟨rfl, rfl⟩ := e
    exact h c hq
/-- what is told of a name and a sort is one -/
theorem r_one {l : zR} {n s v v' : Nat} {l0 l1 : zR} (hr : rOK l) (h : ((n, s, v) :: l0).Perm l) (g : ((n, s, v') :: l1).Perm l) : v = v' ∧ l0.Perm l1 := by
  have hk := rOK_perm h.symm hr
  have hm : (n, s, v') ∈ (n, s, v) :: l0 := (h.trans g.symm).mem_iff.mpr List.mem_cons_self
  have e : v = v' := by
    rcases List.mem_cons.mp hm with e | e
    · simp only [Prod.mk.injEq, true_and] at e; exact e.symm
    · exfalso
      have h2 := hk.2.2
      rw [List.map_cons] at h2
      exact (List.nodup_cons.mp h2).1 (List.mem_map.mpr ⟨(n, s, v'), e, rfl⟩)
  subst e
  exact ⟨rfl, List.Perm.cons_inv (h.trans g.symm)⟩
theorem rhit_eq {l : zR} {n s i : Nat} (h : rhit l n s i) : rg l i = (n, s, (rg l i).2.2) := by
  rw [← h.2.1, ← h.2.2]
def setR (s : zS) (l : zR) : zS := (s.1, s.2.1, s.2.2.1, (l, s.2.2.2.1.2), s.2.2.2.2)
theorem setR_ok {s : zS} {l : zR} (h : sOK s) (hl : rOK l) : sOK (setR s l) := by
  obtain ⟨h1, h2, ⟨w1, w2⟩, h4⟩ := h
  exact ⟨h1, h2, ⟨hl, w2⟩, h4⟩
def fPut (s : zS) (so v x : Int32) (s' : zS) : Prop := pif (inZ 3 so ∧ inZ 100 v) (∃ k q, k < 3 ∧ q < 100 ∧ so = nI k ∧ v = nI q ∧
  ((∃ v0 l0 l', ((s.2.2.2.2.1, k, v0) :: l0).Perm s.2.2.2.1.1 ∧ x = nI v0 ∧ ((s.2.2.2.2.1, k, q) :: l0).Perm l' ∧ s' = setR s l') ∨
   ((∀ w, (s.2.2.2.2.1, k, w) ∉ s.2.2.2.1.1) ∧ pif (s.2.2.2.1.1.length < 24) (x = -4 ∧ ∃ l', ((s.2.2.2.2.1, k, q) :: s.2.2.2.1.1).Perm l' ∧ s' = setR s l') (x = -3 ∧ s' = s)))) (x = -1 ∧ s' = s)
def fRem (s : zS) (so x : Int32) (s' : zS) : Prop := pif (inZ 3 so) (∃ k, k < 3 ∧ so = nI k ∧
  ((∃ v0 l', ((s.2.2.2.2.1, k, v0) :: l').Perm s.2.2.2.1.1 ∧ x = nI v0 ∧ s' = setR s l') ∨ ((∀ w, (s.2.2.2.2.1, k, w) ∉ s.2.2.2.1.1) ∧ x = -4 ∧ s' = s))) (x = -1 ∧ s' = s)
theorem cR_set {cn : Int32} {jn : Nat → Int64} {is iv : Nat → Int32} {l l' : zR} {i n s v : Nat} (h : cR cn jn is iv l) (hi : rhit l n s i) (e : l'.length = l.length) (g : ∀ j, j < l.length → rg l' j = if j = i then (n, s, v) else rg l j) : cR cn jn is (upd iv i (nI v)) l' := by
  refine ⟨by rw [e]; exact h.1, fun j hj => ?_⟩
  rw [g j (by omega)]
  have hq := h.2 j (by omega)
  by_cases c : j = i
  · subst c
    rw [if_pos rfl]
    refine ⟨?_, ?_, if_pos rfl⟩
    · rw [hq.1, hi.2.1]
    · rw [hq.2.1, hi.2.2]
  · rw [if_neg c]
    refine ⟨hq.1, hq.2.1, ?_⟩
    show (if j = i then nI v else iv j) = _
    rw [if_neg c]; exact hq.2.2
section
variable {cn : Int32} {jn : Nat → Int64} {is iv : Nat → Int32} {l l' : zR} {i n s v : Nat}
theorem cR_app (h : cR cn jn is iv l) : cR (nI (l.length + 1)) (vp_updL jn l.length (lN n)) (upd is l.length (nI s)) (upd iv l.length (nI v)) (l ++ [(n, s, v)]) := by
  have eL : (l ++ [(n, s, v)]).length = l.length + 1 := List.length_append
  refine ⟨by rw [eL], fun j hj => ?_⟩
  show (if j = l.length then lN n else jn j) = _ ∧ (if j = l.length then nI s else is j) = _ ∧ (if j = l.length then nI v else iv j) = _
  by_cases c : j = l.length
  · rw [if_pos c, if_pos c, if_pos c, rg_app2 (by omega), show j - l.length = 0 by omega]
    exact ⟨rfl, rfl, rfl⟩
  · rw [if_neg c, if_neg c, if_neg c, rg_app1 (by omega)]
    exact h.2 j (by omega)
theorem cR_swap (h : cR cn jn is iv l) (hi : i < l.length) (e : l'.length = l.length - 1) (g : ∀ j, j < l.length - 1 → rg l' j = if j = i then rg l (l.length - 1) else rg l j) : cR (nI (l.length - 1)) (vp_updL jn i (lN (rg l (l.length - 1)).1)) (upd is i (nI (rg l (l.length - 1)).2.1)) (upd iv i (nI (rg l (l.length - 1)).2.2)) l' := by
  refine ⟨by rw [e], fun j hj => ?_⟩
  rw [g j (by omega)]
  show (if j = i then _ else jn j) = _ ∧ (if j = i then _ else is j) = _ ∧ (if j = i then _ else iv j) = _
  by_cases c : j = i
  · rw [if_pos c, if_pos c, if_pos c, if_pos c]
    exact ⟨rfl, rfl, rfl⟩
  · rw [if_neg c, if_neg c, if_neg c, if_neg c]
    exact h.2 j (by omega)
theorem mR_set (h : mR cn jn is iv l) (hi : i < l.length) (e : l'.length = l.length) (g : ∀ j, j < l.length → rg l' j = if j = i then (n, s, v) else rg l j) : mR cn (vp_updL jn i (lN (mo n))) (upd is i (nI s)) (upd iv i (nI v)) l' := by
  refine ⟨by rw [e]; exact h.1, fun j hj => ?_⟩
  rw [g j (by omega)]
  show (if j = i then _ else jn j) = _ ∧ (if j = i then _ else is j) = _ ∧ (if j = i then _ else iv j) = _
  by_cases c : j = i
  · rw [if_pos c, if_pos c, if_pos c, if_pos c]
    exact ⟨rfl, rfl, rfl⟩
  · rw [if_neg c, if_neg c, if_neg c, if_neg c]
    exact h.2 j (by omega)
theorem mR_app (h : mR cn jn is iv l) : mR (nI (l.length + 1)) (vp_updL jn l.length (lN (mo n))) (upd is l.length (nI s)) (upd iv l.length (nI v)) (l ++ [(n, s, v)]) := by
  have eL : (l ++ [(n, s, v)]).length = l.length + 1 := List.length_append
  refine ⟨by rw [eL], fun j hj => ?_⟩
  show (if j = l.length then _ else jn j) = _ ∧ (if j = l.length then nI s else is j) = _ ∧ (if j = l.length then nI v else iv j) = _
  by_cases c : j = l.length
  · rw [if_pos c, if_pos c, if_pos c, rg_app2 (by omega), show j - l.length = 0 by omega]
    exact ⟨rfl, rfl, rfl⟩
  · rw [if_neg c, if_neg c, if_neg c, rg_app1 (by omega)]
    exact h.2 j (by omega)
end
theorem rno_hit {l : zR} {n s i : Nat} (h : ∀ w, (n, s, w) ∉ l) (g : rhit l n s i) : False := h _ (rhit_mem g)
theorem c_isSort1 {d : Nat} {k : Int32} {w : gW} (h : inZ 3 k) : gTM d 152 [.int k] w (fun r u => u = w ∧ r = some (.int 1)) := by
  refine gTM.use c_isSort (Nat.le_refl _) (fun r u hq => ?_)
  obtain ⟨rfl, ⟨rfl, b1⟩ | ⟨rfl, b1⟩⟩ := hq
  · exact ⟨rfl, rfl⟩
  · exact absurd h b1
theorem rhit_mem_of {l : zR} {n s v : Nat} (h : (n, s, v) ∈ l) (g : rno l n s) : False := rno_mem.mp g v h
theorem cR_cn {cn cn' : Int32} {jn : Nat → Int64} {is iv : Nat → Int32} {l : zR} (e : cn' = cn) (h : cR cn jn is iv l) : cR cn' jn is iv l := e ▸ h
theorem mR_cn {cn cn' : Int32} {jn : Nat → Int64} {is iv : Nat → Int32} {l : zR} (e : cn' = cn) (h : mR cn jn is iv l) : mR cn' jn is iv l := e ▸ h
theorem o_put_c {d : Nat} {s : zS} {I : Nat → Nat → Int32} {J : Nat → Nat → Int64} {P : Nat → Nat} {so v : Int32} (hO : sOK s) (hC : RC s I J P) (hM : RM s I J) : gTM (d + 9) 148 [.ref 0, .int so, .int v] (gST I J P) (pC s (fPut s so v)) := by
  obtain ⟨tp, fn, t, W, nm, pr, ch, i0, i1⟩ := s
  have hO0 := hO
  have hC0 := hC
  have hM0 := hM
  obtain ⟨oTp, oT, oW, oN, oP, oI0, oI1⟩ := hO
  obtain ⟨kTp, kF, kT, kW, kN, kP, kC, kI0, kI1, kB, kPP⟩ := hC
  obtain ⟨jTp, jF, jT, jSp, jW, jN, jP, jC, jI0, jI1, jB, jL⟩ := hM
  dsimp only at oTp oT oW oN oP oI0 oI1 kTp kF kT kW kN kP kC kI0 kI1 jTp jF jT jSp jW jN jP jC jI0 jI1
  try dsimp only
  by_cases hh : inZ 3 so ∧ inZ 100 v
  · obtain ⟨⟨k, hk, rfl⟩, ⟨q, hq, rfl⟩⟩ := hh
    have hh : inZ 3 (nI k) ∧ inZ 100 (nI q) := ⟨⟨k, hk, rfl⟩, ⟨q, hq, rfl⟩⟩
    have hr := oW.1
    have hR := kW.1
    obtain ⟨hc, hE⟩ := kW.1
    have hO := hr.o
    have h24 := hr.1
    refine gT_n 2 ?_
    refine ⟨rfl, gTM.use (c_isSort1 ⟨k, hk, rfl⟩) (Nat.le_refl _) (fun r u hq => ?_)⟩
    obtain ⟨rfl, rfl⟩ := hq  -- X11_isSort[nI k]
    refine gT_n 1 ?_
    refine ⟨fun c => absurd c (by decide), fun _ => ?_⟩
    refine gT_n 2 ?_
    refine ⟨fun c => absurd c (nI_pos (by omega)), fun _ => ?_⟩
    refine gT_n 3 ?_
    refine pk_le q 99 (fun κ1 => ?_) (fun κ1 => ?_) (rfl) (rfl) (by omega) (by omega)
    · refine gT_n 7 ?_
      refine ⟨rfl, rfl, rfl, rfl, rfl, gTM.useA (c_valueOf hr hR oN hk) (Nat.le_refl _) (aR (aL (kN) (aI (rfl) (rfl)))) (fun r u hq => ?_)⟩
      obtain ⟨rfl, x1, ⟨v0, hv0, rfl⟩ | ⟨hno, rfl⟩, rfl⟩ := hq  -- X7_valueOf[R18, lN nm, nI k]
      · refine gT_n 4 ?_
        refine ⟨fun _ => ?_, fun c => absurd c (nI_neg (rfl) (by have : v0 ≤ 99 := (hr.2.1 _ hv0).2.2; omega))⟩
        refine gT_n 8 ?_
        refine ⟨rfl, rfl, rfl, rfl, rfl, ?_⟩
        refine gT_n 4 ?_
        refine ⟨rfl, rfl, gTM.useA (c_indexOf_18 hr hR oN hk) (Nat.le_refl _) (aR (aL (kN) (aI (rfl) (rfl)))) (fun r u hq => ?_)⟩
        obtain ⟨rfl, ⟨i, ⟨hi1, hi2⟩, rfl⟩ | ⟨hi, rfl⟩⟩ := hq  -- X7_indexOf[R18, lN nm, nI k]
        · refine gT_n 3 ?_
          refine ⟨fun c => absurd c (nI_pos (by omega)), fun _ => ?_⟩
          refine gT_n 5 ?_
          refine ⟨rfl, rfl, (pk_in i 24 (by omega) (rfl)), ?_⟩
          refine gT_iv (n := i) (X := (nI q)) (rfl) (by omega) (rfl) ?_
          refine gT_n 2 ?_
          refine ⟨rfl, ?_⟩
          show gT _ 148 75 _ _ _ _ _
          refine gT_n 2 ?_
          obtain ⟨l0, l', p1, p2, p3, p4⟩ := r_set (q := (nm, k, q)) hi1
          rw [rhit_eq ⟨hi1, hi2⟩] at p1
          obtain rfl := (r_one hr (l1 := l0) (v := v0) (List.perm_cons_erase hv0).symm p1).1
          exact ⟨_, setR (tp, fn, t, W, nm, pr, ch, i0, i1) l', _, _, P, rfl, rfl, ⟨(pif_pos hh).mpr ⟨k, q, hk, hq, rfl, rfl, Or.inl ⟨_, l0, l', p1, rfl, p2, rfl⟩⟩, setR_ok hO0 (rOK_perm p2 (rOK_re (rOK_perm p1.symm hr) (by omega)))⟩, ⟨kTp, kF, kT, ⟨cR_set hR ⟨hi1, hi2⟩ p3 p4, kW.2⟩, kN, kP, kC, kI0, kI1, kB, kPP⟩, hM0⟩
        · refine gT_n 3 ?_
          refine ⟨fun _ => ?_, fun c => absurd (by decide) c⟩
          refine gT_n 4 ?_
          refine ⟨rfl, pk_le 24 W.1.length (fun κ2 => ?_) (fun κ2 => ?_) (rfl) (hc) (by omega) (by omega)⟩
          · refine gT_n 1 ?_
            refine ⟨rfl, ?_⟩
            show gT _ 148 75 _ _ _ _ _
            refine gT_n 2 ?_
            exact absurd (rhit_mem_of hv0 hi) id
          · refine gT_n 6 ?_
            refine ⟨rfl, rfl, rfl, (pk_in W.1.length 24 (by omega) (hc)), ?_⟩
            refine gT_ivL (n := W.1.length) (X := (lN nm)) (hc) (by omega) (kN) ?_
            refine gT_n 6 ?_
            refine ⟨rfl, rfl, rfl, (pk_in W.1.length 24 (by omega) (hc)), ?_⟩
            refine gT_iv (n := W.1.length) (X := (nI k)) (hc) (by omega) (rfl) ?_
            refine gT_n 6 ?_
            refine ⟨rfl, rfl, rfl, (pk_in W.1.length 24 (by omega) (hc)), ?_⟩
            refine gT_iv (n := W.1.length) (X := (nI q)) (hc) (by omega) (rfl) ?_
            refine gT_n 7 ?_
            refine ⟨rfl, rfl, rfl, ?_⟩
            show gT _ 148 75 _ _ _ _ _
            refine gT_n 2 ?_
            exact absurd (rhit_mem_of hv0 hi) id
      · refine gT_n 4 ?_
        refine ⟨fun c => absurd (by decide) c, fun _ => ?_⟩
        refine gT_n 6 ?_
        refine ⟨rfl, rfl, rfl, pk_lt W.1.length 24 (fun κ3 => ?_) (fun κ3 => ?_) (hc) (rfl) (by omega) (by omega)⟩
        · refine gT_n 8 ?_
          refine ⟨rfl, rfl, rfl, rfl, rfl, ?_⟩
          refine gT_n 4 ?_
          refine ⟨rfl, rfl, gTM.useA (c_indexOf_18 hr hR oN hk) (Nat.le_refl _) (aR (aL (kN) (aI (rfl) (rfl)))) (fun r u hq => ?_)⟩
          obtain ⟨rfl, ⟨i, ⟨hi1, hi2⟩, rfl⟩ | ⟨hi, rfl⟩⟩ := hq  -- X7_indexOf[R18, lN nm, nI k]
          · refine gT_n 3 ?_
            refine ⟨fun c => absurd c (nI_pos (by omega)), fun _ => ?_⟩
            refine gT_n 5 ?_
            refine ⟨rfl, rfl, (pk_in i 24 (by omega) (rfl)), ?_⟩
            refine gT_iv (n := i) (X := (nI q)) (rfl) (by omega) (rfl) ?_
            refine gT_n 2 ?_
            refine ⟨rfl, ?_⟩
            show gT _ 148 75 _ _ _ _ _
            refine gT_n 2 ?_
            exact (rno_hit hno ⟨hi1, hi2⟩).elim
          · refine gT_n 3 ?_
            refine ⟨fun _ => ?_, fun c => absurd (by decide) c⟩
            refine gT_n 4 ?_
            refine ⟨rfl, pk_le 24 W.1.length (fun κ4 => ?_) (fun κ4 => ?_) (rfl) (hc) (by omega) (by omega)⟩
            · refine gT_n 1 ?_
              refine ⟨rfl, ?_⟩
              show gT _ 148 75 _ _ _ _ _
              refine gT_n 2 ?_
              exact absurd (show W.1.length < 24 by omega) (by omega)
            · refine gT_n 6 ?_
              refine ⟨rfl, rfl, rfl, (pk_in W.1.length 24 (by omega) (hc)), ?_⟩
              refine gT_ivL (n := W.1.length) (X := (lN nm)) (hc) (by omega) (kN) ?_
              refine gT_n 6 ?_
              refine ⟨rfl, rfl, rfl, (pk_in W.1.length 24 (by omega) (hc)), ?_⟩
              refine gT_iv (n := W.1.length) (X := (nI k)) (hc) (by omega) (rfl) ?_
              refine gT_n 6 ?_
              refine ⟨rfl, rfl, rfl, (pk_in W.1.length 24 (by omega) (hc)), ?_⟩
              refine gT_iv (n := W.1.length) (X := (nI q)) (hc) (by omega) (rfl) ?_
              refine gT_n 7 ?_
              refine ⟨rfl, rfl, rfl, ?_⟩
              show gT _ 148 75 _ _ _ _ _
              refine gT_n 2 ?_
              exact ⟨_, setR (tp, fn, t, W, nm, pr, ch, i0, i1) (W.1 ++ [(nm, k, q)]), _, _, P, rfl, rfl, ⟨(pif_pos hh).mpr ⟨k, q, hk, hq, rfl, rfl, Or.inr ⟨hno, (pif_pos (show W.1.length < 24 by omega)).mpr ⟨rfl, _, (List.perm_append_singleton _ _).symm, rfl⟩⟩⟩, setR_ok hO0 (rOK_perm (List.perm_append_singleton _ _).symm (rOK_cons hr (by omega) oN hk (by omega) hno))⟩, ⟨kTp, kF, kT, ⟨cR_cn (pk_addE (n := W.1.length) (k := 1) (hc) (rfl)) (cR_app hR), kW.2⟩, kN, kP, kC, kI0, kI1, kB, kPP⟩, hM0⟩
        · refine gT_n 2 ?_
          exact ⟨_, _, I, J, P, rfl, rfl, ⟨(pif_pos hh).mpr ⟨k, q, hk, hq, rfl, rfl, Or.inr ⟨hno, (pif_neg (show ¬ W.1.length < 24 by omega)).mpr ⟨rfl, rfl⟩⟩⟩, hO0⟩, hC0, hM0⟩
    · refine gT_n 2 ?_
      exact absurd (show W.1.length < 24 by omega) (by omega)
  · refine gT_n 2 ?_
    refine ⟨rfl, gTM.use (c_isSort) (Nat.le_refl _) (fun r u hq => ?_)⟩
    obtain ⟨rfl, ⟨rfl, β1⟩ | ⟨rfl, β1⟩⟩ := hq  -- X11_isSort[so]
    · refine gT_n 1 ?_
      refine ⟨fun c => absurd c (by decide), fun _ => ?_⟩
      refine gT_n 2 ?_
      refine px_lt (X := v) (Y := (0)) (rfl) (rfl) (fun κ2 => ?_) (fun κ2 => ?_)
      · refine gT_n 2 ?_
        exact ⟨_, _, I, J, P, rfl, rfl, ⟨(pif_neg hh).mpr ⟨rfl, rfl⟩, hO0⟩, hC0, hM0⟩
      · refine gT_n 3 ?_
        refine px_le (X := v) (Y := (99)) (rfl) (rfl) (fun κ3 => ?_) (fun κ3 => ?_)
        · exact absurd ⟨β1, inZ_of (by omega) κ2 (fun c => absurd (Int32.le_trans c κ3) (by decide))⟩ hh
        · refine gT_n 2 ?_
          exact ⟨_, _, I, J, P, rfl, rfl, ⟨(pif_neg hh).mpr ⟨rfl, rfl⟩, hO0⟩, hC0, hM0⟩
    · refine gT_n 1 ?_
      refine ⟨fun _ => ?_, fun c => absurd (by decide) c⟩
      refine gT_n 2 ?_
      exact ⟨_, _, I, J, P, rfl, rfl, ⟨(pif_neg hh).mpr ⟨rfl, rfl⟩, hO0⟩, hC0, hM0⟩
theorem o_remove_c {d : Nat} {s : zS} {I : Nat → Nat → Int32} {J : Nat → Nat → Int64} {P : Nat → Nat} {so : Int32} (hO : sOK s) (hC : RC s I J P) (hM : RM s I J) : gTM (d + 9) 149 [.ref 0, .int so] (gST I J P) (pC s (fRem s so)) := by
  obtain ⟨tp, fn, t, W, nm, pr, ch, i0, i1⟩ := s
  have hO0 := hO
  have hC0 := hC
  have hM0 := hM
  obtain ⟨oTp, oT, oW, oN, oP, oI0, oI1⟩ := hO
  obtain ⟨kTp, kF, kT, kW, kN, kP, kC, kI0, kI1, kB, kPP⟩ := hC
  obtain ⟨jTp, jF, jT, jSp, jW, jN, jP, jC, jI0, jI1, jB, jL⟩ := hM
  dsimp only at oTp oT oW oN oP oI0 oI1 kTp kF kT kW kN kP kC kI0 kI1 jTp jF jT jSp jW jN jP jC jI0 jI1
  try dsimp only
  by_cases hh : inZ 3 so
  · obtain ⟨k, hk, rfl⟩ := hh
    have hh : inZ 3 (nI k) := ⟨k, hk, rfl⟩
    have hr := oW.1
    have hR := kW.1
    obtain ⟨hc, hE⟩ := kW.1
    have hO := hr.o
    have h24 := hr.1
    refine gT_n 2 ?_
    refine ⟨rfl, gTM.use (c_isSort1 ⟨k, hk, rfl⟩) (Nat.le_refl _) (fun r u hq => ?_)⟩
    obtain ⟨rfl, rfl⟩ := hq  -- X11_isSort[nI k]
    refine gT_n 1 ?_
    refine ⟨fun _ => ?_, fun c => absurd c (by decide)⟩
    refine gT_n 7 ?_
    refine ⟨rfl, rfl, rfl, rfl, rfl, gTM.useA (c_valueOf hr hR oN hk) (Nat.le_refl _) (aR (aL (kN) (aI (rfl) (rfl)))) (fun r u hq => ?_)⟩
    obtain ⟨rfl, x1, ⟨v0, hv0, rfl⟩ | ⟨hno, rfl⟩, rfl⟩ := hq  -- X7_valueOf[R18, lN nm, nI k]
    · refine gT_n 8 ?_
      refine ⟨rfl, rfl, rfl, rfl, rfl, ?_⟩
      refine gT_n 4 ?_
      refine ⟨rfl, rfl, gTM.useA (c_indexOf_18 hr hR oN hk) (Nat.le_refl _) (aR (aL (kN) (aI (rfl) (rfl)))) (fun r u hq => ?_)⟩
      obtain ⟨rfl, ⟨i, ⟨hi1, hi2⟩, rfl⟩ | ⟨hi, rfl⟩⟩ := hq  -- X7_indexOf[R18, lN nm, nI k]
      · refine gT_n 3 ?_
        refine ⟨fun _ => ?_, fun c => absurd (nI_pos' (by omega)) c⟩
        refine gT_n 15 ?_
        refine ⟨rfl, rfl, rfl, rfl, rfl, rfl, (pk_in (W.1.length - 1) 24 (by omega) (pk_subE (n := W.1.length) (k := 1) (hc) (rfl) (by omega))), rfl, (pk_in i 24 (by omega) (rfl)), ?_⟩
        refine gT_ivL (n := i) (X := (lN ((rg W.1 (W.1.length - 1)).1))) (rfl) (by omega) (rdJ (pk_subE (n := W.1.length) (k := 1) (hc) (rfl) (by omega)) (by omega) (hE (W.1.length - 1) (by omega)).1) ?_
        refine gT_n 9 ?_
        refine ⟨rfl, rfl, rfl, rfl, (pk_in (W.1.length - 1) 24 (by omega) (pk_subE (n := W.1.length) (k := 1) (hc) (rfl) (by omega))), rfl, (pk_in i 24 (by omega) (rfl)), ?_⟩
        refine gT_iv (n := i) (X := (nI ((rg W.1 (W.1.length - 1)).2.1))) (rfl) (by omega) (rdI (pk_subE (n := W.1.length) (k := 1) (hc) (rfl) (by omega)) (by omega) (hE (W.1.length - 1) (by omega)).2.1) ?_
        refine gT_n 9 ?_
        refine ⟨rfl, rfl, rfl, rfl, (pk_in (W.1.length - 1) 24 (by omega) (pk_subE (n := W.1.length) (k := 1) (hc) (rfl) (by omega))), rfl, (pk_in i 24 (by omega) (rfl)), ?_⟩
        refine gT_iv (n := i) (X := (nI ((rg W.1 (W.1.length - 1)).2.2))) (rfl) (by omega) (rdI (pk_subE (n := W.1.length) (k := 1) (hc) (rfl) (by omega)) (by omega) (hE (W.1.length - 1) (by omega)).2.2) ?_
        refine gT_n 1 ?_
        refine ⟨rfl, ?_⟩
        show gT _ 149 40 _ _ _ _ _
        refine gT_n 2 ?_
        obtain ⟨l', p1, p2, p3⟩ := r_swap hi1
        rw [rhit_eq ⟨hi1, hi2⟩] at p1
        obtain rfl := (r_one hr (l1 := l') (v := v0) (List.perm_cons_erase hv0).symm p1).1
        exact ⟨_, setR (tp, fn, t, W, nm, pr, ch, i0, i1) l', _, _, P, rfl, rfl, ⟨(pif_pos hh).mpr ⟨k, hk, rfl, Or.inl ⟨_, l', p1, rfl, rfl⟩⟩, setR_ok hO0 (rOK_tl (rOK_perm p1.symm hr))⟩, ⟨kTp, kF, kT, ⟨cR_cn (pk_subE (n := W.1.length) (k := 1) (hc) (rfl) (by omega)) (cR_swap hR hi1 p2 p3), kW.2⟩, kN, kP, kC, kI0, kI1, kB, kPP⟩, hM0⟩
      · refine gT_n 3 ?_
        refine ⟨fun c => absurd c (by decide), fun _ => ?_⟩
        refine gT_n 1 ?_
        refine ⟨rfl, ?_⟩
        show gT _ 149 40 _ _ _ _ _
        refine gT_n 2 ?_
        exact absurd (rhit_mem_of hv0 hi) id
    · refine gT_n 8 ?_
      refine ⟨rfl, rfl, rfl, rfl, rfl, ?_⟩
      refine gT_n 4 ?_
      refine ⟨rfl, rfl, gTM.useA (c_indexOf_18 hr hR oN hk) (Nat.le_refl _) (aR (aL (kN) (aI (rfl) (rfl)))) (fun r u hq => ?_)⟩
      obtain ⟨rfl, ⟨i, ⟨hi1, hi2⟩, rfl⟩ | ⟨hi, rfl⟩⟩ := hq  -- X7_indexOf[R18, lN nm, nI k]
      · refine gT_n 3 ?_
        refine ⟨fun _ => ?_, fun c => absurd (nI_pos' (by omega)) c⟩
        refine gT_n 15 ?_
        refine ⟨rfl, rfl, rfl, rfl, rfl, rfl, (pk_in (W.1.length - 1) 24 (by omega) (pk_subE (n := W.1.length) (k := 1) (hc) (rfl) (by omega))), rfl, (pk_in i 24 (by omega) (rfl)), ?_⟩
        refine gT_ivL (n := i) (X := (lN ((rg W.1 (W.1.length - 1)).1))) (rfl) (by omega) (rdJ (pk_subE (n := W.1.length) (k := 1) (hc) (rfl) (by omega)) (by omega) (hE (W.1.length - 1) (by omega)).1) ?_
        refine gT_n 9 ?_
        refine ⟨rfl, rfl, rfl, rfl, (pk_in (W.1.length - 1) 24 (by omega) (pk_subE (n := W.1.length) (k := 1) (hc) (rfl) (by omega))), rfl, (pk_in i 24 (by omega) (rfl)), ?_⟩
        refine gT_iv (n := i) (X := (nI ((rg W.1 (W.1.length - 1)).2.1))) (rfl) (by omega) (rdI (pk_subE (n := W.1.length) (k := 1) (hc) (rfl) (by omega)) (by omega) (hE (W.1.length - 1) (by omega)).2.1) ?_
        refine gT_n 9 ?_
        refine ⟨rfl, rfl, rfl, rfl, (pk_in (W.1.length - 1) 24 (by omega) (pk_subE (n := W.1.length) (k := 1) (hc) (rfl) (by omega))), rfl, (pk_in i 24 (by omega) (rfl)), ?_⟩
        refine gT_iv (n := i) (X := (nI ((rg W.1 (W.1.length - 1)).2.2))) (rfl) (by omega) (rdI (pk_subE (n := W.1.length) (k := 1) (hc) (rfl) (by omega)) (by omega) (hE (W.1.length - 1) (by omega)).2.2) ?_
        refine gT_n 1 ?_
        refine ⟨rfl, ?_⟩
        show gT _ 149 40 _ _ _ _ _
        refine gT_n 2 ?_
        exact (rno_hit hno ⟨hi1, hi2⟩).elim
      · refine gT_n 3 ?_
        refine ⟨fun c => absurd c (by decide), fun _ => ?_⟩
        refine gT_n 1 ?_
        refine ⟨rfl, ?_⟩
        show gT _ 149 40 _ _ _ _ _
        refine gT_n 2 ?_
        exact ⟨_, _, I, J, P, rfl, rfl, ⟨(pif_pos hh).mpr ⟨k, hk, rfl, Or.inr ⟨hno, rfl, rfl⟩⟩, hO0⟩, hC0, hM0⟩
  · refine gT_n 2 ?_
    refine ⟨rfl, gTM.use (c_isSort) (Nat.le_refl _) (fun r u hq => ?_)⟩
    obtain ⟨rfl, ⟨rfl, β1⟩ | ⟨rfl, β1⟩⟩ := hq  -- X11_isSort[so]
    · refine gT_n 1 ?_
      refine ⟨fun _ => ?_, fun c => absurd c (by decide)⟩
      exact absurd β1 hh
    · refine gT_n 1 ?_
      refine ⟨fun c => absurd (by decide) c, fun _ => ?_⟩
      refine gT_n 2 ?_
      exact ⟨_, _, I, J, P, rfl, rfl, ⟨(pif_neg hh).mpr ⟨rfl, rfl⟩, hO0⟩, hC0, hM0⟩
