/-! items that change -/
def iMI (I X : Nat → Nat → Int32) : Nat → Nat → Int32 := fun a => cond (Nat.ble 147 a && Nat.ble a 166) (X a) (I a)
def iMJ (J Y : Nat → Nat → Int64) : Nat → Nat → Int64 := fun a => cond (Nat.ble 147 a && Nat.ble a 166) (Y a) (J a)
theorem iM_self {I : Nat → Nat → Int32} : iMI I I = I := by
  funext a
  unfold iMI
  cases Nat.ble 147 a && Nat.ble a 166 <;> rfl
theorem iJ_self {J : Nat → Nat → Int64} : iMJ J J = J := by
  funext a
  unfold iMJ
  cases Nat.ble 147 a && Nat.ble a 166 <;> rfl
theorem in_it {b : Nat} (h : 147 ≤ b ∧ b ≤ 166) : (Nat.ble 147 b && Nat.ble b 166) = true := by
  rw [Nat.ble_eq_true_of_le h.1, Nat.ble_eq_true_of_le h.2]; rfl
section
variable {I V : Nat → Nat → Int32} {J Y J' : Nat → Nat → Int64} {I' : Nat → Nat → Int32} {P : Nat → Nat} {b : Nat}
theorem iM_at (h : 147 ≤ b ∧ b ≤ 166) : iMI I V b = V b := by
  unfold iMI
  rw [in_it h]; rfl
theorem iJ_at (h : 147 ≤ b ∧ b ≤ 166) : iMJ J Y b = Y b := by
  unfold iMJ
  rw [in_it h]; rfl
theorem iM_r (h : 147 ≤ b ∧ b ≤ 166) {f : Nat} : iMI I V b f = V b f := by rw [iM_at h]
theorem iJ_r (h : 147 ≤ b ∧ b ≤ 166) {f : Nat} : iMJ J Y b f = Y b f := by rw [iJ_at h]
theorem gup_iM (h : 147 ≤ b ∧ b ≤ 166) {f : Nat} {x : Int32} : gupI (iMI I V) b f x = iMI I (gupI V b f x) := by
  funext a
  show (if a = b then upd (iMI I V b) f x else iMI I V a) = _
  by_cases e : a = b
  · subst e
    rw [if_pos rfl, iM_at h, iM_at h]
    show _ = (if a = a then upd (V a) f x else V a)
    rw [if_pos rfl]
  · rw [if_neg e]
    unfold iMI
    cases Nat.ble 147 a && Nat.ble a 166
    · rfl
    · show V a = (if a = b then upd (V b) f x else V a)
      rw [if_neg e]
theorem gup_iJ (h : 147 ≤ b ∧ b ≤ 166) {f : Nat} {x : Int64} : gupL (iMJ J Y) b f x = iMJ J (gupL Y b f x) := by
  funext a
  show (if a = b then vp_updL (iMJ J Y b) f x else iMJ J Y a) = _
  by_cases e : a = b
  · subst e
    rw [if_pos rfl, iJ_at h, iJ_at h]
    show _ = (if a = a then vp_updL (Y a) f x else Y a)
    rw [if_pos rfl]
  · rw [if_neg e]
    unfold iMJ
    cases Nat.ble 147 a && Nat.ble a 166
    · rfl
    · show Y a = (if a = b then vp_updL (Y b) f x else Y a)
      rw [if_neg e]
variable {d y pc f : Nat} {L : gL} {st : List Value} {cu : Nat × Nat} {Q : Option Value → gW → Prop}
theorem gT_iP (h : 147 ≤ b ∧ b ≤ 166) {x X : Int32} (ev : x = X) (g : gT d y pc L st cu (gST (iMI I (gupI V b f X)) J' P) Q) : gT d y pc L st cu ((gST (iMI I V) J' P).1, gupI (gST (iMI I V) J' P).2.1 b f x, (gST (iMI I V) J' P).2.2) Q := by
  subst ev
  show gT d y pc L st cu (gST (gupI (iMI I V) b f x) J' P) Q
  rw [gup_iM h]; exact g
theorem gT_iPJ (h : 147 ≤ b ∧ b ≤ 166) {x X : Int64} (ev : x = X) (g : gT d y pc L st cu (gST I' (iMJ J (gupL Y b f X)) P) Q) : gT d y pc L st cu ((gST I' (iMJ J Y) P).1, (gST I' (iMJ J Y) P).2.1, gupL (gST I' (iMJ J Y) P).2.2.1 b f x, (gST I' (iMJ J Y) P).2.2.2) Q := by
  subst ev
  show gT d y pc L st cu (gST I' (gupL (iMJ J Y) b f x) P) Q
  rw [gup_iJ h]; exact g
theorem gT_iA (h : 147 ≤ b ∧ b ≤ 166) {k : Nat} {T x X : Int32} (e : T = nI k) (hk : k < 2 ^ 31) (ev : x = X) (g : gT d y pc L st cu (gST (iMI I (gupI V b k X)) J' P) Q) : gT d y pc L st cu ((gST (iMI I V) J' P).1, gupI (gST (iMI I V) J' P).2.1 b T.toNatClampNeg x, (gST (iMI I V) J' P).2.2) Q := by
  subst ev
  rw [e, nI_clamp hk]
  show gT d y pc L st cu (gST (gupI (iMI I V) b k x) J' P) Q
  rw [gup_iM h]; exact g
theorem gupI_b {x : Int32} : gupI V b f x b = upd (V b) f x := if_pos rfl
theorem gupI_n {a : Nat} {x : Int32} (h : ¬ a = b) : gupI V b f x a = V a := if_neg h
theorem gupL_b {x : Int64} : gupL Y b f x b = vp_updL (Y b) f x := if_pos rfl
theorem gupL_n {a : Nat} {x : Int64} (h : ¬ a = b) : gupL Y b f x a = Y a := if_neg h
end
def setI (s : zS) (p : zP) (k : Nat) (q : zI) : zS := (s.1, s.2.1, s.2.2.1, s.2.2.2.1, s.2.2.2.2.1, some (p.1.set k q, p.2), s.2.2.2.2.2.2)
theorem ig_set {l : List zI} {k j : Nat} {q : zI} (hk : k < l.length) : ig (l.set k q) j = if j = k then q else ig l j := by
  unfold ig
  rw [List.getD_eq_getElem?_getD, List.getD_eq_getElem?_getD]
  by_cases c : j = k
  · subst c
    rw [if_pos rfl, List.getElem?_set_self hk]; rfl
  · rw [if_neg c, List.getElem?_set_ne (fun z => c z.symm)]
theorem setI_ok {s : zS} {p : zP} {k : Nat} {q : zI} (h : sOK s) (hp : s.2.2.2.2.2.1 = some p) (hq : iOK s.2.2.1 q) : sOK (setI s p k q) := by
  obtain ⟨h1, h2, h3, h4, h5, h6⟩ := h
  refine ⟨h1, h2, h3, h4, fun r hr => ?_, h6⟩
  cases hr
  obtain ⟨a, b, c⟩ := h5 p hp
  refine ⟨by rw [List.length_set]; exact a, fun x hx => ?_, c⟩
  rcases List.mem_or_eq_of_mem_set hx with e | e
  · exact b x e
  · rw [e]; exact hq
theorem cP_set {I X : Nat → Nat → Int32} {J Y : Nat → Nat → Int64} {P : Nat → Nat} {pr : zP} {k : Nat} {q : zI} (h : cP I J P pr) (hP : pP P) (hk : k < pr.1.length) (h10 : pr.1.length ≤ 10) (hX : ∀ a, ¬ a = P k → ¬ a = P k + 1 → X a = I a) (hY : ∀ a, ¬ a = P k → Y a = J a) (hq : cI (X (P k)) (X (P k + 1)) (Y (P k)) q) : cP (iMI I X) (iMJ J Y) P (pr.1.set k q, pr.2) := by
  refine ⟨?_, h.2.1, h.2.2.1, h.2.2.2.1, h.2.2.2.2.1, fun k' hk' j hj e => ?_⟩
  · show I 145 1 = _
    rw [h.1, List.length_set]
  · rw [List.length_set] at hk'
    have h1 := iF_at (I := iMI I X) (J := iMJ J Y) hj
    rw [h1.1, h1.2.1, h1.2.2, iM_at (by omega), iM_at (by omega), iJ_at (by omega), ig_set hk]
    by_cases c : k' = k
    · subst c
      rw [if_pos rfl, ← e]; exact hq
    · rw [if_neg c]
      obtain ⟨pm, hp1, hp2⟩ := hP
      have a1 := hp1 k' (by omega)
      have a2 := hp1 k (by omega)
      have hne : ¬ P k' = P k := fun z => c (hp2 k' k (by omega) (by omega) (by omega))
      have hne2 : ¬ P k' = P k + 1 := by omega
      have hne3 : ¬ P k' + 1 = P k := by omega
      have hne4 : ¬ P k' + 1 = P k + 1 := by omega
      have b := h.2.2.2.2.2 k' hk' j hj e
      have h2 := iF_at (I := I) (J := J) hj
      rw [h2.1, h2.2.1, h2.2.2] at b
      rw [← e] at b ⊢
      rw [hX _ hne hne2, hX _ hne3 hne4, hY _ hne]
      exact b
theorem RC_item {s : zS} {I X : Nat → Nat → Int32} {J Y : Nat → Nat → Int64} {P : Nat → Nat} {p : zP} {k : Nat} {q : zI} (hO : sOK s) (hC : RC s I J P) (hp : s.2.2.2.2.2.1 = some p) (hk : k < p.1.length) (hX : ∀ a, ¬ a = P k → ¬ a = P k + 1 → X a = I a) (hY : ∀ a, ¬ a = P k → Y a = J a) (hq : cI (X (P k)) (X (P k + 1)) (Y (P k)) q) : RC (setI s p k q) (iMI I X) (iMJ J Y) P := by
  have h10 := (hO.2.2.2.2.1 p hp).1
  obtain ⟨kTp, kF, kT, kW, kN, kP, kC, kI0, kI1, kB, kPP⟩ := hC
  have e : I 145 2 = bI s.2.2.2.2.2.1.isSome := kP.1
  rw [hp] at e
  refine ⟨kTp, kF, kT, kW, kN, ⟨e, fun r hr => ?_⟩, kC, kI0, kI1, kB, kPP⟩
  cases hr
  exact cP_set (kP.2 p hp) kPP hk h10 hX hY hq
theorem RM_item {s : zS} {I X : Nat → Nat → Int32} {J Y : Nat → Nat → Int64} (h : RM s I J) : RM s (iMI I X) (iMJ J Y) := h
theorem mP_set {ct ck so : Int32} {nm : Int64} {kd zn os nu sg mk kd' zn' os' nu' sg' mk' : Nat → Int32} {jo jx jo' jx' : Nat → Int64} {pr : zP} {k : Nat} {q : zI} (h : mP ct ck so nm kd zn os nu sg mk jo jx pr) (hk : k < pr.1.length) (h1 : mI k kd' zn' os' nu' sg' mk' jo' jx' q) (h2 : ∀ j, ¬ j = k → ∀ r, mI j kd zn os nu sg mk jo jx r → mI j kd' zn' os' nu' sg' mk' jo' jx' r) : mP ct ck so nm kd' zn' os' nu' sg' mk' jo' jx' (pr.1.set k q, pr.2) := by
  refine ⟨by rw [List.length_set]; exact h.1, h.2.1, h.2.2.1, h.2.2.2.1, fun j hj => ?_⟩
  rw [List.length_set] at hj
  show mI j kd' zn' os' nu' sg' mk' jo' jx' (ig (pr.1.set k q) j)
  rw [ig_set hk]
  by_cases c : j = k
  · subst c
    rw [if_pos rfl]; exact h1
  · rw [if_neg c]; exact h2 j c _ (h.2.2.2.2 j hj)
