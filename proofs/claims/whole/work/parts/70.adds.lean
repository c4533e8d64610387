/-! items being made: the class -/
def aMI (I X : Nat → Nat → Int32) : Nat → Nat → Int32 := fun a => cond (Nat.ble 142 a && Nat.ble a 166) (X a) (I a)
def aMJ (J Y : Nat → Nat → Int64) : Nat → Nat → Int64 := fun a => cond (Nat.ble 142 a && Nat.ble a 166) (Y a) (J a)
theorem aM_self {I : Nat → Nat → Int32} : aMI I I = I := by
  funext a
  unfold aMI
  cases Nat.ble 142 a && Nat.ble a 166 <;> rfl
theorem aJ_self {J : Nat → Nat → Int64} : aMJ J J = J := by
  funext a
  unfold aMJ
  cases Nat.ble 142 a && Nat.ble a 166 <;> rfl
theorem in_at {b : Nat} (h : 142 ≤ b ∧ b ≤ 166) : (Nat.ble 142 b && Nat.ble b 166) = true := by
  rw [Nat.ble_eq_true_of_le h.1, Nat.ble_eq_true_of_le h.2]; rfl
section
variable {I V : Nat → Nat → Int32} {J Y J' : Nat → Nat → Int64} {I' : Nat → Nat → Int32} {P : Nat → Nat} {b : Nat}
theorem aM_at (h : 142 ≤ b ∧ b ≤ 166) : aMI I V b = V b := by
  unfold aMI
  rw [in_at h]; rfl
theorem aJ_at (h : 142 ≤ b ∧ b ≤ 166) : aMJ J Y b = Y b := by
  unfold aMJ
  rw [in_at h]; rfl
theorem aM_r (h : 142 ≤ b ∧ b ≤ 166) {f : Nat} : aMI I V b f = V b f := by rw [aM_at h]
theorem aJ_r (h : 142 ≤ b ∧ b ≤ 166) {f : Nat} : aMJ J Y b f = Y b f := by rw [aJ_at h]
theorem gup_aM (h : 142 ≤ b ∧ b ≤ 166) {f : Nat} {x : Int32} : gupI (aMI I V) b f x = aMI I (gupI V b f x) := by
  funext a
  show (if a = b then upd (aMI I V b) f x else aMI I V a) = _
  by_cases e : a = b
  · subst e
    rw [if_pos rfl, aM_at h, aM_at h]
    show _ = (if a = a then upd (V a) f x else V a)
    rw [if_pos rfl]
  · rw [if_neg e]
    unfold aMI
    cases Nat.ble 142 a && Nat.ble a 166
    · rfl
    · show V a = (if a = b then upd (V b) f x else V a)
      rw [if_neg e]
theorem gup_aJ (h : 142 ≤ b ∧ b ≤ 166) {f : Nat} {x : Int64} : gupL (aMJ J Y) b f x = aMJ J (gupL Y b f x) := by
  funext a
  show (if a = b then vp_updL (aMJ J Y b) f x else aMJ J Y a) = _
  by_cases e : a = b
  · subst e
    rw [if_pos rfl, aJ_at h, aJ_at h]
    show _ = (if a = a then vp_updL (Y a) f x else Y a)
    rw [if_pos rfl]
  · rw [if_neg e]
    unfold aMJ
    cases Nat.ble 142 a && Nat.ble a 166
    · rfl
    · show Y a = (if a = b then vp_updL (Y b) f x else Y a)
      rw [if_neg e]
variable {d y pc f : Nat} {L : gL} {st : List Value} {cu : Nat × Nat} {Q : Option Value → gW → Prop}
theorem gT_aP (h : 142 ≤ b ∧ b ≤ 166) {x X : Int32} (ev : x = X) (g : gT d y pc L st cu (gST (aMI I (gupI V b f X)) J' P) Q) : gT d y pc L st cu ((gST (aMI I V) J' P).1, gupI (gST (aMI I V) J' P).2.1 b f x, (gST (aMI I V) J' P).2.2) Q := by
  subst ev
  show gT d y pc L st cu (gST (gupI (aMI I V) b f x) J' P) Q
  rw [gup_aM h]; exact g
theorem gT_aPJ (h : 142 ≤ b ∧ b ≤ 166) {x X : Int64} (ev : x = X) (g : gT d y pc L st cu (gST I' (aMJ J (gupL Y b f X)) P) Q) : gT d y pc L st cu ((gST I' (aMJ J Y) P).1, (gST I' (aMJ J Y) P).2.1, gupL (gST I' (aMJ J Y) P).2.2.1 b f x, (gST I' (aMJ J Y) P).2.2.2) Q := by
  subst ev
  show gT d y pc L st cu (gST I' (gupL (aMJ J Y) b f x) P) Q
  rw [gup_aJ h]; exact g
theorem gT_aA (h : 142 ≤ b ∧ b ≤ 166) {k : Nat} {T x X : Int32} (e : T = nI k) (hk : k < 2 ^ 31) (ev : x = X) (g : gT d y pc L st cu (gST (aMI I (gupI V b k X)) J' P) Q) : gT d y pc L st cu ((gST (aMI I V) J' P).1, gupI (gST (aMI I V) J' P).2.1 b T.toNatClampNeg x, (gST (aMI I V) J' P).2.2) Q := by
  subst ev
  rw [e, nI_clamp hk]
  show gT d y pc L st cu (gST (gupI (aMI I V) b k x) J' P) Q
  rw [gup_aM h]; exact g
theorem aM_out (h : ¬ (142 ≤ b ∧ b ≤ 166)) : aMI I V b = I b := by
  unfold aMI
  have : (Nat.ble 142 b && Nat.ble b 166) = false := by
    cases h1 : Nat.ble 142 b
    · rfl
    · cases h2 : Nat.ble b 166
      · rfl
      · exact absurd ⟨Nat.le_of_ble_eq_true h1, Nat.le_of_ble_eq_true h2⟩ h
  rw [this]; rfl
theorem vu_b {α : Type} {V : Nat → α} {b : Nat} {r : α} : va_up V b r b = r := if_pos rfl
theorem vu_n {α : Type} {V : Nat → α} {a b : Nat} {r : α} (h : ¬ a = b) : va_up V b r a = V a := if_neg h
theorem vup_aM (h : 142 ≤ b ∧ b ≤ 166) {r : Nat → Int32} : va_up (aMI I V) b r = aMI I (va_up V b r) := by
  funext a
  by_cases e : a = b
  · subst e
    rw [vu_b, aM_at h, vu_b]
  · rw [vu_n e]
    unfold aMI
    rw [vu_n e]
theorem gT_aC {c : Nat} (h : 142 ≤ b ∧ b ≤ 166) (g : gT d y pc L st cu (gST (aMI I (va_up V b (va_cpy (aMI I V c) (V b) 0 0 3))) J' P) Q) : gT d y pc L st cu ((gST (aMI I V) J' P).1, va_up (gST (aMI I V) J' P).2.1 b (va_cpy ((gST (aMI I V) J' P).2.1 c) ((gST (aMI I V) J' P).2.1 b) (0 : Int32).toNatClampNeg (0 : Int32).toNatClampNeg (3 : Int32).toNatClampNeg), (gST (aMI I V) J' P).2.2) Q := by
  show gT d y pc L st cu (gST (va_up (aMI I V) b (va_cpy (aMI I V c) (aMI I V b) 0 0 3)) J' P) Q
  rw [aM_at h, vup_aM h]; exact g
end
def cB (I : Nat → Nat → Int32) (J : Nat → Nat → Int64) (P : Nat → Nat) (l : List zI) : Prop := I 145 1 = nI l.length ∧ ∀ k, k < l.length → cI (I (P k)) (I (P k + 1)) (J (P k)) (ig l k)
def aN (I : Nat → Nat → Int32) (J : Nat → Nat → Int64) (P : Nat → Nat) (l : List zI) (I' : Nat → Nat → Int32) (J' : Nat → Nat → Int64) (q : zI) : Prop := I' 145 1 = nI (l.length + 1) ∧ (∀ f, ¬ f = 1 → I' 145 f = I 145 f) ∧ (∀ a, ¬ a = 145 → ¬ a = P l.length → ¬ a = P l.length + 1 → I' a = I a) ∧ (∀ a, ¬ a = P l.length → J' a = J a) ∧ cI (I' (P l.length)) (I' (P l.length + 1)) (J' (P l.length)) q
theorem pP_at {P : Nat → Nat} (h : pP P) {k : Nat} (hk : k < 10) : ∃ j, j < 10 ∧ P k = 147 + 2 * j := by
  obtain ⟨p, hp, -⟩ := h
  exact ⟨p k, hp k hk⟩
theorem pP_r {P : Nat → Nat} (h : pP P) {k : Nat} (hk : k < 10) : 147 ≤ P k ∧ P k ≤ 165 := by
  obtain ⟨j, hj, e⟩ := pP_at h hk
  omega
theorem ig_app1 {l X : List zI} {j : Nat} (h : j < l.length) : ig (l ++ X) j = ig l j := by
  unfold ig
  rw [List.getD_eq_getElem?_getD, List.getD_eq_getElem?_getD, List.getElem?_append_left h]
theorem ig_app2 {l : List zI} {q : zI} : ig (l ++ [q]) l.length = q := by
  unfold ig
  rw [List.getD_eq_getElem?_getD, List.getElem?_append_right (Nat.le_refl _), Nat.sub_self]; rfl
section
variable {I I' X : Nat → Nat → Int32} {J J' Y : Nat → Nat → Int64} {P : Nat → Nat} {l : List zI} {q q' : zI}
theorem aN_B (hP : pP P) (hl : l.length < 10) (hB : cB I J P l) (h : aN I J P l I' J' q) : cB I' J' P (l ++ [q]) := by
  obtain ⟨p, hp, inj⟩ := hP
  obtain ⟨h1, h2, h3, h4, h5⟩ := h
  refine ⟨by rw [List.length_append]; exact h1, fun k hk => ?_⟩
  rw [List.length_append] at hk
  have hk : k < l.length + 1 := hk
  rcases Nat.lt_or_ge k l.length with g | g
  · have a1 := (hp k (by omega)).2
    have a2 := (hp l.length (by omega)).2
    have ne : ¬ p k = p l.length := fun c => by have := inj k l.length (by omega) (by omega) c; omega
    rw [ig_app1 g, h3 (P k) (by omega) (by omega) (by omega), h3 (P k + 1) (by omega) (by omega) (by omega), h4 (P k) (by omega)]
    exact hB.2 k g
  · have : k = l.length := by omega
    subst this
    rw [ig_app2]; exact h5
theorem aN_mod (hP : pP P) (hl : l.length < 10) (h : aN I J P l I' J' q) (hX : ∀ a, ¬ a = P l.length → ¬ a = P l.length + 1 → X a = I' a) (hY : ∀ a, ¬ a = P l.length → Y a = J' a) (hq : cI (X (P l.length)) (X (P l.length + 1)) (Y (P l.length)) q') : aN I J P l X Y q' := by
  have hr := pP_r hP hl
  obtain ⟨h1, h2, h3, h4, h5⟩ := h
  refine ⟨?_, fun f hf => ?_, fun a a1 a2 a3 => (hX a a2 a3).trans (h3 a a1 a2 a3), fun a a1 => (hY a a1).trans (h4 a a1), hq⟩
  · rw [hX 145 (by omega) (by omega)]; exact h1
  · rw [hX 145 (by omega) (by omega)]; exact h2 f hf
theorem aN_I (hP : pP P) (hl : l.length < 10) (h : aN I J P l I' J' q) : I' 142 = I 142 ∧ I' 144 = I 144 ∧ J' 143 = J 143 ∧ J' 145 = J 145 := by
  have hr := pP_r hP hl
  exact ⟨h.2.2.1 142 (by omega) (by omega) (by omega), h.2.2.1 144 (by omega) (by omega) (by omega), h.2.2.2.1 143 (by omega), h.2.2.2.1 145 (by omega)⟩
theorem aN_O {os : zO} (hP : pP P) (hl : l.length < 10) (h : aN I J P l I' J' q) (hO : cO (I 142 2) (J 143) (I 144) os) : cO (I' 142 2) (J' 143) (I' 144) os := by
  obtain ⟨e1, e2, e3, e4⟩ := aN_I hP hl h
  rw [e1, e2, e3]; exact hO
end
theorem c_fresh {d z o : Nat} {kd sg : Int32} {I0 I : Nat → Nat → Int32} {J0 J : Nat → Nat → Int64} {P : Nat → Nat} {l : List zI} (hP : pP P) (hB : cB I J P l) (hl : l.length < 10) : gTM (d + 1) 54 [.ref 145, .int kd, .int (nI z), .long (lN o), .int sg] (gST (aMI I0 I) (aMJ J0 J) P) (fun r u => r = some (.ref (P l.length)) ∧ ∃ I' J', u = gST (aMI I0 I') (aMJ J0 J') P ∧ aN I J P l I' J' (kd, z, o, 0, 0, (0, 0, 0), sg, 0)) := by
  have hr := pP_r hP hl
  obtain ⟨jj, hjj, eP⟩ := pP_at hP hl
  have hb : iCell P (P l.length) := by rw [eP]; exact iCell_at hjj
  have hbb : 142 ≤ P l.length ∧ P l.length ≤ 166 := by omega
  have hbb1 : 142 ≤ P l.length + 1 ∧ P l.length + 1 ≤ 166 := by omega
  have n1 : ¬ 145 = P l.length := by omega
  have n2 : ¬ 145 = P l.length + 1 := by omega
  have n3 : ¬ P l.length = P l.length + 1 := by omega
  have n4 : ¬ P l.length + 1 = P l.length := by omega
  refine gT_n 4 ?_
  refine ⟨rfl, pk_le 10 l.length (fun κ1 => ?_) (fun κ1 => ?_) (rfl) (hB.1) (by omega) (by omega)⟩
  · exact absurd hl (by omega)
  · refine gT_n 4 ?_
    refine ⟨rfl, ?_⟩
    refine gT_k (L := [(6, .int (nI l.length)), (0, .ref 145), (1, .int kd), (2, .int (nI z)), (3, .long (lN o)), (5, .int sg)]) ?_ ⟨(viI (hB.1)), rfl, rfl, rfl, rfl, rfl, trivial⟩ rfl
    refine gT_n 4 ?_
    refine ⟨rfl, rfl, (pk_in l.length 10 (by omega) (rfl)), ?_⟩
    refine gT_top (aa_ref (b := P l.length) (rfl) (by omega) rfl) ?_
    refine gT_n 5 ?_
    refine ⟨hb.ob, rfl, ?_⟩
    refine gT_n 3 ?_
    refine ⟨hb.ob, ?_⟩
    refine gT_aP hbb (X := kd) (rfl) ?_
    refine gT_n 3 ?_
    refine ⟨hb.ob, ?_⟩
    refine gT_aP hbb (X := (nI z)) (rfl) ?_
    refine gT_n 3 ?_
    refine ⟨hb.ob, ?_⟩
    refine gT_aPJ hbb (X := (lN o)) (rfl) ?_
    refine gT_n 3 ?_
    refine ⟨hb.ob, ?_⟩
    refine gT_aPJ hbb (X := (lN 0)) (rfl) ?_
    refine gT_n 3 ?_
    refine ⟨hb.ob, ?_⟩
    refine gT_aP hbb (X := 0) (rfl) ?_
    refine gT_n 3 ?_
    refine ⟨hb.ob, ?_⟩
    refine gT_aP hbb (X := sg) (rfl) ?_
    refine gT_n 3 ?_
    refine ⟨hb.ob, ?_⟩
    refine gT_aP hbb (X := 0) (rfl) ?_
    refine gT_n 5 ?_
    refine ⟨fun c => absurd c (by decide), fun _ => ?_⟩
    refine gT_n 2 ?_
    refine ⟨hb.ob, ?_⟩
    refine gT_top (hb.v5) ?_
    refine gT_n 3 ?_
    refine ⟨hb.ar1, (pk_inS (m := 3) (k := 0) (hb.ln1) (by decide) (rfl)), ?_⟩
    refine gT_aA hbb1 (k := 0) (X := 0) (rfl) (by decide) (rfl) ?_
    refine gT_n 5 ?_
    refine ⟨fun c => absurd c (by decide), fun _ => ?_⟩
    refine gT_n 2 ?_
    refine ⟨hb.ob, ?_⟩
    refine gT_top (hb.v5) ?_
    refine gT_n 3 ?_
    refine ⟨hb.ar1, (pk_inS (m := 3) (k := 1) (hb.ln1) (by decide) (rfl)), ?_⟩
    refine gT_aA hbb1 (k := 1) (X := 0) (rfl) (by decide) (rfl) ?_
    refine gT_n 5 ?_
    refine ⟨fun c => absurd c (by decide), fun _ => ?_⟩
    refine gT_n 2 ?_
    refine ⟨hb.ob, ?_⟩
    refine gT_top (hb.v5) ?_
    refine gT_n 3 ?_
    refine ⟨hb.ar1, (pk_inS (m := 3) (k := 2) (hb.ln1) (by decide) (rfl)), ?_⟩
    refine gT_aA hbb1 (k := 2) (X := 0) (rfl) (by decide) (rfl) ?_
    refine gT_n 5 ?_
    refine ⟨fun _ => ?_, fun c => absurd (by decide) c⟩
    refine gT_n 1 ?_
    refine ⟨rfl, ?_⟩
    show gT _ 54 35 _ _ _ _ _
    refine gT_n 5 ?_
    refine ⟨rfl, ?_⟩
    refine gT_aP (b := 145) (by decide) (X := (nI (l.length + 1))) (pk_addE (n := l.length) (k := 1) (rfl) (rfl)) ?_
    refine gT_n 4 ?_
    refine ⟨rfl, rfl, (pk_in l.length 10 (by omega) (rfl)), ?_⟩
    refine gT_top (aa_ref (b := P l.length) (rfl) (by omega) rfl) ?_
    refine gT_n 1 ?_
    refine ⟨⟨_, rfl⟩, ?_⟩
    refine ⟨rfl, _, _, rfl, ?_⟩
    refine ⟨gupI_rr, fun f hf => ?_, fun a a1 a2 a3 => ?_, fun a a1 => ?_, ?_⟩
    · rw [gupI_b]
      refine (if_neg hf).trans ?_
      simp only [gupI_n n1, gupI_n n2]
    · simp only [gupI_n a1, gupI_n a2, gupI_n a3]
    · simp only [gupL_n a1]
    · simp only [gupI_n n3, gupI_n n4, gupI_n (fun e => n1 (Eq.symm e)), gupI_n (fun e => n2 (Eq.symm e)), gupI_b, gupL_b]
      exact ⟨⟨rfl, rfl, rfl, rfl, rfl⟩, ⟨rfl, rfl⟩, rfl, rfl, rfl⟩
/-- the items that are made, their marks not yet put -/
def qKey (t : zT) (W : zW) (z : Nat) : zI := (1, z, t.2.1 z, 0, 0, ((kg (W.2.1 z) 0).1, (kg (W.2.1 z) 1).1, (kg (W.2.1 z) 2).1), W.2.2.2.1 z, 0)
def qDig (t : zT) (W : zW) (z : Nat) : zI := (0, z, t.2.1 z, 0, 0, ((kg (W.2.2.1 z) 0).1, (kg (W.2.2.1 z) 1).1, (kg (W.2.2.1 z) 2).1), W.2.2.2.1 (zpa t z), 0)
def qLnk (W : zW) (z : Nat) (os : zO) (i : Nat) : zI := (3, z, (og os i).1, onx os i, (og os i).2, (0, 0, 0), W.2.2.2.1 z, 0)
def qRec (W : zW) (z o s : Nat) (x : Int32) : zI := (2, z, o, 0, s, (x, 0, 0), W.2.2.2.1 z, 0)
theorem c_addKeys {d z : Nat} {I0 I : Nat → Nat → Int32} {J0 J : Nat → Nat → Int64} {P : Nat → Nat} {l : List zI} {t : zT} {W : zW} (hz : zOK t) (hW : cW 17 I0 J0 W) (hT : cTr I0 J0 t) (hP : pP P) (hB : cB I J P l) (hl : l.length < 10) (hzz : z < t.1) : gTM (d + 2) 55 [.ref 145, .int (nI z)] (gST (aMI I0 I) (aMJ J0 J) P) (fun r u => r = none ∧ ∃ I' J', u = gST (aMI I0 I') (aMJ J0 J') P ∧ aN I J P l I' J' (qKey t W z)) := by
  have h4 := hz.2.1
  have hz4 : z < 4 := by omega
  have hr := pP_r hP hl
  obtain ⟨jj, hjj, eP⟩ := pP_at hP hl
  have hb : iCell P (P l.length) := by rw [eP]; exact iCell_at hjj
  have hbb : 142 ≤ P l.length ∧ P l.length ≤ 166 := by omega
  have hbb1 : 142 ≤ P l.length + 1 ∧ P l.length + 1 ≤ 166 := by omega
  have n1 : ¬ 145 = P l.length := by omega
  have n2 : ¬ 145 = P l.length + 1 := by omega
  have n3 : ¬ P l.length = P l.length + 1 := by omega
  have n4 : ¬ P l.length + 1 = P l.length := by omega
  refine gT_n 14 ?_
  refine ⟨rfl, rfl, rfl, (pk_in z 4 (by omega) (rfl)), rfl, rfl, rfl, (pk_in z 4 (by omega) (rfl)), rfl, rfl, gTM.useA (c_fresh (z := z) (o := t.2.1 z) (kd := 1) (sg := W.2.2.2.1 z) hP hB hl) (Nat.le_refl _) (aR (aI (rfl) (aI (rfl) (aL ((rdJ (rfl) (by omega) (hT.1.2.1 z (by omega)))) (aI ((rdI (rfl) (by omega) (cA_at hW (by omega)))) (rfl)))))) (fun r u hq => ?_)⟩
  obtain ⟨rfl, I1, J1, rfl, hN⟩ := hq  -- X5_fresh[R145, K1, nI z, lN ((t.2.1 z)), (W.2.2.2.1 z)]
  refine gT_n 6 ?_
  refine ⟨rfl, rfl, rfl, (pk_in z 4 (by omega) (rfl)), ?_⟩
  refine gT_top (aa_ref (b := 34 + 6 * z) (rfl) (by omega) (kRow_out (P := P) hz4).2) ?_
  refine gT_n 1 ?_
  refine ⟨(kRow_out (P := P) hz4).1.ob, ?_⟩
  refine gT_top ((kRow_out (P := P) hz4).1.v0) ?_
  refine gT_n 3 ?_
  refine ⟨hb.ob, ?_⟩
  refine gT_top (hb.v5) ?_
  refine gT_n 3 ?_
  refine ⟨rfl, (kRow_out (P := P) hz4).1.ar1, hb.ar1, ⟨by decide, by decide, by decide, by rw [(kRow_out (P := P) hz4).1.ln1]; decide, by rw [hb.ln1]; decide⟩, ?_⟩
  refine gT_aC hbb1 ?_
  refine gT_n 1 ?_
  refine ⟨rfl, ?_⟩
  refine ⟨rfl, _, _, rfl, aN_mod hP hl hN (fun a _ h2 => vu_n h2) (fun _ _ => rfl) ?_⟩
  have h5 := hN.2.2.2.2
  rw [vu_n n3, vu_b, aM_out (by omega)]
  exact ⟨h5.1, h5.2.1, (cK_out hW hz4).2.1⟩
theorem c_addDigests {d z : Nat} {I0 I : Nat → Nat → Int32} {J0 J : Nat → Nat → Int64} {P : Nat → Nat} {l : List zI} {t : zT} {W : zW} (hz : zOK t) (hW : cW 17 I0 J0 W) (hT : cTr I0 J0 t) (hP : pP P) (hB : cB I J P l) (hl : l.length < 10) (hzz : z < t.1) : gTM (d + 2) 56 [.ref 145, .int (nI z), .int (nI (zpa t z))] (gST (aMI I0 I) (aMJ J0 J) P) (fun r u => r = none ∧ ∃ I' J', u = gST (aMI I0 I') (aMJ J0 J') P ∧ aN I J P l I' J' (qDig t W z)) := by
  have h4 := hz.2.1
  have hz4 : z < 4 := by omega
  have hzp : zpa t z < t.1 := zof_lt hz _
  have hr := pP_r hP hl
  obtain ⟨jj, hjj, eP⟩ := pP_at hP hl
  have hb : iCell P (P l.length) := by rw [eP]; exact iCell_at hjj
  have hbb : 142 ≤ P l.length ∧ P l.length ≤ 166 := by omega
  have hbb1 : 142 ≤ P l.length + 1 ∧ P l.length + 1 ≤ 166 := by omega
  have n1 : ¬ 145 = P l.length := by omega
  have n2 : ¬ 145 = P l.length + 1 := by omega
  have n3 : ¬ P l.length = P l.length + 1 := by omega
  have n4 : ¬ P l.length + 1 = P l.length := by omega
  refine gT_n 14 ?_
  refine ⟨rfl, rfl, rfl, (pk_in z 4 (by omega) (rfl)), rfl, rfl, rfl, (pk_in ((zpa t z)) 4 (by omega) (rfl)), rfl, rfl, gTM.useA (c_fresh (z := z) (o := t.2.1 z) (kd := 0) (sg := W.2.2.2.1 (zpa t z)) hP hB hl) (Nat.le_refl _) (aR (aI (rfl) (aI (rfl) (aL ((rdJ (rfl) (by omega) (hT.1.2.1 z (by omega)))) (aI ((rdI (rfl) (by omega) (cA_at hW (by omega)))) (rfl)))))) (fun r u hq => ?_)⟩
  obtain ⟨rfl, I1, J1, rfl, hN⟩ := hq  -- X5_fresh[R145, K0, nI z, lN ((t.2.1 z)), (W.2.2.2.1 ((zpa t z)))]
  refine gT_n 6 ?_
  refine ⟨rfl, rfl, rfl, (pk_in z 4 (by omega) (rfl)), ?_⟩
  refine gT_top (aa_ref (b := 37 + 6 * z) (rfl) (by omega) (kRow_dig (P := P) hz4).2) ?_
  refine gT_n 1 ?_
  refine ⟨(kRow_dig (P := P) hz4).1.ob, ?_⟩
  refine gT_top ((kRow_dig (P := P) hz4).1.v0) ?_
  refine gT_n 3 ?_
  refine ⟨hb.ob, ?_⟩
  refine gT_top (hb.v5) ?_
  refine gT_n 3 ?_
  refine ⟨rfl, (kRow_dig (P := P) hz4).1.ar1, hb.ar1, ⟨by decide, by decide, by decide, by rw [(kRow_dig (P := P) hz4).1.ln1]; decide, by rw [hb.ln1]; decide⟩, ?_⟩
  refine gT_aC hbb1 ?_
  refine gT_n 1 ?_
  refine ⟨rfl, ?_⟩
  refine ⟨rfl, _, _, rfl, aN_mod hP hl hN (fun a _ h2 => vu_n h2) (fun _ _ => rfl) ?_⟩
  have h5 := hN.2.2.2.2
  rw [vu_n n3, vu_b, aM_out (by omega)]
  exact ⟨h5.1, h5.2.1, (cK_dig hW hz4).2.1⟩
theorem c_addLink {d z i : Nat} {I0 I : Nat → Nat → Int32} {J0 J : Nat → Nat → Int64} {P : Nat → Nat} {l : List zI} {t : zT} {W : zW} (hz : zOK t) (hW : cW 17 I0 J0 W) (hT : cTr I0 J0 t) (hP : pP P) (hB : cB I J P l) (hl : l.length < 10) {os : zO} (h28 : os.length ≤ 28) (hO : cO (I 142 2) (J 143) (I 144) os) (hi : i < os.length) (hzz : z < t.1) : gTM (d + 2) 58 [.ref 145, .int (nI z), .int (nI i)] (gST (aMI I0 I) (aMJ J0 J) P) (fun r u => r = none ∧ ∃ I' J', u = gST (aMI I0 I') (aMJ J0 J') P ∧ aN I J P l I' J' (qLnk W z os i)) := by
  have h4 := hz.2.1
  have hr := pP_r hP hl
  obtain ⟨jj, hjj, eP⟩ := pP_at hP hl
  have hb : iCell P (P l.length) := by rw [eP]; exact iCell_at hjj
  have hbb : 142 ≤ P l.length ∧ P l.length ≤ 166 := by omega
  have hbb1 : 142 ≤ P l.length + 1 ∧ P l.length + 1 ≤ 166 := by omega
  have n1 : ¬ 145 = P l.length := by omega
  have n2 : ¬ 145 = P l.length + 1 := by omega
  have n3 : ¬ P l.length = P l.length + 1 := by omega
  have n4 : ¬ P l.length + 1 = P l.length := by omega
  refine gT_n 2 ?_
  refine ⟨fun c => absurd c (nI_pos (by omega)), fun _ => ?_⟩
  refine gT_n 5 ?_
  refine ⟨rfl, rfl, pk_lt i os.length (fun κ1 => ?_) (fun κ1 => ?_) (rfl) (hO.1) (by omega) (by omega)⟩
  · refine gT_n 14 ?_
    refine ⟨rfl, rfl, rfl, (pk_in i 28 (by omega) (rfl)), rfl, rfl, rfl, (pk_in z 4 (by omega) (rfl)), rfl, rfl, gTM.useA (c_fresh (z := z) (o := (og os i).1) (kd := 3) (sg := W.2.2.2.1 z) hP hB hl) (Nat.le_refl _) (aR (aI (rfl) (aI (rfl) (aL ((rdJ (k := i) (rfl) (by omega) (hO.2 i (by omega)).1)) (aI ((rdI (rfl) (by omega) (cA_at hW (by omega)))) (rfl)))))) (fun r u hq => ?_)⟩
    obtain ⟨rfl, I1, J1, rfl, hN⟩ := hq  -- X5_fresh[R145, K3, nI z, lN ((og os i).1), (W.2.2.2.1 z)]
    replace hO := aN_O hP hl hN hO
    refine gT_n 6 ?_
    refine ⟨rfl, rfl, rfl, ?_⟩
    refine gT_n 6 ?_
    refine ⟨rfl, pk_le os.length (i + 1) (fun κ2 => ?_) (fun κ2 => ?_) (hO.1) (pk_addE (n := i) (k := 1) (rfl) (rfl)) (by omega) (by omega)⟩
    · refine gT_n 5 ?_
      refine ⟨rfl, rfl, (pk_in 0 28 (by decide) rfl), rfl, ?_⟩
      show gT _ 58 50 _ _ _ _ _
      refine gT_n 1 ?_
      refine ⟨hb.ob, ?_⟩
      refine gT_aPJ hbb (X := (lN ((og os 0).1))) ((rdJ (k := 0) (rfl) (by omega) (hO.2 0 (by omega)).1)) ?_
      refine gT_n 7 ?_
      refine ⟨rfl, rfl, rfl, (pk_in i 28 (by omega) (rfl)), hb.ob, ?_⟩
      refine gT_aP hbb (X := (nI ((og os i).2))) ((rdI (k := i) (rfl) (by omega) (hO.2 i (by omega)).2)) ?_
      refine gT_n 1 ?_
      refine ⟨rfl, ?_⟩
      refine ⟨rfl, _, _, rfl, aN_mod hP hl hN (fun a h1 _ => gupI_n h1) (fun a h1 => gupL_n h1) ?_⟩
      have h5 := hN.2.2.2.2
      rw [gupI_b, gupI_n n4, gupL_b]
      exact ⟨⟨h5.1.1, h5.1.2.1, rfl, h5.1.2.2.2.1, h5.1.2.2.2.2⟩, ⟨h5.2.1.1, congrArg lN (Eq.symm (if_neg (by omega)))⟩, h5.2.2⟩
    · refine gT_n 8 ?_
      refine ⟨rfl, rfl, (pk_in (i + 1) 28 (by omega) (pk_addE (n := i) (k := 1) (rfl) (rfl))), rfl, ?_⟩
      show gT _ 58 50 _ _ _ _ _
      refine gT_n 1 ?_
      refine ⟨hb.ob, ?_⟩
      refine gT_aPJ hbb (X := (lN ((og os (i + 1)).1))) ((rdJ (k := (i + 1)) (pk_addE (n := i) (k := 1) (rfl) (rfl)) (by omega) (hO.2 (i + 1) (by omega)).1)) ?_
      refine gT_n 7 ?_
      refine ⟨rfl, rfl, rfl, (pk_in i 28 (by omega) (rfl)), hb.ob, ?_⟩
      refine gT_aP hbb (X := (nI ((og os i).2))) ((rdI (k := i) (rfl) (by omega) (hO.2 i (by omega)).2)) ?_
      refine gT_n 1 ?_
      refine ⟨rfl, ?_⟩
      refine ⟨rfl, _, _, rfl, aN_mod hP hl hN (fun a h1 _ => gupI_n h1) (fun a h1 => gupL_n h1) ?_⟩
      have h5 := hN.2.2.2.2
      rw [gupI_b, gupI_n n4, gupL_b]
      exact ⟨⟨h5.1.1, h5.1.2.1, rfl, h5.1.2.2.2.1, h5.1.2.2.2.2⟩, ⟨h5.2.1.1, congrArg lN (Eq.symm (if_pos (by omega)))⟩, h5.2.2⟩
  · exact absurd hi (by omega)
theorem c_addRecord {d z o s : Nat} {I0 I : Nat → Nat → Int32} {J0 J : Nat → Nat → Int64} {P : Nat → Nat} {l : List zI} {t : zT} {W : zW} (hz : zOK t) (hW : cW 17 I0 J0 W) (hT : cTr I0 J0 t) (hP : pP P) (hB : cB I J P l) (hl : l.length < 10) (hzz : z < t.1) (hr24 : rOK W.1) (ho : vn o) (hs : s < 3) (h5 : I 145 5 = nI z) (h4s : I 145 4 = nI s) : gTM (d + 4) 57 [.ref 145, .long (lN o)] (gST (aMI I0 I) (aMJ J0 J) P) (fun r u => r = none ∧ ∃ x, rVal W.1 o s x ∧ ∃ I' J', u = gST (aMI I0 I') (aMJ J0 J') P ∧ aN I J P l I' J' (qRec W z o s x)) := by
  have h4 := hz.2.1
  have hr := pP_r hP hl
  obtain ⟨jj, hjj, eP⟩ := pP_at hP hl
  have hb : iCell P (P l.length) := by rw [eP]; exact iCell_at hjj
  have hbb : 142 ≤ P l.length ∧ P l.length ≤ 166 := by omega
  have hbb1 : 142 ≤ P l.length + 1 ∧ P l.length + 1 ≤ 166 := by omega
  have n1 : ¬ 145 = P l.length := by omega
  have n2 : ¬ 145 = P l.length + 1 := by omega
  have n3 : ¬ P l.length = P l.length + 1 := by omega
  have n4 : ¬ P l.length + 1 = P l.length := by omega
  refine gT_n 12 ?_
  refine ⟨rfl, rfl, rfl, rfl, rfl, (pk_in z 4 (by omega) (h5)), rfl, rfl, gTM.useA (c_fresh (z := z) (o := o) (kd := 2) (sg := W.2.2.2.1 z) hP hB hl) (Nat.le_refl _) (aR (aI (rfl) (aI (h5) (aL (rfl) (aI ((rdI (h5) (by omega) (cA_at hW (by omega)))) (rfl)))))) (fun r u hq => ?_)⟩
  obtain ⟨rfl, I1, J1, rfl, hN⟩ := hq  -- X5_fresh[R145, K2, nI z, lN o, (W.2.2.2.1 z)]
  have h4b : I1 145 4 = nI s := (hN.2.1 4 (by decide)).trans h4s
  refine gT_n 5 ?_
  refine ⟨rfl, hb.ob, ?_⟩
  refine gT_aP hbb (X := (nI s)) ((by first | exact h4s | exact h4b | exact (congrFun (gupI_n n1) 4).trans h4b)) ?_
  refine gT_n 2 ?_
  refine ⟨hb.ob, ?_⟩
  refine gT_top (hb.v5) ?_
  refine gT_n 8 ?_
  refine ⟨rfl, rfl, rfl, rfl, rfl, gTM.useA (c_valueOf hr24 hW.1 ho hs) (Nat.le_refl _) (aR (aL (rfl) (aI ((by first | exact h4s | exact h4b | exact (congrFun (gupI_n n1) 4).trans h4b)) (rfl)))) (fun r u hq => ?_)⟩
  obtain ⟨rfl, x, hx, rfl⟩ := hq  -- X7_valueOf[R18, lN o, nI s]
  refine gT_n 1 ?_
  refine ⟨hb.ar1, (pk_inS (m := 3) (k := 0) (hb.ln1) (by decide) (rfl)), ?_⟩
  refine gT_aA hbb1 (k := 0) (X := x) (rfl) (by decide) (rfl) ?_
  refine gT_n 1 ?_
  refine ⟨rfl, ?_⟩
  refine ⟨rfl, x, hx, _, _, rfl, aN_mod hP hl hN (fun a h1 h2 => ?_) (fun a h1 => rfl) ?_⟩
  · rw [gupI_n h2, gupI_n h1]
  have h5 := hN.2.2.2.2
  rw [gupI_n n3, gupI_b, gupI_b, gupI_n n4]
  exact ⟨⟨h5.1.1, h5.1.2.1, rfl, h5.1.2.2.2.1, h5.1.2.2.2.2⟩, h5.2.1, rfl, h5.2.2.2.1, h5.2.2.2.2⟩
