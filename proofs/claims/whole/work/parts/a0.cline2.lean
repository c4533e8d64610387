/-! records, the span, lines: the class -/
theorem advTo_r {n : Nat} {b : Nat → Nat} {a k : Nat} {q : tk3} (h : advTo n b a k (.inr q)) : adv n b a (.inr q) ∧ q.2.2 = k := by
  obtain ⟨r0, h0, h1⟩ := h
  cases r0 with
  | inl f => exact absurd h1 (by simp)
  | inr q0 =>
    have h1 : pif (q0.2.2 = k) (Sum.inr q = (Sum.inr q0 : zF ⊕ tk3)) (Sum.inr q = (Sum.inl (2, q0.1) : zF ⊕ tk3)) := h1
    by_cases c : q0.2.2 = k
    · have e := (pif_pos c).mp h1
      cases e
      exact ⟨h0, c⟩
    · exact absurd ((pif_neg c).mp h1) (by simp)
theorem num_99 {n : Nat} {b : Nat → Nat} {a : Nat} {q : tk3} (h : adv n b a (.inr q)) (hk : q.2.2 = 2) : num b q ≤ 99 := by
  have g := (adv_r h).2.2.2.2.2.2.2 hk
  have g2 := (adv_r h).2.2.2.2.2.1
  have d0 := g.1 q.1 (Nat.le_refl _) (by omega)
  unfold num
  by_cases c : q.2.1 - q.1 = 1
  · rw [if_pos c]; omega
  · rw [if_neg c]
    have d1 := g.1 (q.1 + 1) (by omega) (by omega)
    omega
theorem rapp_ok {l : zR} {m so v : Nat} (h : rOK l) (h24 : l.length < 24) (hm : vn m) (hs : so < 3) (hv : v ≤ 99) (hn : rno l m so) : rOK (l ++ [(m, so, v)]) := by
  refine ⟨by rw [List.length_append]; show l.length + 1 ≤ 24; omega, fun q hq => ?_, ?_⟩
  · rcases List.mem_append.mp hq with g | g
    · exact h.2.1 q g
    · rw [List.mem_singleton.mp g]; exact ⟨hm, hs, hv⟩
  · rw [List.map_append, List.nodup_append]
    refine ⟨h.2.2, by simp, fun a ha c hc e => ?_⟩
    have e2 : c = (m, so) := List.mem_singleton.mp hc
    subst e
    obtain ⟨q, hq, e3⟩ := List.mem_map.mp ha
    obtain ⟨i, hi, e4⟩ := mem_rg hq
    rw [e2] at e3
    refine hn i hi ?_
    rw [e4]
    exact ⟨congrArg Prod.fst e3, congrArg Prod.snd e3⟩
theorem cR_ap2 {c : Int32} {jn : Nat → Int64} {is iv : Nat → Int32} {l : zR} {m so v : Nat} (h : cR c jn is iv l) : cR (nI (l.length + 1)) (vp_updL jn l.length (lN m)) (upd is l.length (nI so)) (upd iv l.length (nI v)) (l ++ [(m, so, v)]) := by
  refine ⟨by rw [List.length_append]; rfl, fun i hi => ?_⟩
  rw [List.length_append] at hi
  have hi : i < l.length + 1 := hi
  by_cases e : i = l.length
  · have eg : rg (l ++ [(m, so, v)]) i = (m, so, v) := by
      unfold rg
      rw [e, List.getD_eq_getElem?_getD, List.getElem?_append_right (Nat.le_refl _), Nat.sub_self]; rfl
    rw [eg, updL_y e, upd_y e, upd_y e]
    exact ⟨rfl, rfl, rfl⟩
  · have eg : rg (l ++ [(m, so, v)]) i = rg l i := by
      unfold rg
      rw [List.getD_eq_getElem?_getD, List.getD_eq_getElem?_getD, List.getElem?_append_left (by omega)]
    rw [eg, updL_ne e, upd_ne e, upd_ne e]
    exact h.2 i (by omega)
theorem c_write {d m so v : Nat} {l : zR} {I X : Nat → Nat → Int32} {J Y : Nat → Nat → Int64} {P : Nat → Nat} (hr : rOK l) (hR : cR (X 8 3) (Y 9) (X 10) (X 11) l) (hm : vn m) (hs : so < 3) (hno : rno l m so) (h24 : l.length < 24) : gTM (d + 1) 80 [.ref 8, .long (lN m), .int (nI so), .int (nI v)] (gST (uM I X) (uJ J Y) P) (fun r u => r = none ∧ ∃ X' Y', u = gST (uM I X') (uJ J Y') P ∧ (∀ a, ¬ (8 ≤ a ∧ a ≤ 11) → X' a = X a) ∧ (∀ a, ¬ (8 ≤ a ∧ a ≤ 11) → Y' a = Y a) ∧ cR (X' 8 3) (Y' 9) (X' 10) (X' 11) (l ++ [(m, so, v)])) := by
  refine gT_n 4 ?_
  refine ⟨rfl, rfl, gTM.use (c_indexOf_8 (I := uM I X) (J := uJ J Y) hr hR hm hs) (Nat.le_refl _) (fun r u hq => ?_)⟩
  obtain ⟨rfl, ⟨i, hi, rfl⟩ | ⟨hi, rfl⟩⟩ := hq  -- X7_indexOf[R8, lN m, nI so]
  · refine gT_n 3 ?_
    refine ⟨fun c => absurd c (nI_pos (by have := hi.1; have := hr.1; omega)), fun _ => ?_⟩
    exact absurd ⟨hi.2.1, hi.2.2⟩ (hno i hi.1)
  · refine gT_n 3 ?_
    refine ⟨fun _ => ?_, fun c => absurd (by decide) c⟩
    refine gT_n 4 ?_
    refine ⟨rfl, pk_le 24 l.length (fun κ1 => ?_) (fun κ1 => ?_) (rfl) (hR.1) (by omega) (by omega)⟩
    · refine gT_n 1 ?_
      refine ⟨rfl, ?_⟩
      exact absurd h24 (by omega)
    · refine gT_n 6 ?_
      refine ⟨rfl, rfl, rfl, (pk_inS (m := 24) (k := l.length) (rfl) (by omega) (hR.1)), ?_⟩
      refine gT_uN (b := 9) rfl (n := l.length) (X := (lN m)) (hR.1) (by omega) (rfl) ?_
      refine gT_n 6 ?_
      refine ⟨rfl, rfl, rfl, (pk_inS (m := 24) (k := l.length) (rfl) (by omega) (hR.1)), ?_⟩
      refine gT_uA (b := 10) rfl (n := l.length) (X := (nI so)) (hR.1) (by omega) (rfl) ?_
      refine gT_n 6 ?_
      refine ⟨rfl, rfl, rfl, (pk_inS (m := 24) (k := l.length) (rfl) (by omega) (hR.1)), ?_⟩
      refine gT_uA (b := 11) rfl (n := l.length) (X := (nI v)) (hR.1) (by omega) (rfl) ?_
      refine gT_n 6 ?_
      refine ⟨rfl, rfl, ?_⟩
      refine gT_uC (b := 8) rfl (X := (nI (l.length + 1))) (pk_addE (n := l.length) (k := 1) (hR.1) (rfl)) ?_
      refine gT_n 1 ?_
      refine ⟨rfl, ?_⟩
      refine ⟨rfl, _, _, rfl, fun a h1 => ?_, fun a h1 => gupL_n (by omega), cR_ap2 hR⟩
      rw [gupI_n (by omega), gupI_n (by omega), gupI_n (by omega)]
theorem c_rec2_0 {d m : Nat} {I X : Nat → Nat → Int32} {J Y : Nat → Nat → Int64} {P : Nat → Nat} {n : Nat} {b : Nat → Nat} (hT : tpe I n b) {q1 : tk3} (ht1 : tIs n b q1) (hq1 : qT X q1) {D : zD} (hD : dft X Y D) (hO : dOK D) (hY1 : Y 1 10 = lN m) (hvm : vn m) (h24 : D.2.1.length < 24) : gT (d + 4) 70 87 [(1, .int 0), (0, .ref 1)] [] (0, 0) (gST (uM I X) (uJ J Y) P) (fun r u => ∃ rr X' Y', rRc2 n b D m 0 q1 rr ∧ u = gST (uM I X') (uJ J Y') P ∧ lOut n X' Y' r rr) := by
  have hn2 := hT.2.1
  refine gT_n 3 ?_
  refine ⟨rfl, rfl, gTM.use (c_advanceTo (k := 2) hT (by obtain ⟨a1, h1⟩ := ht1; exact (adv_r h1).2.2.1) hq1.1 hq1.2.2.2 (by decide)) (Nat.le_refl _) (fun r u hq => ?_)⟩
  obtain ⟨f, X2, h2, rfl, rfl, hf2, ho2⟩ | ⟨q2, X2, h2, rfl, rfl, hf2, hq2⟩ := hq  -- X6_advanceTo[R1, K2]
  · refine gT_n 1 ?_
    refine ⟨fun c => absurd (by decide) c, fun _ => ?_⟩
    refine gT_n 2 ?_
    refine ⟨(Or.inl rfl), ?_⟩
    exact ⟨.inl f, X2, Y, ⟨_, h2, rfl⟩, rfl, rfl, ho2, b6_fr hf2 (fun _ _ => rfl) (b6_d hD hO)⟩
  · refine gT_n 1 ?_
    refine ⟨fun _ => ?_, fun c => absurd c (by decide)⟩
    refine gT_n 2 ?_
    refine ⟨rfl, rfl, gTM.use (c_number hT ⟨_, (advTo_r h2).1⟩ hq2 (advTo_r h2).2) (Nat.le_refl _) (fun r u hq => ?_)⟩
    obtain ⟨rfl, rfl⟩ := hq  -- X6_number[R1]
    refine gT_n 4 ?_
    refine ⟨rfl, rfl, gTM.use (c_advanceTo (k := 5) hT (adv_r (advTo_r h2).1).2.2.1 hq2.1 hq2.2.2.2 (by decide)) (Nat.le_refl _) (fun r u hq => ?_)⟩
    obtain ⟨f, X3, h3, rfl, rfl, hf3, ho3⟩ | ⟨q3, X3, h3, rfl, rfl, hf3, hq3⟩ := hq  -- X6_advanceTo[R1, K5]
    · refine gT_n 1 ?_
      refine ⟨fun c => absurd (by decide) c, fun _ => ?_⟩
      refine gT_n 2 ?_
      refine ⟨(Or.inl rfl), ?_⟩
      exact ⟨.inl f, X3, Y, ⟨_, h2, _, h3, rfl⟩, rfl, rfl, ho3, b6_fr (uFr_T hf2 hf3) (fun _ _ => rfl) (b6_d hD hO)⟩
    · have hD3 := dft_fr (uFr_T hf2 hf3) (fun _ _ => rfl) hD
      have hY3 : Y 1 10 = lN m := hY1
      refine gT_n 1 ?_
      refine ⟨fun _ => ?_, fun c => absurd c (by decide)⟩
      refine gT_n 6 ?_
      refine ⟨rfl, rfl, rfl, rfl, gTM.useA (c_indexOf_8 (I := uM I X3) (J := uJ J Y) (s := 0) hO.2.1 hD3.2.2.1 hvm (by decide)) (Nat.le_refl _) (aR (aL (hY1) (aI (rfl) (rfl)))) (fun r u hq => ?_)⟩
      obtain ⟨rfl, ⟨i, hi, rfl⟩ | ⟨hi, rfl⟩⟩ := hq  -- X7_indexOf[R8, lN m, K0]
      · refine gT_n 1 ?_
        refine ⟨fun c => absurd c (nI_pos (by have := hi.1; have := hO.2.1.1; omega)), fun _ => ?_⟩
        refine gT_n 5 ?_
        refine ⟨rfl, rfl, rfl, gTM.useA (c_fail (c := 5) (p := q3.1)) (Nat.le_refl _) (aR (aI (rfl) (aI (hq3.2.2.1) (rfl)))) (fun r u hq => ?_)⟩
        obtain ⟨rfl, rfl⟩ := hq  -- X6_fail[R1, K5, nI q3.1]
        refine gT_n 1 ?_
        refine ⟨(Or.inl rfl), ?_⟩
        exact ⟨.inl (5, q3.1), _, Y, ⟨_, h2, _, h3, (pif_neg (fun c => c i hi.1 ⟨hi.2.1, hi.2.2⟩)).mpr rfl⟩, rfl, rfl, ⟨rfl, rfl⟩, b6_fr (uFr_f (uFr_T hf2 hf3)) (fun _ _ => rfl) (b6_d hD hO)⟩
      · refine gT_n 1 ?_
        refine ⟨fun _ => ?_, fun c => absurd (by decide) c⟩
        refine gT_n 7 ?_
        refine ⟨rfl, rfl, rfl, rfl, gTM.useA (c_write (so := 0) (v := num b q2) hO.2.1 hD3.2.2.1 hvm (by decide) hi h24) (Nat.le_refl _) (aR (aL (hY1) (aI (rfl) (aI (rfl) (rfl))))) (fun r u hq => ?_)⟩
        obtain ⟨rfl, X4, Y4, rfl, hx4, hy4, hw4⟩ := hq  -- X7_write[R8, lN m, K0, nI ((num b q2))]
        refine gT_n 2 ?_
        refine ⟨(Or.inr rfl), ?_⟩
        exact ⟨.inr ((D.1, D.2.1 ++ [(m, 0, num b q2)], D.2.2), q3.2.1), X4, Y4, ⟨_, h2, _, h3, (pif_pos hi).mpr rfl⟩, rfl, rfl, ⟨(by rw [hx4 3 (by omega), hx4 5 (by omega), hx4 6 (by omega), hy4 4 (by omega)]; exact hD3.1), (by rw [hx4 3 (by omega)]; exact hD3.2.1), hw4, (by rw [hx4 1 (by omega)]; exact hD3.2.2.2.1), (by rw [hx4 7 (by omega)]; exact hD3.2.2.2.2)⟩, ⟨hO.1, rapp_ok hO.2.1 h24 hvm (by decide) (num_99 (advTo_r h2).1 (advTo_r h2).2) hi, hO.2.2⟩, (by rw [hx4 1 (by omega)]; exact hq3.1), (by rw [hx4 1 (by omega)]; exact hq3.2.2.2), (adv_r (advTo_r h3).1).2.2.1⟩
theorem c_rec2_1 {d m : Nat} {I X : Nat → Nat → Int32} {J Y : Nat → Nat → Int64} {P : Nat → Nat} {n : Nat} {b : Nat → Nat} (hT : tpe I n b) {q1 : tk3} (ht1 : tIs n b q1) (hq1 : qT X q1) {D : zD} (hD : dft X Y D) (hO : dOK D) (hY1 : Y 1 10 = lN m) (hvm : vn m) (h24 : D.2.1.length < 24) : gT (d + 4) 70 87 [(1, .int 1), (0, .ref 1)] [] (0, 0) (gST (uM I X) (uJ J Y) P) (fun r u => ∃ rr X' Y', rRc2 n b D m 1 q1 rr ∧ u = gST (uM I X') (uJ J Y') P ∧ lOut n X' Y' r rr) := by
  have hn2 := hT.2.1
  refine gT_n 3 ?_
  refine ⟨rfl, rfl, gTM.use (c_advanceTo (k := 2) hT (by obtain ⟨a1, h1⟩ := ht1; exact (adv_r h1).2.2.1) hq1.1 hq1.2.2.2 (by decide)) (Nat.le_refl _) (fun r u hq => ?_)⟩
  obtain ⟨f, X2, h2, rfl, rfl, hf2, ho2⟩ | ⟨q2, X2, h2, rfl, rfl, hf2, hq2⟩ := hq  -- X6_advanceTo[R1, K2]
  · refine gT_n 1 ?_
    refine ⟨fun c => absurd (by decide) c, fun _ => ?_⟩
    refine gT_n 2 ?_
    refine ⟨(Or.inl rfl), ?_⟩
    exact ⟨.inl f, X2, Y, ⟨_, h2, rfl⟩, rfl, rfl, ho2, b6_fr hf2 (fun _ _ => rfl) (b6_d hD hO)⟩
  · refine gT_n 1 ?_
    refine ⟨fun _ => ?_, fun c => absurd c (by decide)⟩
    refine gT_n 2 ?_
    refine ⟨rfl, rfl, gTM.use (c_number hT ⟨_, (advTo_r h2).1⟩ hq2 (advTo_r h2).2) (Nat.le_refl _) (fun r u hq => ?_)⟩
    obtain ⟨rfl, rfl⟩ := hq  -- X6_number[R1]
    refine gT_n 4 ?_
    refine ⟨rfl, rfl, gTM.use (c_advanceTo (k := 5) hT (adv_r (advTo_r h2).1).2.2.1 hq2.1 hq2.2.2.2 (by decide)) (Nat.le_refl _) (fun r u hq => ?_)⟩
    obtain ⟨f, X3, h3, rfl, rfl, hf3, ho3⟩ | ⟨q3, X3, h3, rfl, rfl, hf3, hq3⟩ := hq  -- X6_advanceTo[R1, K5]
    · refine gT_n 1 ?_
      refine ⟨fun c => absurd (by decide) c, fun _ => ?_⟩
      refine gT_n 2 ?_
      refine ⟨(Or.inl rfl), ?_⟩
      exact ⟨.inl f, X3, Y, ⟨_, h2, _, h3, rfl⟩, rfl, rfl, ho3, b6_fr (uFr_T hf2 hf3) (fun _ _ => rfl) (b6_d hD hO)⟩
    · have hD3 := dft_fr (uFr_T hf2 hf3) (fun _ _ => rfl) hD
      have hY3 : Y 1 10 = lN m := hY1
      refine gT_n 1 ?_
      refine ⟨fun _ => ?_, fun c => absurd c (by decide)⟩
      refine gT_n 6 ?_
      refine ⟨rfl, rfl, rfl, rfl, gTM.useA (c_indexOf_8 (I := uM I X3) (J := uJ J Y) (s := 1) hO.2.1 hD3.2.2.1 hvm (by decide)) (Nat.le_refl _) (aR (aL (hY1) (aI (rfl) (rfl)))) (fun r u hq => ?_)⟩
      obtain ⟨rfl, ⟨i, hi, rfl⟩ | ⟨hi, rfl⟩⟩ := hq  -- X7_indexOf[R8, lN m, K1]
      · refine gT_n 1 ?_
        refine ⟨fun c => absurd c (nI_pos (by have := hi.1; have := hO.2.1.1; omega)), fun _ => ?_⟩
        refine gT_n 5 ?_
        refine ⟨rfl, rfl, rfl, gTM.useA (c_fail (c := 5) (p := q3.1)) (Nat.le_refl _) (aR (aI (rfl) (aI (hq3.2.2.1) (rfl)))) (fun r u hq => ?_)⟩
        obtain ⟨rfl, rfl⟩ := hq  -- X6_fail[R1, K5, nI q3.1]
        refine gT_n 1 ?_
        refine ⟨(Or.inl rfl), ?_⟩
        exact ⟨.inl (5, q3.1), _, Y, ⟨_, h2, _, h3, (pif_neg (fun c => c i hi.1 ⟨hi.2.1, hi.2.2⟩)).mpr rfl⟩, rfl, rfl, ⟨rfl, rfl⟩, b6_fr (uFr_f (uFr_T hf2 hf3)) (fun _ _ => rfl) (b6_d hD hO)⟩
      · refine gT_n 1 ?_
        refine ⟨fun _ => ?_, fun c => absurd (by decide) c⟩
        refine gT_n 7 ?_
        refine ⟨rfl, rfl, rfl, rfl, gTM.useA (c_write (so := 1) (v := num b q2) hO.2.1 hD3.2.2.1 hvm (by decide) hi h24) (Nat.le_refl _) (aR (aL (hY1) (aI (rfl) (aI (rfl) (rfl))))) (fun r u hq => ?_)⟩
        obtain ⟨rfl, X4, Y4, rfl, hx4, hy4, hw4⟩ := hq  -- X7_write[R8, lN m, K1, nI ((num b q2))]
        refine gT_n 2 ?_
        refine ⟨(Or.inr rfl), ?_⟩
        exact ⟨.inr ((D.1, D.2.1 ++ [(m, 1, num b q2)], D.2.2), q3.2.1), X4, Y4, ⟨_, h2, _, h3, (pif_pos hi).mpr rfl⟩, rfl, rfl, ⟨(by rw [hx4 3 (by omega), hx4 5 (by omega), hx4 6 (by omega), hy4 4 (by omega)]; exact hD3.1), (by rw [hx4 3 (by omega)]; exact hD3.2.1), hw4, (by rw [hx4 1 (by omega)]; exact hD3.2.2.2.1), (by rw [hx4 7 (by omega)]; exact hD3.2.2.2.2)⟩, ⟨hO.1, rapp_ok hO.2.1 h24 hvm (by decide) (num_99 (advTo_r h2).1 (advTo_r h2).2) hi, hO.2.2⟩, (by rw [hx4 1 (by omega)]; exact hq3.1), (by rw [hx4 1 (by omega)]; exact hq3.2.2.2), (adv_r (advTo_r h3).1).2.2.1⟩
theorem c_rec2_2 {d m : Nat} {I X : Nat → Nat → Int32} {J Y : Nat → Nat → Int64} {P : Nat → Nat} {n : Nat} {b : Nat → Nat} (hT : tpe I n b) {q1 : tk3} (ht1 : tIs n b q1) (hq1 : qT X q1) {D : zD} (hD : dft X Y D) (hO : dOK D) (hY1 : Y 1 10 = lN m) (hvm : vn m) (h24 : D.2.1.length < 24) : gT (d + 4) 70 87 [(1, .int 2), (0, .ref 1)] [] (0, 0) (gST (uM I X) (uJ J Y) P) (fun r u => ∃ rr X' Y', rRc2 n b D m 2 q1 rr ∧ u = gST (uM I X') (uJ J Y') P ∧ lOut n X' Y' r rr) := by
  have hn2 := hT.2.1
  refine gT_n 3 ?_
  refine ⟨rfl, rfl, gTM.use (c_advanceTo (k := 2) hT (by obtain ⟨a1, h1⟩ := ht1; exact (adv_r h1).2.2.1) hq1.1 hq1.2.2.2 (by decide)) (Nat.le_refl _) (fun r u hq => ?_)⟩
  obtain ⟨f, X2, h2, rfl, rfl, hf2, ho2⟩ | ⟨q2, X2, h2, rfl, rfl, hf2, hq2⟩ := hq  -- X6_advanceTo[R1, K2]
  · refine gT_n 1 ?_
    refine ⟨fun c => absurd (by decide) c, fun _ => ?_⟩
    refine gT_n 2 ?_
    refine ⟨(Or.inl rfl), ?_⟩
    exact ⟨.inl f, X2, Y, ⟨_, h2, rfl⟩, rfl, rfl, ho2, b6_fr hf2 (fun _ _ => rfl) (b6_d hD hO)⟩
  · refine gT_n 1 ?_
    refine ⟨fun _ => ?_, fun c => absurd c (by decide)⟩
    refine gT_n 2 ?_
    refine ⟨rfl, rfl, gTM.use (c_number hT ⟨_, (advTo_r h2).1⟩ hq2 (advTo_r h2).2) (Nat.le_refl _) (fun r u hq => ?_)⟩
    obtain ⟨rfl, rfl⟩ := hq  -- X6_number[R1]
    refine gT_n 4 ?_
    refine ⟨rfl, rfl, gTM.use (c_advanceTo (k := 5) hT (adv_r (advTo_r h2).1).2.2.1 hq2.1 hq2.2.2.2 (by decide)) (Nat.le_refl _) (fun r u hq => ?_)⟩
    obtain ⟨f, X3, h3, rfl, rfl, hf3, ho3⟩ | ⟨q3, X3, h3, rfl, rfl, hf3, hq3⟩ := hq  -- X6_advanceTo[R1, K5]
    · refine gT_n 1 ?_
      refine ⟨fun c => absurd (by decide) c, fun _ => ?_⟩
      refine gT_n 2 ?_
      refine ⟨(Or.inl rfl), ?_⟩
      exact ⟨.inl f, X3, Y, ⟨_, h2, _, h3, rfl⟩, rfl, rfl, ho3, b6_fr (uFr_T hf2 hf3) (fun _ _ => rfl) (b6_d hD hO)⟩
    · have hD3 := dft_fr (uFr_T hf2 hf3) (fun _ _ => rfl) hD
      have hY3 : Y 1 10 = lN m := hY1
      refine gT_n 1 ?_
      refine ⟨fun _ => ?_, fun c => absurd c (by decide)⟩
      refine gT_n 6 ?_
      refine ⟨rfl, rfl, rfl, rfl, gTM.useA (c_indexOf_8 (I := uM I X3) (J := uJ J Y) (s := 2) hO.2.1 hD3.2.2.1 hvm (by decide)) (Nat.le_refl _) (aR (aL (hY1) (aI (rfl) (rfl)))) (fun r u hq => ?_)⟩
      obtain ⟨rfl, ⟨i, hi, rfl⟩ | ⟨hi, rfl⟩⟩ := hq  -- X7_indexOf[R8, lN m, K2]
      · refine gT_n 1 ?_
        refine ⟨fun c => absurd c (nI_pos (by have := hi.1; have := hO.2.1.1; omega)), fun _ => ?_⟩
        refine gT_n 5 ?_
        refine ⟨rfl, rfl, rfl, gTM.useA (c_fail (c := 5) (p := q3.1)) (Nat.le_refl _) (aR (aI (rfl) (aI (hq3.2.2.1) (rfl)))) (fun r u hq => ?_)⟩
        obtain ⟨rfl, rfl⟩ := hq  -- X6_fail[R1, K5, nI q3.1]
        refine gT_n 1 ?_
        refine ⟨(Or.inl rfl), ?_⟩
        exact ⟨.inl (5, q3.1), _, Y, ⟨_, h2, _, h3, (pif_neg (fun c => c i hi.1 ⟨hi.2.1, hi.2.2⟩)).mpr rfl⟩, rfl, rfl, ⟨rfl, rfl⟩, b6_fr (uFr_f (uFr_T hf2 hf3)) (fun _ _ => rfl) (b6_d hD hO)⟩
      · refine gT_n 1 ?_
        refine ⟨fun _ => ?_, fun c => absurd (by decide) c⟩
        refine gT_n 7 ?_
        refine ⟨rfl, rfl, rfl, rfl, gTM.useA (c_write (so := 2) (v := num b q2) hO.2.1 hD3.2.2.1 hvm (by decide) hi h24) (Nat.le_refl _) (aR (aL (hY1) (aI (rfl) (aI (rfl) (rfl))))) (fun r u hq => ?_)⟩
        obtain ⟨rfl, X4, Y4, rfl, hx4, hy4, hw4⟩ := hq  -- X7_write[R8, lN m, K2, nI ((num b q2))]
        refine gT_n 2 ?_
        refine ⟨(Or.inr rfl), ?_⟩
        exact ⟨.inr ((D.1, D.2.1 ++ [(m, 2, num b q2)], D.2.2), q3.2.1), X4, Y4, ⟨_, h2, _, h3, (pif_pos hi).mpr rfl⟩, rfl, rfl, ⟨(by rw [hx4 3 (by omega), hx4 5 (by omega), hx4 6 (by omega), hy4 4 (by omega)]; exact hD3.1), (by rw [hx4 3 (by omega)]; exact hD3.2.1), hw4, (by rw [hx4 1 (by omega)]; exact hD3.2.2.2.1), (by rw [hx4 7 (by omega)]; exact hD3.2.2.2.2)⟩, ⟨hO.1, rapp_ok hO.2.1 h24 hvm (by decide) (num_99 (advTo_r h2).1 (advTo_r h2).2) hi, hO.2.2⟩, (by rw [hx4 1 (by omega)]; exact hq3.1), (by rw [hx4 1 (by omega)]; exact hq3.2.2.2), (adv_r (advTo_r h3).1).2.2.1⟩
theorem c_readRec {d : Nat} {I X : Nat → Nat → Int32} {J Y : Nat → Nat → Int64} {P : Nat → Nat} {n : Nat} {b : Nat → Nat} (hT : tpe I n b) {q : tk3} (hta : tIs n b q) (hq : qT X q) {D : zD} (hD : dft X Y D) (hO : dOK D) : gTM (d + 4) 70 [.ref 1] (gST (uM I X) (uJ J Y) P) (fun r u => ∃ rr X' Y', rRc n b D q rr ∧ u = gST (uM I X') (uJ J Y') P ∧ lOut n X' Y' r rr) := by
  have hn2 := hT.2.1
  obtain ⟨aq, hadv⟩ := hta
  obtain ⟨r1, r2, r3, r4, r5, r6, r7, r8⟩ := adv_r hadv
  have h24 := hO.2.1.1
  refine gT_n 5 ?_
  refine ⟨rfl, rfl, pk_lt D.2.1.length 24 (fun κ1 => ?_) (fun κ1 => ?_) (hD.2.2.1.1) (rfl) (by omega) (by omega)⟩
  · refine gT_n 2 ?_
    refine ⟨rfl, rfl, gTM.use (c_readName hT r3 hq.1 hq.2.2.2) (Nat.le_refl _) (fun r u hq => ?_)⟩
    obtain ⟨f, X1, Y1, hnm, rfl, rfl, hf1, hfy, ho⟩ | ⟨m, q1, X1, Y1, hnm, rfl, rfl, hf1, hfy, hq1, ht1, hY1, hvm⟩ := hq  -- X6_readName[R1]
    · refine gT_n 1 ?_
      refine ⟨fun c => absurd (by decide) c, fun _ => ?_⟩
      refine gT_n 2 ?_
      refine ⟨(Or.inl rfl), ?_⟩
      exact ⟨.inl f, X1, Y1, (pif_neg (by omega)).mpr ⟨_, hnm, rfl⟩, rfl, rfl, ho, b6_fr hf1 hfy (b6_d hD hO)⟩
    · refine gT_n 1 ?_
      refine ⟨fun _ => ?_, fun c => absurd c (by decide)⟩
      refine gT_n 3 ?_
      refine ⟨rfl, rfl, gTM.use (c_isW4 hT ht1 hq1) (Nat.le_refl _) (fun r u hq => ?_)⟩
      obtain ⟨rfl, ⟨rfl, β2⟩ | ⟨rfl, β2⟩⟩ := hq  -- X6_isWord[R1, R1000004]
      · refine gT_n 1 ?_
        refine ⟨fun c => absurd c (by decide), fun _ => ?_⟩
        refine gT_n 5 ?_
        refine ⟨fun _ => ?_, fun c => absurd (by decide) c⟩
        refine gT_k (gT_mono _ _ _ _ _ _ _ _ _ (fun r u h => ?_) (c_rec2_0 (d := d) hT ht1 hq1 (dft_fr hf1 hfy hD) hO hY1 hvm (by omega))) ⟨rfl, rfl, trivial⟩ rfl
        obtain ⟨rr, X', Y', h1, h2, h3⟩ := h
        exact ⟨rr, X', Y', (pif_neg (by omega)).mpr ⟨_, hnm, (pif_pos β2).mpr h1⟩, h2, h3⟩
      · refine gT_n 1 ?_
        refine ⟨fun _ => ?_, fun c => absurd (by decide) c⟩
        refine gT_n 3 ?_
        refine ⟨rfl, rfl, gTM.use (c_isW5 hT ht1 hq1) (Nat.le_refl _) (fun r u hq => ?_)⟩
        obtain ⟨rfl, ⟨rfl, β3⟩ | ⟨rfl, β3⟩⟩ := hq  -- X6_isWord[R1, R1000005]
        · refine gT_n 1 ?_
          refine ⟨fun c => absurd c (by decide), fun _ => ?_⟩
          refine gT_n 5 ?_
          refine ⟨fun _ => ?_, fun c => absurd (by decide) c⟩
          refine gT_k (gT_mono _ _ _ _ _ _ _ _ _ (fun r u h => ?_) (c_rec2_1 (d := d) hT ht1 hq1 (dft_fr hf1 hfy hD) hO hY1 hvm (by omega))) ⟨rfl, rfl, trivial⟩ rfl
          obtain ⟨rr, X', Y', h1, h2, h3⟩ := h
          exact ⟨rr, X', Y', (pif_neg (by omega)).mpr ⟨_, hnm, (pif_neg β2).mpr ((pif_pos β3).mpr h1)⟩, h2, h3⟩
        · refine gT_n 1 ?_
          refine ⟨fun _ => ?_, fun c => absurd (by decide) c⟩
          refine gT_n 3 ?_
          refine ⟨rfl, rfl, gTM.use (c_isW6 hT ht1 hq1) (Nat.le_refl _) (fun r u hq => ?_)⟩
          obtain ⟨rfl, ⟨rfl, β4⟩ | ⟨rfl, β4⟩⟩ := hq  -- X6_isWord[R1, R1000006]
          · refine gT_n 1 ?_
            refine ⟨fun c => absurd c (by decide), fun _ => ?_⟩
            refine gT_n 5 ?_
            refine ⟨fun _ => ?_, fun c => absurd (by decide) c⟩
            refine gT_k (gT_mono _ _ _ _ _ _ _ _ _ (fun r u h => ?_) (c_rec2_2 (d := d) hT ht1 hq1 (dft_fr hf1 hfy hD) hO hY1 hvm (by omega))) ⟨rfl, rfl, trivial⟩ rfl
            obtain ⟨rr, X', Y', h1, h2, h3⟩ := h
            exact ⟨rr, X', Y', (pif_neg (by omega)).mpr ⟨_, hnm, (pif_neg β2).mpr ((pif_neg β3).mpr ((pif_pos β4).mpr h1))⟩, h2, h3⟩
          · refine gT_n 1 ?_
            refine ⟨fun _ => ?_, fun c => absurd (by decide) c⟩
            refine gT_n 4 ?_
            refine ⟨fun c => absurd c (by decide), fun _ => ?_⟩
            refine gT_n 5 ?_
            refine ⟨rfl, rfl, rfl, gTM.useA (c_fail (c := 2) (p := q1.1)) (Nat.le_refl _) (aR (aI (rfl) (aI (hq1.2.2.1) (rfl)))) (fun r u hq => ?_)⟩
            obtain ⟨rfl, rfl⟩ := hq  -- X6_fail[R1, K2, nI q1.1]
            refine gT_n 1 ?_
            refine ⟨(Or.inl rfl), ?_⟩
            exact ⟨.inl (2, q1.1), _, Y1, (pif_neg (by omega)).mpr ⟨_, hnm, (pif_neg β2).mpr ((pif_neg β3).mpr ((pif_neg β4).mpr rfl))⟩, rfl, rfl, ⟨rfl, rfl⟩, b6_fr (uFr_f hf1) hfy (b6_d hD hO)⟩
  · refine gT_n 5 ?_
    refine ⟨rfl, rfl, rfl, gTM.useA (c_fail (c := 4) (p := q.1)) (Nat.le_refl _) (aR (aI (rfl) (aI (hq.2.2.1) (rfl)))) (fun r u hq => ?_)⟩
    obtain ⟨rfl, rfl⟩ := hq  -- X6_fail[R1, K4, nI q.1]
    refine gT_n 1 ?_
    refine ⟨(Or.inl rfl), ?_⟩
    exact ⟨.inl (4, q.1), _, Y, (pif_pos (by omega)).mpr rfl, rfl, rfl, ⟨rfl, rfl⟩, b6_d hD hO⟩
theorem c_readSpan {d : Nat} {I X : Nat → Nat → Int32} {J Y : Nat → Nat → Int64} {P : Nat → Nat} {n : Nat} {b : Nat → Nat} (hT : tpe I n b) {q : tk3} (hta : tIs n b q) (hq : qT X q) {D : zD} (hD : dft X Y D) (hO : dOK D) : gTM (d + 4) 71 [.ref 1] (gST (uM I X) (uJ J Y) P) (fun r u => ∃ rr X' Y', rSp n b D q rr ∧ u = gST (uM I X') (uJ J Y') P ∧ lOut n X' Y' r rr) := by
  have hn2 := hT.2.1
  obtain ⟨aq, hadv⟩ := hta
  obtain ⟨r1, r2, r3, r4, r5, r6, r7, r8⟩ := adv_r hadv
  cases hsp : D.2.2
  · have hsp : D.2.2 = false := hsp
    refine gT_n 3 ?_
    refine ⟨rfl, fun _ => ?_, fun c => absurd (kpT (p := fun z : Int32 => z = 0) (show _ = (0 : Int32) from (hD.2.2.2.1.trans (by rw [hsp]; rfl))) (by decide)) c⟩
    refine gT_n 3 ?_
    refine ⟨rfl, (Or.inr rfl), ?_⟩
    refine gT_uP rfl (X := 1) (rfl) ?_
    refine gT_n 3 ?_
    refine ⟨rfl, rfl, gTM.use (c_advanceTo (k := 2) hT r3 hq.1 hq.2.2.2 (by decide)) (Nat.le_refl _) (fun r u hq => ?_)⟩
    obtain ⟨f, X1, h1, rfl, rfl, hf1, ho1⟩ | ⟨q1, X1, h1, rfl, rfl, hf1, hq1⟩ := hq  -- X6_advanceTo[R1, K2]
    · refine gT_n 1 ?_
      refine ⟨fun c => absurd (by decide) c, fun _ => ?_⟩
      refine gT_n 2 ?_
      refine ⟨(Or.inl rfl), ?_⟩
      exact ⟨.inl f, X1, Y, (pif_neg (by rw [hsp]; decide)).mpr ⟨_, h1, rfl⟩, rfl, rfl, ho1, b6_fr hf1 (fun _ _ => rfl) (show b6 (gupI X 1 9 1) Y from (b6_d hD hO : b6 X Y))⟩
    · refine gT_n 1 ?_
      refine ⟨fun _ => ?_, fun c => absurd c (by decide)⟩
      refine gT_n 4 ?_
      refine ⟨rfl, rfl, rfl, gTM.use (c_number hT ⟨_, (advTo_r h1).1⟩ hq1 (advTo_r h1).2) (Nat.le_refl _) (fun r u hq => ?_)⟩
      obtain ⟨rfl, rfl⟩ := hq  -- X6_number[R1]
      have h99 := num_99 (advTo_r h1).1 (advTo_r h1).2
      refine gT_n 1 ?_
      refine ⟨rfl, ?_⟩
      refine gT_uC (b := 3) rfl (X := (nI ((num b q1)))) (rfl) ?_
      refine gT_n 5 ?_
      refine ⟨rfl, rfl, pk_lt ((num b q1)) 1 (fun κ1 => ?_) (fun κ1 => ?_) (rfl) (rfl) (by have := num_99 (advTo_r h1).1 (advTo_r h1).2; omega) (by omega)⟩
      · refine gT_n 5 ?_
        refine ⟨rfl, rfl, rfl, gTM.useA (c_fail (c := 3) (p := q1.1)) (Nat.le_refl _) (aR (aI (rfl) (aI (hq1.2.2.1) (rfl)))) (fun r u hq => ?_)⟩
        obtain ⟨rfl, rfl⟩ := hq  -- X6_fail[R1, K3, nI q1.1]
        refine gT_n 1 ?_
        refine ⟨(Or.inl rfl), ?_⟩
        exact ⟨.inl (3, q1.1), _, Y, (pif_neg (by rw [hsp]; decide)).mpr ⟨_, h1, (pif_neg (by omega)).mpr rfl⟩, rfl, rfl, ⟨rfl, rfl⟩, (b6_fr hf1 (fun _ _ => rfl) (show b6 (gupI X 1 9 1) Y from (b6_d hD hO : b6 X Y)) : b6 X1 Y)⟩
      · refine gT_n 5 ?_
        refine ⟨rfl, rfl, pk_le ((num b q1)) 60 (fun κ2 => ?_) (fun κ2 => ?_) (rfl) (rfl) (by have := num_99 (advTo_r h1).1 (advTo_r h1).2; omega) (by omega)⟩
        · refine gT_n 3 ?_
          refine ⟨rfl, rfl, gTM.use (c_advanceTo (k := 5) hT (adv_r (advTo_r h1).1).2.2.1 hq1.1 hq1.2.2.2 (by decide)) (Nat.le_refl _) (fun r u hq => ?_)⟩
          obtain ⟨f, X2, h2, rfl, rfl, hf2, ho2⟩ | ⟨q2, X2, h2, rfl, rfl, hf2, hq2⟩ := hq  -- X6_advanceTo[R1, K5]
          · refine gT_n 1 ?_
            refine ⟨(Or.inl rfl), ?_⟩
            exact ⟨.inl f, X2, Y, (pif_neg (by rw [hsp]; decide)).mpr ⟨_, h1, (pif_pos (by omega)).mpr ⟨_, h2, rfl⟩⟩, rfl, rfl, ho2, b6_fr hf2 (fun _ _ => rfl) (b6_fr hf1 (fun _ _ => rfl) (show b6 (gupI X 1 9 1) Y from (b6_d hD hO : b6 X Y)) : b6 X1 Y)⟩
          · refine gT_n 1 ?_
            refine ⟨(Or.inr rfl), ?_⟩
            have hD2 : dft (gupI X1 3 5 (nI (num b q1))) Y (tspan D.1 (num b q1), D.2.1, true) := by
              have e := hf1.1
              refine ⟨?_, rfl, ?_, hf1.2, by show X1 7 0 = -4; rw [e 7 (by decide)]; exact hD.2.2.2.2⟩
              · show cT0 (X1 3 4) (Y 4) (X1 5) (X1 6) (tspan D.1 (num b q1))
                rw [e 3 (by decide), e 5 (by decide), e 6 (by decide)]; exact hD.1
              · show cR (X1 8 3) (Y 9) (X1 10) (X1 11) D.2.1
                rw [e 8 (by decide), e 10 (by decide), e 11 (by decide)]; exact hD.2.2.1
            exact ⟨.inr ((tspan D.1 (num b q1), D.2.1, true), q2.2.1), X2, Y, (pif_neg (by rw [hsp]; decide)).mpr ⟨_, h1, (pif_pos (by omega)).mpr ⟨_, h2, rfl⟩⟩, rfl, rfl, dft_fr hf2 (fun _ _ => rfl) hD2, ⟨hO.1, hO.2.1, h99⟩, hq2.1, hq2.2.2.2, (adv_r (advTo_r h2).1).2.2.1⟩
        · refine gT_n 5 ?_
          refine ⟨rfl, rfl, rfl, gTM.useA (c_fail (c := 3) (p := q1.1)) (Nat.le_refl _) (aR (aI (rfl) (aI (hq1.2.2.1) (rfl)))) (fun r u hq => ?_)⟩
          obtain ⟨rfl, rfl⟩ := hq  -- X6_fail[R1, K3, nI q1.1]
          refine gT_n 1 ?_
          refine ⟨(Or.inl rfl), ?_⟩
          exact ⟨.inl (3, q1.1), _, Y, (pif_neg (by rw [hsp]; decide)).mpr ⟨_, h1, (pif_neg (by omega)).mpr rfl⟩, rfl, rfl, ⟨rfl, rfl⟩, (b6_fr hf1 (fun _ _ => rfl) (show b6 (gupI X 1 9 1) Y from (b6_d hD hO : b6 X Y)) : b6 X1 Y)⟩
  · have hsp : D.2.2 = true := hsp
    refine gT_n 3 ?_
    refine ⟨rfl, fun c => absurd c (kpT (p := fun z : Int32 => ¬ (z = 0)) (show _ = (1 : Int32) from (hD.2.2.2.1.trans (by rw [hsp]; rfl))) (by decide)), fun _ => ?_⟩
    refine gT_n 5 ?_
    refine ⟨rfl, rfl, rfl, gTM.useA (c_fail (c := 4) (p := q.1)) (Nat.le_refl _) (aR (aI (rfl) (aI (hq.2.2.1) (rfl)))) (fun r u hq => ?_)⟩
    obtain ⟨rfl, rfl⟩ := hq  -- X6_fail[R1, K4, nI q.1]
    refine gT_n 1 ?_
    refine ⟨(Or.inl rfl), ?_⟩
    exact ⟨.inl (4, q.1), _, Y, (pif_pos hsp).mpr rfl, rfl, rfl, ⟨rfl, rfl⟩, b6_d hD hO⟩
theorem gTM_B {d y n : Nat} {As : List Value} {I : Nat → Nat → Int32} {J : Nat → Nat → Int64} {P : Nat → Nat} {w : gW} {rel : zF ⊕ (zD × Nat) → Prop} (h : gTM d y As w (fun r u => ∃ rr X' Y', rel rr ∧ u = gST (uM I X') (uJ J Y') P ∧ lOut n X' Y' r rr)) : gTM d y As w (fun r u => (∃ f X' Y', rel (.inl f) ∧ r = some (.int 0) ∧ u = gST (uM I X') (uJ J Y') P ∧ (X' 1 4 = f.1 ∧ X' 1 5 = nI f.2) ∧ b6 X' Y') ∨ (∃ g X' Y', rel (.inr g) ∧ r = some (.int 1) ∧ u = gST (uM I X') (uJ J Y') P ∧ dft X' Y' g.1 ∧ dOK g.1 ∧ X' 1 6 = nI g.2 ∧ X' 1 4 = 0 ∧ g.2 ≤ n)) := by
  refine gTM.use h (Nat.le_refl _) (fun r u h => ?_)
  obtain ⟨rr, X', Y', h1, h2, h3⟩ := h
  cases rr with
  | inl f => exact Or.inl ⟨f, X', Y', h1, h3.1, h2, h3.2.1, h3.2.2⟩
  | inr g => exact Or.inr ⟨g, X', Y', h1, h3.1, h2, h3.2⟩
theorem c_readLine {d : Nat} {I X : Nat → Nat → Int32} {J Y : Nat → Nat → Int64} {P : Nat → Nat} {n : Nat} {b : Nat → Nat} (hT : tpe I n b) {q : tk3} (hta : tIs n b q) (hq : qT X q) {D : zD} (hD : dft X Y D) (hO : dOK D) : gTM (d + 5) 68 [.ref 1] (gST (uM I X) (uJ J Y) P) (fun r u => (∃ f X' Y', rLn n b D q (.inl f) ∧ r = some (.int 0) ∧ u = gST (uM I X') (uJ J Y') P ∧ (X' 1 4 = f.1 ∧ X' 1 5 = nI f.2) ∧ b6 X' Y') ∨ (∃ g X' Y', rLn n b D q (.inr g) ∧ r = some (.int 1) ∧ u = gST (uM I X') (uJ J Y') P ∧ dft X' Y' g.1 ∧ dOK g.1 ∧ X' 1 6 = nI g.2 ∧ X' 1 4 = 0 ∧ g.2 ≤ n)) := by
  have hta0 := hta
  have hn2 := hT.2.1
  obtain ⟨aq, hadv⟩ := hta
  obtain ⟨r1, r2, r3, r4, r5, r6, r7, r8⟩ := adv_r hadv
  refine gT_n 3 ?_
  refine ⟨rfl, rfl, gTM.use (c_isW0 hT hta0 hq) (Nat.le_refl _) (fun r u hq => ?_)⟩
  obtain ⟨rfl, ⟨rfl, β1⟩ | ⟨rfl, β1⟩⟩ := hq  -- X6_isWord[R1, R1000000]
  · refine gT_n 1 ?_
    refine ⟨fun c => absurd c (by decide), fun _ => ?_⟩
    refine gT_n 3 ?_
    refine ⟨rfl, rfl, gTM.use (gTM_B (c_readZone1 hT hta0 hq hD hO)) (Nat.le_refl _) (fun r u hq => ?_)⟩
    obtain ⟨f, X1, Y1, h1, rfl, rfl, ho, hb6⟩ | ⟨g, X1, Y1, h1, rfl, rfl, ho⟩ := hq  -- X6_readZone[R1, K1]
    · refine gT_n 1 ?_
      refine ⟨(Or.inl rfl), ?_⟩
      exact Or.inl ⟨f, X1, Y1, (pif_pos β1).mpr h1, rfl, rfl, ho, hb6⟩
    · refine gT_n 1 ?_
      refine ⟨(Or.inr rfl), ?_⟩
      exact Or.inr ⟨g, X1, Y1, (pif_pos β1).mpr h1, rfl, rfl, ho⟩
  · refine gT_n 1 ?_
    refine ⟨fun _ => ?_, fun c => absurd (by decide) c⟩
    refine gT_n 3 ?_
    refine ⟨rfl, rfl, gTM.use (c_isW1 hT hta0 hq) (Nat.le_refl _) (fun r u hq => ?_)⟩
    obtain ⟨rfl, ⟨rfl, β2⟩ | ⟨rfl, β2⟩⟩ := hq  -- X6_isWord[R1, R1000001]
    · refine gT_n 1 ?_
      refine ⟨fun c => absurd c (by decide), fun _ => ?_⟩
      refine gT_n 3 ?_
      refine ⟨rfl, rfl, gTM.use (gTM_B (c_readZone0 hT hta0 hq hD hO)) (Nat.le_refl _) (fun r u hq => ?_)⟩
      obtain ⟨f, X1, Y1, h1, rfl, rfl, ho, hb6⟩ | ⟨g, X1, Y1, h1, rfl, rfl, ho⟩ := hq  -- X6_readZone[R1, K0]
      · refine gT_n 1 ?_
        refine ⟨(Or.inl rfl), ?_⟩
        exact Or.inl ⟨f, X1, Y1, (pif_neg β1).mpr ((pif_pos β2).mpr h1), rfl, rfl, ho, hb6⟩
      · refine gT_n 1 ?_
        refine ⟨(Or.inr rfl), ?_⟩
        exact Or.inr ⟨g, X1, Y1, (pif_neg β1).mpr ((pif_pos β2).mpr h1), rfl, rfl, ho⟩
    · refine gT_n 1 ?_
      refine ⟨fun _ => ?_, fun c => absurd (by decide) c⟩
      refine gT_n 3 ?_
      refine ⟨rfl, rfl, gTM.use (c_isW2 hT hta0 hq) (Nat.le_refl _) (fun r u hq => ?_)⟩
      obtain ⟨rfl, ⟨rfl, β3⟩ | ⟨rfl, β3⟩⟩ := hq  -- X6_isWord[R1, R1000002]
      · refine gT_n 1 ?_
        refine ⟨fun c => absurd c (by decide), fun _ => ?_⟩
        refine gT_n 2 ?_
        refine ⟨rfl, rfl, gTM.use (gTM_B (c_readRec hT hta0 hq hD hO)) (Nat.le_refl _) (fun r u hq => ?_)⟩
        obtain ⟨f, X1, Y1, h1, rfl, rfl, ho, hb6⟩ | ⟨g, X1, Y1, h1, rfl, rfl, ho⟩ := hq  -- X6_readRecord[R1]
        · refine gT_n 1 ?_
          refine ⟨(Or.inl rfl), ?_⟩
          exact Or.inl ⟨f, X1, Y1, (pif_neg β1).mpr ((pif_neg β2).mpr ((pif_pos β3).mpr h1)), rfl, rfl, ho, hb6⟩
        · refine gT_n 1 ?_
          refine ⟨(Or.inr rfl), ?_⟩
          exact Or.inr ⟨g, X1, Y1, (pif_neg β1).mpr ((pif_neg β2).mpr ((pif_pos β3).mpr h1)), rfl, rfl, ho⟩
      · refine gT_n 1 ?_
        refine ⟨fun _ => ?_, fun c => absurd (by decide) c⟩
        refine gT_n 3 ?_
        refine ⟨rfl, rfl, gTM.use (c_isW3 hT hta0 hq) (Nat.le_refl _) (fun r u hq => ?_)⟩
        obtain ⟨rfl, ⟨rfl, β4⟩ | ⟨rfl, β4⟩⟩ := hq  -- X6_isWord[R1, R1000003]
        · refine gT_n 1 ?_
          refine ⟨fun c => absurd c (by decide), fun _ => ?_⟩
          refine gT_n 2 ?_
          refine ⟨rfl, rfl, gTM.use (gTM_B (c_readSpan hT hta0 hq hD hO)) (Nat.le_refl _) (fun r u hq => ?_)⟩
          obtain ⟨f, X1, Y1, h1, rfl, rfl, ho, hb6⟩ | ⟨g, X1, Y1, h1, rfl, rfl, ho⟩ := hq  -- X6_readSpan[R1]
          · refine gT_n 2 ?_
            refine ⟨(Or.inl rfl), ?_⟩
            exact Or.inl ⟨f, X1, Y1, (pif_neg β1).mpr ((pif_neg β2).mpr ((pif_neg β3).mpr ((pif_pos β4).mpr h1))), rfl, rfl, ho, hb6⟩
          · refine gT_n 2 ?_
            refine ⟨(Or.inr rfl), ?_⟩
            exact Or.inr ⟨g, X1, Y1, (pif_neg β1).mpr ((pif_neg β2).mpr ((pif_neg β3).mpr ((pif_pos β4).mpr h1))), rfl, rfl, ho⟩
        · refine gT_n 1 ?_
          refine ⟨fun _ => ?_, fun c => absurd (by decide) c⟩
          refine gT_n 5 ?_
          refine ⟨rfl, rfl, rfl, gTM.useA (c_fail (c := 2) (p := q.1)) (Nat.le_refl _) (aR (aI (rfl) (aI (hq.2.2.1) (rfl)))) (fun r u hq => ?_)⟩
          obtain ⟨rfl, rfl⟩ := hq  -- X6_fail[R1, K2, nI q.1]
          refine gT_n 1 ?_
          refine ⟨(Or.inl rfl), ?_⟩
          exact Or.inl ⟨(2, q.1), _, Y, (pif_neg β1).mpr ((pif_neg β2).mpr ((pif_neg β3).mpr ((pif_neg β4).mpr (rfl)))), rfl, rfl, ⟨rfl, rfl⟩, b6_d hD hO⟩
