/-! a proof made: the class -/
theorem zc_dec {t : zT} {w : Nat} (hz : zOK t) (hw : w < t.1) : ∀ i j, j < i → (∀ k, k < i → ¬ zc t w k = 0) → cnt (t.2.1 (zc t w i)) < cnt (t.2.1 (zc t w j))
  | 0, j, h, _ => absurd h (Nat.not_lt_zero j)
  | i + 1, j, h, hn => by
    have a : cnt (t.2.1 (zc t w (i + 1))) < cnt (t.2.1 (zc t w i)) := cnt_par hz (zc_lt hz hw i) (hn i (by omega))
    rcases Nat.lt_or_ge j i with g | g
    · exact Nat.lt_trans a (zc_dec hz hw i j g (fun k hk => hn k (by omega)))
    · have : j = i := by omega
      subst this; exact a
theorem zc_ne {t : zT} {w i j : Nat} (hz : zOK t) (hw : w < t.1) (h : j < i) (hn : ∀ k, k < i → ¬ zc t w k = 0) : ¬ zc t w j = zc t w i := fun e => by
  have := zc_dec hz hw i j h hn
  rw [e] at this; omega
def aK (I : Nat → Nat → Int32) (J : Nat → Nat → Int64) (I' : Nat → Nat → Int32) (J' : Nat → Nat → Int64) : Prop := (∀ f, ¬ f = 1 → I' 145 f = I 145 f) ∧ J' 145 = J 145
def aG (I : Nat → Nat → Int32) (J : Nat → Nat → Int64) (I' : Nat → Nat → Int32) (J' : Nat → Nat → Int64) : Prop := (∀ a, 145 ≤ a → I' a = I a) ∧ ∀ a, 145 ≤ a → J' a = J a
section
variable {I I' I2 : Nat → Nat → Int32} {J J' J2 : Nat → Nat → Int64} {P : Nat → Nat} {l : List zI} {q : zI}
theorem aK_self : aK I J I J := ⟨fun _ _ => rfl, rfl⟩
theorem aK_N (hP : pP P) (hl : l.length < 10) (h : aN I J P l I' J' q) : aK I J I' J' := ⟨h.2.1, (aN_I hP hl h).2.2.2⟩
theorem aK_T (h : aK I J I' J') (g : aK I' J' I2 J2) : aK I J I2 J2 := ⟨fun f hf => (g.1 f hf).trans (h.1 f hf), g.2.trans h.2⟩
theorem aK_G (h : aG I J I' J') : aK I J I' J' := ⟨fun f _ => by rw [h.1 145 (by omega)], h.2 145 (by omega)⟩
theorem cB_G (hP : pP P) (h10 : l.length ≤ 10) (h : aG I J I' J') (hB : cB I J P l) : cB I' J' P l := by
  refine ⟨by rw [h.1 145 (by omega)]; exact hB.1, fun k hk => ?_⟩
  have hr := pP_r hP (k := k) (by omega)
  rw [h.1 (P k) (by omega), h.1 (P k + 1) (by omega), h.2 (P k) (by omega)]
  exact hB.2 k hk
end
theorem m2_n {α : Type} {I : Nat → α} {a b o : Nat} {A B : α} (h1 : ¬ o = a) (h2 : ¬ o = b) : m2 I a A b B o = I o := by
  unfold m2
  rw [beq_ne h1, beq_ne h2]; rfl
theorem aM_o {I0 I : Nat → Nat → Int32} {c : Int32} {B : Nat → Int32} : oMI (aMI I0 I) c B = aMI I0 (oMI I c B) := by
  funext a
  by_cases h1 : a = 142
  · subst h1; rfl
  · by_cases h2 : a = 144
    · subst h2; rfl
    · by_cases h3 : 142 ≤ a ∧ a ≤ 166
      · rw [aM_at h3]
        show m2 (aMI I0 I) 142 _ 144 B a = m2 I 142 _ 144 B a
        rw [m2_n h1 h2, m2_n h1 h2, aM_at h3]
      · rw [aM_out h3]
        show m2 (aMI I0 I) 142 _ 144 B a = _
        rw [m2_n h1 h2, aM_out h3]
theorem aJ_out {J Y : Nat → Nat → Int64} {b : Nat} (h : ¬ (142 ≤ b ∧ b ≤ 166)) : aMJ J Y b = J b := by
  unfold aMJ
  have : (Nat.ble 142 b && Nat.ble b 166) = false := by
    cases h1 : Nat.ble 142 b
    · rfl
    · cases h2 : Nat.ble b 166
      · rfl
      · exact absurd ⟨Nat.le_of_ble_eq_true h1, Nat.le_of_ble_eq_true h2⟩ h
  rw [this]; rfl
theorem aJ_o {J0 J : Nat → Nat → Int64} {A : Nat → Int64} : oMJ (aMJ J0 J) A = aMJ J0 (oMJ J A) := by
  funext a
  by_cases h1 : a = 143
  · subst h1; rfl
  · by_cases h3 : 142 ≤ a ∧ a ≤ 166
    · rw [aJ_at h3]
      show m1 (aMJ J0 J) 143 A a = m1 J 143 A a
      rw [m1_n h1, m1_n h1, aJ_at h3]
    · rw [aJ_out h3]
      show m1 (aMJ J0 J) 143 A a = _
      rw [m1_n h1, aJ_out h3]
theorem c_gatherA {d z : Nat} {t : zT} {W : zW} {I0 I : Nat → Nat → Int32} {J0 J : Nat → Nat → Int64} {P : Nat → Nat} (hz : zOK t) (hr : rOK W.1) (hT : cTr I0 J0 t) (hW : cW 17 I0 J0 W) (hzz : z < t.1) : gTM (d + 3) 38 [.ref 142, .int (nI z)] (gST (aMI I0 I) (aMJ J0 J) P) (fun r u => r = none ∧ ∃ I' J' os, u = gST (aMI I0 I') (aMJ J0 J') P ∧ aG I J I' J' ∧ cO (I' 142 2) (J' 143) (I' 144) os ∧ oIs os (fG t W.1 z) ∧ os.length ≤ 28) := by
  refine gTM.use (c_gather (I := aMI I0 I) (J := aMJ J0 J) hz hr hT hW.1 hzz) (Nat.le_refl _) (fun r u h => ?_)
  obtain ⟨h1, c', A', B', os, h2, h3, h4, h5⟩ := h
  refine ⟨h1, oMI I c' B', oMJ J A', os, by rw [h2, aM_o, aJ_o], ⟨fun a ha => ?_, fun a ha => ?_⟩, h3, h4, h5⟩
  · show m2 I 142 _ 144 B' a = I a
    rw [m2_n (by omega) (by omega)]
  · show m1 J 143 A' a = J a
    rw [m1_n (by omega)]
theorem c_oixY {d n : Nat} {I : Nat → Nat → Int32} {J : Nat → Nat → Int64} {P : Nat → Nat} {l : zO} {f : Nat → Nat} (hf : oIs l f) (h28 : l.length ≤ 28) (hO : cO (I 142 2) (J 143) (I 144) l) (hn : n < 2 ^ 60) (hy : 0 < f n) : gTM (d + 1) 41 [.ref 142, .long (lN n)] (gST I J P) (fun r u => u = gST I J P ∧ ∃ a, a < l.length ∧ (og l a).1 = n ∧ r = some (.int (nI a))) := by
  refine gTM.use (c_oix hf h28 hO hn) (Nat.le_refl _) (fun r u h => ?_)
  obtain ⟨h1, h2 | h2⟩ := h
  · exact ⟨h1, h2⟩
  · exact absurd hy (oIs_no hf h2.2)
/-- the items of the zones, from the root's on -/
def fCh (t : zT) (W : zW) (w : Nat) : Nat → List zI → Bool → List zI → Prop
  | 0, a, b, l => b = true ∧ l = a
  | m + 1, a, b, l => pif (t.2.2.1 (zc t w m) = true) (fCh t W w m ((a ++ [qDig t W (zc t w m)]) ++ [qKey t W (zc t w m)]) b l) (b = false ∧ ∃ os i, oIs os (fG t W.1 (zc t w (m + 1))) ∧ os.length ≤ 28 ∧ i < os.length ∧ (og os i).1 = t.2.1 (zc t w m) ∧ l = a ++ [qLnk W (zc t w (m + 1)) os i])
def vIs (t : zT) (l : List zI) : Prop := ∀ q ∈ l, iOK t q
section
variable {t : zT} {W : zW} {z : Nat} {l : List zI} {q : zI} {os : zO} {i : Nat}
theorem vIs_app (h : vIs t l) (hq : iOK t q) : vIs t (l ++ [q]) := fun r hr => by
  rcases List.mem_append.mp hr with g | g
  · exact h r g
  · rw [List.mem_singleton.mp g]; exact hq
theorem iOK_key (hz : zOK t) (oW : wOK t W) (hzz : z < t.1) (hs : t.2.2.1 z = true) : iOK t (qKey t W z) := ⟨hzz, hz.2.2.2.2.1 z hzz, vn_0, (by decide : 0 < 64), oW.2.2.2.1 z hzz hs⟩
theorem iOK_dig (hz : zOK t) (oW : wOK t W) (hzz : z < t.1) (hs : t.2.2.1 (zpa t z) = true) : iOK t (qDig t W z) := ⟨hzz, hz.2.2.2.2.1 z hzz, vn_0, (by decide : 0 < 64), oW.2.2.2.1 _ (zof_lt hz _) hs⟩
theorem iOK_lnk (hz : zOK t) (oW : wOK t W) (hzz : z < t.1) (hs : t.2.2.1 z = true) {f : Nat → Nat} (ho : oIs os f) (hi : i < os.length) : iOK t (qLnk W z os i) := by
  refine ⟨hzz, (ho.2.1 i hi).2.2.2, ?_, (ho.2.1 i hi).2.2.1, oW.2.2.2.1 z hzz hs⟩
  show vn (onx os i)
  unfold onx
  by_cases h : i + 1 < os.length
  · rw [if_pos h]; exact (ho.2.1 _ h).2.2.2
  · rw [if_neg h]; exact (ho.2.1 0 (by omega)).2.2.2
theorem iOK_rec (hz : zOK t) (oW : wOK t W) (hzz : z < t.1) (hs : t.2.2.1 z = true) {o s : Nat} {x : Int32} (ho : vn o) (h3 : s < 3) : iOK t (qRec W z o s x) := ⟨hzz, ho, vn_0, (by show s < 64; omega), oW.2.2.2.1 z hzz hs⟩
theorem child_own {r : zR} {c : Nat} (hc : c < t.1) (h0 : ¬ c = 0) : 0 < fG t r (zpa t c) (t.2.1 c) := fG_pos.mpr (Or.inr (Or.inr ⟨c, by omega, by omega, rfl, rfl⟩))
end
theorem c_chainLoop {d : Nat} {I0 Ia : Nat → Nat → Int32} {J0 Ja : Nat → Nat → Int64} {P : Nat → Nat} {Z : Bool → List zI → Prop} {t : zT} {W : zW} {w : Nat} (hz : zOK t) (oW : wOK t W) (hT : cTr I0 J0 t) (hW : cW 17 I0 J0 W) (hP : pP P) (hw : w < t.1) : ∀ m st, st + m ≤ 3 → (∀ k, k < m → ¬ zc t w k = 0) → ∀ (I : Nat → Nat → Int32) (J : Nat → Nat → Int64) (l : List zI), cB I J P l → l.length + 2 * m ≤ 7 → I 145 5 = nI w → aK Ia Ja I J → vIs t l → t.2.2.1 (zc t w m) = true → (∀ b l', fCh t W w m l b l' → Z b l') → gT (d + 5) 52 9 [(2, .int (nI st)), (1, .int (nI ((zc t w m)))), (0, .ref 145)] [] (0, 0) (gST (aMI I0 I) (aMJ J0 J) P) (fun r u => ∃ b I' J' l', u = gST (aMI I0 I') (aMJ J0 J') P ∧ r = some (.int (bI b)) ∧ aK Ia Ja I' J' ∧ cB I' J' P l' ∧ l'.length ≤ 8 ∧ vIs t l' ∧ (b = true → t.2.2.1 w = true) ∧ Z b l') := by
  have h4 := hz.2.1
  intro m
  induction m with
  | zero =>
    intro st hst hnz I J l hB hl7 h5 hk hA hsg hZ
    show gT (d + 5) 52 9 [(2, .int (nI st)), (1, .int (nI w)), (0, .ref 145)] [] (0, 0) _ _
    refine gT_n 3 ?_
    refine pk_le 4 st (fun κ1 => ?_) (fun κ1 => ?_) (rfl) (rfl) (by omega) (by omega)
    · refine gT_n 2 ?_
      refine ⟨(Or.inr rfl), ?_⟩
      exact absurd κ1 (by omega)
    · refine gT_n 4 ?_
      refine ⟨rfl, pk_eq w w (fun κ2 => ?_) (fun κ2 => ?_) (rfl) (h5) (by omega) (by omega)⟩
      · refine gT_n 2 ?_
        refine ⟨(Or.inr rfl), ?_⟩
        exact ⟨true, I, J, l, rfl, rfl, hk, hB, by omega, hA, fun _ => hsg, hZ true l ⟨rfl, rfl⟩⟩
      · exact absurd rfl κ2
  | succ m ih =>
    intro st hst hnz I J l hB hl7 h5 hk hA hsg hZ
    have hp := zc_lt hz hw (m + 1)
    have hm := zc_lt hz hw m
    have hva := hz.2.2.2.2.1 _ hm
    have hc0 := hnz m (by omega)
    have hne : ¬ w = zc t w (m + 1) := zc_ne hz hw (j := 0) (by omega) hnz
    by_cases hs : t.2.2.1 (zc t w m) = true
    · have hs1 : I0 15 (zc t w m) = 1 := by rw [hT.1.2.2.2.1 _ hm, hs]; rfl
      refine gT_n 3 ?_
      refine pk_le 4 st (fun κ1 => ?_) (fun κ1 => ?_) (rfl) (rfl) (by omega) (by omega)
      · refine gT_n 2 ?_
        refine ⟨(Or.inr rfl), ?_⟩
        exact absurd κ1 (by omega)
      · refine gT_n 4 ?_
        refine ⟨rfl, pk_eq ((zc t w (m + 1))) w (fun κ2 => ?_) (fun κ2 => ?_) (rfl) (h5) (by omega) (by omega)⟩
        · refine gT_n 2 ?_
          refine ⟨(Or.inr rfl), ?_⟩
          exact absurd (Eq.symm κ2) hne
        · refine gT_n 8 ?_
          refine ⟨rfl, rfl, rfl, rfl, gTM.useA (c_stepDown hz hT hw hp rfl (fun j hj e => zc_ne hz hw (by omega : j + 1 < m + 1) (fun k hk => hnz k (by omega)) e) (fun j hj => hnz j (by omega))) (Nat.le_refl _) (aR (aI (rfl) (aI (h5) (rfl)))) (fun r u hq => ?_)⟩
          obtain ⟨rfl, rfl⟩ := hq  -- X8_stepDown[R12, nI ((zc t w (m + 1))), nI w]
          refine gT_n 7 ?_
          refine ⟨rfl, rfl, (Or.inr rfl), (pk_in ((zc t w m)) 4 (by omega) (rfl)), fun _ => ?_, fun c => absurd c (kpT (p := fun z : Int32 => ¬ z = 0) (show _ = (1 : Int32) from (rdI (rfl) (by omega) hs1)) (by decide))⟩
          refine gT_n 4 ?_
          refine ⟨rfl, rfl, gTM.use (c_addDigests hz hW hT hP hB (by omega) hm) (Nat.le_refl _) (fun r u hq => ?_)⟩
          obtain ⟨rfl, I1, J1, rfl, hN1⟩ := hq  -- X5_addDigests[R145, nI ((zc t w m)), nI ((zc t w (m + 1)))]
          have hB1 := aN_B hP (by omega) hB hN1
          have e1 : (l ++ [qDig t W (zc t w m)]).length = l.length + 1 := List.length_append
          refine gT_n 3 ?_
          refine ⟨rfl, rfl, gTM.use (c_addKeys hz hW hT hP hB1 (by rw [e1]; omega) hm) (Nat.le_refl _) (fun r u hq => ?_)⟩
          obtain ⟨rfl, I2, J2, rfl, hN2⟩ := hq  -- X5_addKeys[R145, nI ((zc t w m))]
          refine gT_n 2 ?_
          have hB2 := aN_B hP (by rw [e1]; omega) hB1 hN2
          have e2 : ((l ++ [qDig t W (zc t w m)]) ++ [qKey t W (zc t w m)]).length = l.length + 2 := by rw [List.length_append, e1]; rfl
          have e := ih (st + 1) (by omega) (fun k hk => hnz k (by omega)) I2 J2 _ hB2 (by rw [e2]; omega) ((hN2.2.1 5 (by decide)).trans ((hN1.2.1 5 (by decide)).trans h5)) (aK_T (aK_T hk (aK_N hP (by omega) hN1)) (aK_N hP (by rw [e1]; omega) hN2)) (vIs_app (vIs_app hA (iOK_dig hz oW hm hsg)) (iOK_key hz oW hm hs)) hs (fun b l' h => hZ b l' ((pif_pos hs).mpr h))
          rw [← nI_1 st] at e
          exact gT_k e ⟨rfl, rfl, rfl, trivial⟩ rfl
    · have hs : t.2.2.1 (zc t w m) = false := by cases h : t.2.2.1 (zc t w m); exact rfl; exact absurd h hs
      have hs1 : I0 15 (zc t w m) = 0 := by rw [hT.1.2.2.2.1 _ hm, hs]; rfl
      refine gT_n 3 ?_
      refine pk_le 4 st (fun κ1 => ?_) (fun κ1 => ?_) (rfl) (rfl) (by omega) (by omega)
      · refine gT_n 2 ?_
        refine ⟨(Or.inr rfl), ?_⟩
        exact absurd κ1 (by omega)
      · refine gT_n 4 ?_
        refine ⟨rfl, pk_eq ((zc t w (m + 1))) w (fun κ2 => ?_) (fun κ2 => ?_) (rfl) (h5) (by omega) (by omega)⟩
        · refine gT_n 2 ?_
          refine ⟨(Or.inr rfl), ?_⟩
          exact absurd (Eq.symm κ2) hne
        · refine gT_n 8 ?_
          refine ⟨rfl, rfl, rfl, rfl, gTM.useA (c_stepDown hz hT hw hp rfl (fun j hj e => zc_ne hz hw (by omega : j + 1 < m + 1) (fun k hk => hnz k (by omega)) e) (fun j hj => hnz j (by omega))) (Nat.le_refl _) (aR (aI (rfl) (aI (h5) (rfl)))) (fun r u hq => ?_)⟩
          obtain ⟨rfl, rfl⟩ := hq  -- X8_stepDown[R12, nI ((zc t w (m + 1))), nI w]
          refine gT_n 7 ?_
          refine ⟨rfl, rfl, (Or.inr rfl), (pk_in ((zc t w m)) 4 (by omega) (rfl)), fun c => absurd c (kpT (p := fun z : Int32 => ¬ (¬ z = 0)) (show _ = (0 : Int32) from (rdI (rfl) (by omega) hs1)) (by decide)), fun _ => ?_⟩
          refine gT_n 4 ?_
          refine ⟨rfl, rfl, rfl, gTM.use (c_gatherA hz oW.1 hT hW hp) (Nat.le_refl _) (fun r u hq => ?_)⟩
          obtain ⟨rfl, I1, J1, os, rfl, hG, hO, hos, h28⟩ := hq  -- X4_gather[R142, nI ((zc t w (m + 1)))]
          have hB1 := cB_G hP (by omega) hG hB
          refine gT_n 10 ?_
          refine ⟨rfl, rfl, rfl, rfl, (pk_in ((zc t w m)) 4 (by omega) (rfl)), rfl, rfl, gTM.useA (c_oixY (I := aMI I0 I1) (J := aMJ J0 J1) hos h28 hO hva.lt (child_own hm hc0)) (Nat.le_refl _) (aR (aL ((rdJ (rfl) (by omega) (hT.1.2.1 ((zc t w m)) (by omega)))) (rfl))) (fun r u hq => ?_)⟩
          obtain ⟨rfl, i, hi, ei, rfl⟩ := hq  -- X4_indexOf[R142, lN ((t.2.1 ((zc t w m))))]
          refine gT_n 1 ?_
          refine ⟨rfl, rfl, gTM.use (c_addLink hz hW hT hP hB1 (by omega) h28 hO hi hp) (Nat.le_refl _) (fun r u hq => ?_)⟩
          obtain ⟨rfl, I2, J2, rfl, hN2⟩ := hq  -- X5_addLink[R145, nI ((zc t w (m + 1))), nI i]
          refine gT_n 2 ?_
          refine ⟨(Or.inl rfl), ?_⟩
          exact ⟨false, I2, J2, l ++ [qLnk W (zc t w (m + 1)) os i], rfl, rfl, aK_T (aK_T hk (aK_G hG)) (aK_N hP (by omega) hN2), aN_B hP (by omega) hB1 hN2, by rw [List.length_append]; show l.length + 1 ≤ 8; omega, vIs_app hA (iOK_lnk hz oW hp hsg hos hi), (fun c => absurd c (by decide)), hZ false _ ((pif_neg (by rw [hs]; decide)).mpr ⟨rfl, os, i, hos, h28, hi, ei, rfl⟩)⟩
theorem c_addChain {d m : Nat} {I0 I : Nat → Nat → Int32} {J0 J : Nat → Nat → Int64} {P : Nat → Nat} {t : zT} {W : zW} {w : Nat} (hz : zOK t) (oW : wOK t W) (hT : cTr I0 J0 t) (hW : cW 17 I0 J0 W) (hP : pP P) (hw : w < t.1) (hm : m ≤ 3) (hm0 : zc t w m = 0) (hnz : ∀ k, k < m → ¬ zc t w k = 0) (hB : cB I J P []) (h5 : I 145 5 = nI w) : gTM (d + 5) 52 [.ref 145] (gST (aMI I0 I) (aMJ J0 J) P) (fun r u => ∃ b I' J' l', u = gST (aMI I0 I') (aMJ J0 J') P ∧ r = some (.int (bI b)) ∧ aK I J I' J' ∧ cB I' J' P l' ∧ l'.length ≤ 8 ∧ vIs t l' ∧ (b = true → t.2.2.1 w = true) ∧ fCh t W w m [qKey t W 0] b l') := by
  refine gT_n 3 ?_
  refine ⟨rfl, rfl, gTM.use (c_addKeys (z := 0) (l := []) hz hW hT hP hB (by decide) hz.1) (Nat.le_refl _) (fun r u hq => ?_)⟩
  obtain ⟨rfl, I1, J1, rfl, hN⟩ := hq  -- X5_addKeys[R145, K0]
  refine gT_n 4 ?_
  have hB1 := aN_B hP (by decide) hB hN
  have e := c_chainLoop (d := d) (Ia := I) (Ja := J) (Z := fCh t W w m [qKey t W 0]) hz oW hT hW hP hw m 0 (by omega) hnz I1 J1 [qKey t W 0] hB1 (by show 1 + 2 * m ≤ 7; omega) ((hN.2.1 5 (by decide)).trans h5) (aK_N (l := []) hP (by decide) hN) (vIs_app (l := []) (fun q hq => absurd hq (by simp)) (iOK_key hz oW hz.1 hz.2.2.2.1)) (by rw [hm0]; exact hz.2.2.2.1) (fun b l' h => h)
  rw [hm0] at e
  exact gT_k e ⟨rfl, rfl, rfl, trivial⟩ rfl
