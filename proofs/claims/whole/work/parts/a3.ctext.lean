/-! text: the class's call -/
def ovr (I X : Nat → Nat → Int32) : Nat → Nat → Int32 := fun a => cond (Nat.ble 171 a) (I a) (X a)
def ovrJ (J Y : Nat → Nat → Int64) : Nat → Nat → Int64 := fun a => cond (Nat.ble 171 a) (J a) (Y a)
theorem ovr_of {I X : Nat → Nat → Int32} (h : ∀ a, 171 ≤ a → X a = I a) : X = ovr I X := by
  funext a
  unfold ovr
  cases e : Nat.ble 171 a
  · rfl
  · exact h a (Nat.le_of_ble_eq_true e)
theorem ovrJ_of {J Y : Nat → Nat → Int64} (h : ∀ a, 171 ≤ a → Y a = J a) : Y = ovrJ J Y := by
  funext a
  unfold ovrJ
  cases e : Nat.ble 171 a
  · rfl
  · exact h a (Nat.le_of_ble_eq_true e)
theorem RM_ovr {s : zS} {I X : Nat → Nat → Int32} {J Y : Nat → Nat → Int64} (hM : RM s I J) (h : ∀ a, 171 ≤ a → X a = I a) (g : ∀ a, 171 ≤ a → Y a = J a) : RM s X Y := by
  rw [ovr_of h, ovrJ_of g]; exact hM
def newS (b : Nat → Nat) (D : zD) : zS := ((0, b), 0, D.1, (D.2.1, kz D.1, kz D.1, az D.1, 0, []), 0, none, none, none, none)
def fTxt (s : zS) (x : Int32) (s' : zS) : Prop := ∃ rr, rLs s.1.1 s.1.2 (s.1.1 + 1) 0 D0 0 rr ∧ match rr with
  | .inl f => x = -10 - nI f.2 ∧ s' = ((0, s.1.2), f.1, s.2.2)
  | .inr g => x = nI g.2 ∧ dOK g.1 ∧ s' = newS s.1.2 g.1
theorem kz_len {t : zT} {z : Nat} : (kz t z).length ≤ 1 := by
  unfold kz
  by_cases c : z < t.1 ∧ t.2.2.1 z = true
  · rw [if_pos c]; exact Nat.le_refl _
  · rw [if_neg c]; exact Nat.zero_le _
theorem newW_ok {D : zD} (h : dOK D) : wOK D.1 (D.2.1, kz D.1, kz D.1, az D.1, 0, []) := by
  have h4 := h.1.2.1
  refine ⟨h.2.1, fun z _ => Nat.le_trans kz_len (by decide), fun z _ => Nat.le_trans kz_len (by decide), fun z hz hs => ?_, (by decide : 0 ≤ 4), fun q hq => absurd hq (by simp)⟩
  show 0 < az D.1 z
  unfold az
  rw [if_pos ⟨hz, hs⟩]
  exact nI_lt (a := 0) (by omega) (by omega)
theorem newS_ok {b : Nat → Nat} {D : zD} (h : dOK D) : sOK (newS b D) := ⟨⟨by show 0 ≤ 200; omega, fun k hk => absurd hk (Nat.not_lt_zero k)⟩, h.1, newW_ok h, vn_0, fun p hp => absurd hp (by simp [newS]), fun p hp => absurd hp (by simp [newS]), fun p hp => absurd hp (by simp [newS])⟩
theorem c_startAnew {d : Nat} {t : zT} {I : Nat → Nat → Int32} {J : Nat → Nat → Int64} {P : Nat → Nat} (hz : zOK t) (hT : cTr I J t) : gTM (d + 3) 119 [.ref 0] (gST I J P) (fun r u => r = none ∧ ∃ X, u = gST X (gupL J 0 8 (lN 0)) P ∧ (∀ a, ¬ (a = 17 ∨ a = 24 ∨ a = 25 ∨ (34 ≤ a ∧ a ≤ 57) ∨ a = 141 ∨ a = 145 ∨ a = 167) → X a = I a) ∧ X 145 2 = 0 ∧ X 167 0 = 0 ∧ X 141 0 = 0 ∧ X 141 1 = 0 ∧ X 17 5 = 0 ∧ X 25 4 = 0 ∧ (∀ y, y < 4 → cK (X (34 + 6 * y) 2) (X (34 + 6 * y + 1)) (X (34 + 6 * y + 2)) (kz t y) ∧ cK (X (37 + 6 * y) 2) (X (37 + 6 * y + 1)) (X (37 + 6 * y + 2)) (kz t y) ∧ X 24 y = az t y)) := by
  refine gT_n 5 ?_
  refine ⟨rfl, rfl, rfl, rfl, gTM.use (c_worldAnew hz hT) (Nat.le_refl _) (fun r u hq => ?_)⟩
  obtain ⟨rfl, X, rfl, hfr, hZ⟩ := hq  -- X10_startAnew[R17, R12]
  refine gT_n 4 ?_
  refine ⟨rfl, rfl, (Or.inl rfl), ?_⟩
  refine gT_gp (b := 145) (X := 0) (rfl) ?_
  refine gT_n 4 ?_
  refine ⟨rfl, rfl, (Or.inl rfl), ?_⟩
  refine gT_gp (b := 167) (X := 0) (rfl) ?_
  refine gT_n 2 ?_
  refine gT_k (L := [(1, .int 0), (0, .ref 0)]) ?_ ⟨rfl, rfl, trivial⟩ rfl
  refine gT_n 3 ?_
  refine ⟨fun c => absurd c (by decide), fun _ => ?_⟩
  refine gT_n 5 ?_
  refine ⟨rfl, (Or.inr rfl), (pk_inS (m := 2) (k := 0) (rfl) (by decide) (rfl)), (Or.inr ⟨rfl, Or.inl rfl⟩), ?_⟩
  refine gT_ga (b := 141) (n := 0) (X := 0) (rfl) (by omega) (rfl) ?_
  refine gT_n 2 ?_
  refine gT_k (L := [(1, .int 1), (0, .ref 0)]) ?_ ⟨rfl, rfl, trivial⟩ rfl
  refine gT_n 3 ?_
  refine ⟨fun c => absurd c (by decide), fun _ => ?_⟩
  refine gT_n 5 ?_
  refine ⟨rfl, (Or.inr rfl), (pk_inS (m := 2) (k := 1) (rfl) (by decide) (rfl)), (Or.inr ⟨rfl, Or.inl rfl⟩), ?_⟩
  refine gT_ga (b := 141) (n := 1) (X := 0) (rfl) (by omega) (rfl) ?_
  refine gT_n 2 ?_
  refine gT_k (L := [(1, .int 2), (0, .ref 0)]) ?_ ⟨rfl, rfl, trivial⟩ rfl
  refine gT_n 3 ?_
  refine ⟨fun _ => ?_, fun c => absurd (by decide) c⟩
  refine gT_n 3 ?_
  refine ⟨rfl, ?_⟩
  refine gT_gl (b := 0) (X := (lN 0)) (rfl) ?_
  refine gT_n 1 ?_
  refine ⟨rfl, ?_⟩
  refine ⟨rfl, _, rfl, fun a ha => ?_, (by rfl), (by rfl), (by rfl), (by rfl), (congrFun (hfr 17 (by omega)) 5).trans rfl, (congrFun (hfr 25 (by omega)) 4).trans rfl, fun y hy => ?_⟩
  · rw [gupI_n (by omega), gupI_n (by omega), gupI_n (by omega), gupI_n (by omega), hfr a (by omega), gupI_n (by omega), gupI_n (by omega)]
  · have e : ∀ o, o ≤ 57 → gupI (gupI (gupI (gupI X 145 2 0) 167 0 0) 141 0 0) 141 1 0 o = X o := fun o ho => by rw [gupI_n (by omega), gupI_n (by omega), gupI_n (by omega), gupI_n (by omega)]
    rw [e (34 + 6 * y) (by omega), e (34 + 6 * y + 1) (by omega), e (34 + 6 * y + 2) (by omega), e (37 + 6 * y) (by omega), e (37 + 6 * y + 1) (by omega), e (37 + 6 * y + 2) (by omega), e 24 (by omega)]
    exact hZ y hy
theorem RC_new {b : Nat → Nat} {D : zD} {X : Nat → Nat → Int32} {Y : Nat → Nat → Int64} {P : Nat → Nat} (hP : pP P) (h1 : X 1 1 = 0) (h4 : X 1 4 = 0) (hT : cTr X Y D.1) (hR : cR (X 18 3) (Y 19) (X 20) (X 21) D.2.1) (hn : Y 0 8 = lN 0) (q : X 145 2 = 0 ∧ X 167 0 = 0 ∧ X 141 0 = 0 ∧ X 141 1 = 0 ∧ X 17 5 = 0 ∧ X 25 4 = 0) (hZ : (∀ y, y < 4 → cK (X (34 + 6 * y) 2) (X (34 + 6 * y + 1)) (X (34 + 6 * y + 2)) (kz D.1 y) ∧ cK (X (37 + 6 * y) 2) (X (37 + 6 * y + 1)) (X (37 + 6 * y + 2)) (kz D.1 y) ∧ X 24 y = az D.1 y)) (hb : ∀ z, z < 4 → X 6 z = 0 ∨ X 6 z = 1) : RC (newS b D) X Y P := by
  obtain ⟨q1, q2, q3, q4, q5, q6⟩ := q
  obtain ⟨a0, b0, c0⟩ := hZ 0 (by decide)
  obtain ⟨a1, b1, c1⟩ := hZ 1 (by decide)
  obtain ⟨a2, b2, c2⟩ := hZ 2 (by decide)
  obtain ⟨a3, b3, c3⟩ := hZ 3 (by decide)
  exact ⟨⟨h1, fun k hk => absurd hk (Nat.not_lt_zero k)⟩, h4, hT, ⟨hR, ⟨a0, a1, a2, a3⟩, ⟨b0, b1, b2, b3⟩, ⟨c0, c1, c2, c3⟩, q5, ⟨q6, fun i hi => absurd hi (Nat.not_lt_zero i)⟩⟩, hn, ⟨q1, fun p hp => absurd hp (by simp [newS])⟩, ⟨q2, fun p hp => absurd hp (by simp [newS])⟩, ⟨q3, fun p hp => absurd hp (by simp [newS])⟩, ⟨q4, fun p hp => absurd hp (by simp [newS])⟩, hb, hP⟩
theorem gTM_T {d y : Nat} {As : List Value} {I : Nat → Nat → Int32} {J : Nat → Nat → Int64} {P : Nat → Nat} {w : gW} {rel : zF ⊕ (zD × Nat) → Prop} (h : gTM d y As w (fun r u => ∃ rr X' Y', rel rr ∧ u = gST (uM I X') (uJ J Y') P ∧ tOut X' Y' r rr)) : gTM d y As w (fun r u => (∃ f X' Y', rel (.inl f) ∧ ∃ x, r = some (.int x) ∧ u = gST (uM I X') (uJ J Y') P ∧ (X' 1 4 = f.1 ∧ X' 1 5 = nI f.2) ∧ b6 X' Y') ∨ (∃ g X' Y', rel (.inr g) ∧ r = some (.int (nI g.2)) ∧ u = gST (uM I X') (uJ J Y') P ∧ dft X' Y' g.1 ∧ dOK g.1 ∧ X' 1 4 = 0 ∧ ∀ y, 1 ≤ y → y < g.1.1.1 → X' 7 y = nI (zpa g.1.1 y))) := by
  refine gTM.use h (Nat.le_refl _) (fun r u h => ?_)
  obtain ⟨rr, X', Y', h1, h2, h3⟩ := h
  cases rr with
  | inl f => obtain ⟨⟨x, hx⟩, h4, h5⟩ := h3; exact Or.inl ⟨f, X', Y', h1, x, hx, h2, h4, h5⟩
  | inr g => exact Or.inr ⟨g, X', Y', h1, h3.1, h2, h3.2⟩
theorem uM_out {I X : Nat → Nat → Int32} {a : Nat} (h : 171 ≤ a) : gupI (uM I X) 1 1 0 a = I a := by
  rw [gupI_n (by omega)]
  unfold uM uIn
  rw [beq_ne (by omega), ble_f (a := a) (b := 11) (by omega), Bool.and_false]; rfl
theorem uJ_out {J Y : Nat → Nat → Int64} {a : Nat} (h : 171 ≤ a) : uJ J Y a = J a := by
  unfold uJ uJn
  rw [beq_ne (by omega), beq_ne (by omega), beq_ne (by omega)]; rfl
theorem o_text_c {d : Nat} {s : zS} {I : Nat → Nat → Int32} {J : Nat → Nat → Int64} {P : Nat → Nat} (hO : sOK s) (hC : RC s I J P) (hM : RM s I J) : gTM (d + 9) 117 [.ref 0] (gST I J P) (pC s (fTxt s)) := by
  obtain ⟨tp, fn, t, W, nm, pr, ch, i0, i1⟩ := s
  have hO0 := hO
  have hC0 := hC
  have hM0 := hM
  obtain ⟨oTp, oT, oW, oN, oP, oI0, oI1⟩ := hO
  obtain ⟨kTp, kF, kT, kW, kN, kP, kC, kI0, kI1, kB, kPP⟩ := hC
  obtain ⟨jTp, jF, jT, jSp, jW, jN, jP, jC, jI0, jI1, jB, jL⟩ := hM
  dsimp only at oTp oT oW oN oP oI0 oI1 kTp kF kT kW kN kP kC kI0 kI1 jTp jF jT jSp jW jN jP jC jI0 jI1
  try dsimp only
  have hT : tpe I tp.1 tp.2 := ⟨kTp.1, oTp.1, fun k hk => ⟨kTp.2 k hk, oTp.2 k hk⟩⟩
  have key : gTM (d + 9) 117 [.ref 0] (gST (uM I I) (uJ J J) P) (pC (tp, fn, t, W, nm, pr, ch, i0, i1) (fTxt (tp, fn, t, W, nm, pr, ch, i0, i1))) := by
    refine gT_n 3 ?_
    refine ⟨rfl, rfl, rfl, gTM.use (gTM_T (c_readTape hT kB)) (Nat.le_refl _) (fun r u hq => ?_)⟩
    obtain ⟨f, X', Y', hrr, x0, rfl, rfl, ho, hb6⟩ | ⟨g, X', Y', hrr, rfl, rfl, hd, hOd, h40, hpp⟩ := hq  -- X6_readTape[R1]
    · refine gT_n 5 ?_
      refine ⟨rfl, rfl, ?_⟩
      refine gT_k (L := [(1, .int x0), (0, .ref 0)]) ?_ ⟨rfl, rfl, trivial⟩ rfl
      refine gT_n 4 ?_
      refine ⟨rfl, rfl, px_eq (X := f.1) (Y := (0)) (ho.1) (rfl) (fun κ1 => ?_) (fun κ1 => ?_)⟩
      · exact absurd (by assumption) (rLs_f _ _ _ _ _ hrr)
      · refine gT_n 6 ?_
        refine ⟨rfl, rfl, ?_⟩
        refine ⟨_, ((0, tp.2), f.1, t, W, nm, pr, ch, i0, i1), (gupI (uM I X') 1 1 0), (uJ J Y'), P, rfl, rfl, ⟨⟨.inl f, hrr, ?_, rfl⟩, ?_⟩, ?_, ?_⟩
        · exact congrArg (fun q => (-10 : Int32) - q) ho.2
        · exact ⟨⟨by show 0 ≤ 200; omega, fun k hk => absurd hk (Nat.not_lt_zero k)⟩, oT, oW, oN, oP, oI0, oI1⟩
        · obtain ⟨tb, hb1, hb2⟩ := hb6
          exact ⟨⟨rfl, fun k hk => absurd hk (Nat.not_lt_zero k)⟩, ho.1, kT, kW, kN, kP, kC, kI0, kI1, hb2.2.2.2.2, kPP⟩
        · exact hM0
    · refine gT_n 5 ?_
      refine ⟨rfl, rfl, ?_⟩
      refine gT_k (L := [(1, .int (nI g.2)), (0, .ref 0)]) ?_ ⟨rfl, rfl, trivial⟩ rfl
      refine gT_n 4 ?_
      refine ⟨rfl, rfl, fun _ => ?_, fun c => absurd (kpT (p := fun z : Int32 => z = 0) (show _ = (0 : Int32) from h40) (by decide)) c⟩
      refine gT_n 6 ?_
      refine ⟨rfl, rfl, rfl, rfl, rfl, gTM.use (c_tcopy (I := (gupI (uM I X') 1 1 0)) (J := (uJ J Y')) hd.1.2.2.2.2) (Nat.le_refl _) (fun r u hq => ?_)⟩
      obtain ⟨rfl, X1, Y1, rfl, fx1, fy1, c1, c2, c3⟩ := hq  -- X8_copyFrom[R12, R3]
      refine gT_n 7 ?_
      refine ⟨rfl, rfl, rfl, rfl, rfl, rfl, gTM.use (c_rcopy_18_8 (n := g.1.2.1.length) (I := X1) (J := Y1) (by rw [fx1 8 (by omega)]; exact hd.2.2.1.1) hOd.2.1.1) (Nat.le_refl _) (fun r u hq => ?_)⟩
      obtain ⟨rfl, rfl⟩ := hq  -- X7_copyFrom[R18, R8]
      have h4g := hOd.1.2.1
      have hTr : cTr (m2 (gupI X1 18 3 (nI g.1.2.1.length)) 20 (cpr (X1 10) (X1 20) g.1.2.1.length) 21 (cpr (X1 11) (X1 21) g.1.2.1.length)) (m1 Y1 19 (cpr (Y1 9) (Y1 19) g.1.2.1.length)) g.1.1 := by
        refine ⟨⟨?_, fun z hz => ?_, fun z hz => ?_, fun z hz => ?_, fun z hz => ?_⟩, ?_, fun z hz => ?_⟩
        · exact c1.trans hd.1.1
        · exact (c3 z (by omega)).1.trans (hd.1.2.1 z hz)
        · exact (c3 z (by omega)).2.1.trans (hd.1.2.2.1 z hz)
        · exact (c3 z (by omega)).2.2.1.trans (hd.1.2.2.2.1 z hz)
        · have e := (c3 z hz).2.2.1
          show X1 15 z = 0 ∨ X1 15 z = 1
          rw [e]; exact hd.1.2.2.2.2 z hz
        · exact c2.trans hd.2.1
        · refine ((c3 z (by omega)).2.2.2).trans ?_
          show X' 7 z = zpI g.1.1 z
          unfold zpI
          by_cases e : z = 0
          · rw [if_pos e, e]; exact hd.2.2.2.2
          · rw [if_neg e]; exact hpp z (by omega) hz
      refine gT_n 2 ?_
      refine ⟨rfl, rfl, gTM.use (c_startAnew (t := g.1.1) hOd.1 hTr) (Nat.le_refl _) (fun r u hq => ?_)⟩
      obtain ⟨rfl, X3, rfl, fx3, q1, q2, q3, q4, q5, q6, hZ⟩ := hq  -- X11_startAnew[R0]
      refine gT_n 2 ?_
      have hx : ∀ a, ¬ (12 ≤ a ∧ a ≤ 57) → ¬ a = 141 → ¬ a = 145 → ¬ a = 167 → X3 a = (gupI (uM I X') 1 1 0) a := fun a g1 g2 g3 g4 => by
        rw [fx3 a (by omega), m2_n (by omega) (by omega), gupI_n (by omega), fx1 a (by omega)]
      have hy : ∀ a, ¬ a = 0 → ¬ a = 13 → ¬ a = 19 → gupL (m1 Y1 19 (cpr (Y1 9) (Y1 19) g.1.2.1.length)) 0 8 (lN 0) a = (uJ J Y') a := fun a g1 g2 g3 => by
        rw [gupL_n g1, m1_n g3, fy1 a g2]
      refine ⟨_, newS tp.2 g.1, X3, gupL (m1 Y1 19 (cpr (Y1 9) (Y1 19) g.1.2.1.length)) 0 8 (lN 0), P, rfl, rfl, ⟨⟨.inr g, hrr, rfl, hOd, rfl⟩, newS_ok hOd⟩, RC_new kPP ?_ ?_ ?_ ?_ rfl ⟨q1, q2, q3, q4, q5, q6⟩ hZ ?_, RM_ovr hM0 (fun a ha => ?_) (fun a ha => ?_)⟩
      · rw [hx 1 (by omega) (by omega) (by omega) (by omega)]; rfl
      · rw [hx 1 (by omega) (by omega) (by omega) (by omega)]; exact h40
      · have e := hTr
        unfold cTr at e ⊢
        rw [fx3 12 (by omega), fx3 14 (by omega), fx3 15 (by omega), fx3 16 (by omega)]
        exact e
      · rw [fx3 18 (by omega), fx3 20 (by omega), fx3 21 (by omega)]
        refine ⟨rfl, fun i hi => ?_⟩
        have e := hd.2.2.1.2 i hi
        refine ⟨?_, ?_, ?_⟩
        · show cpr (Y1 9) (Y1 19) g.1.2.1.length i = _
          rw [cpr_in hi, fy1 9 (by omega)]; exact e.1
        · show cpr (X1 10) (X1 20) g.1.2.1.length i = _
          rw [cpr_in hi, fx1 10 (by omega)]; exact e.2.1
        · show cpr (X1 11) (X1 21) g.1.2.1.length i = _
          rw [cpr_in hi, fx1 11 (by omega)]; exact e.2.2
      · intro z hz
        rw [hx 6 (by omega) (by omega) (by omega) (by omega)]; exact hd.1.2.2.2.2 z hz
      · rw [hx a (by omega) (by omega) (by omega) (by omega)]; exact uM_out ha
      · rw [hy a (by omega) (by omega) (by omega)]; exact uJ_out ha
  rw [uM_self, uJ_self] at key
  exact key

