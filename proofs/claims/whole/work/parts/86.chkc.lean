/-! a check: the class's call -/
theorem c_genL {d : Nat} {I X0 : Nat → Nat → Int32} {J : Nat → Nat → Int64} {Y : Nat → Int64} {P : Nat → Nat} {Q : Option Value → gW → Prop} {t : zT} {D : zK} {ck pk : Int32} {l : List zI} (hz : zOK t) (hS : kS t D ck pk l I J P) (rest : ∀ X : Nat → Nat → Int32, (∀ j, ¬ j = 170 → X j = X0 j) → genF X l → gT (d + 5) 94 73 [(0, .ref 167)] [] (0, 0) (gST (kM I X) (m1 J 28 Y) P) Q) : ∀ i, i ≤ l.length → ∀ X : Nat → Nat → Int32, (∀ j, ¬ j = 170 → X j = X0 j) → (∀ j, j < i → (gen (ig l j) ∧ X 170 j = 1) ∨ (¬ gen (ig l j) ∧ X 170 j = 0)) → gT (d + 5) 94 18 [(1, .int (nI i)), (0, .ref 167)] [] (0, 0) (gST (kM I X) (m1 J 28 Y) P) Q := by
  obtain ⟨hT, hD, hck, hpk, hcn, hit, h10, hok⟩ := hS
  have h4 := hz.2.1
  refine loopU l.length (fun i hi ih => ?_)
  intro X hfr hno
  by_cases hin : i < l.length
  · obtain ⟨hrr, hb, hI⟩ := hit i hin
    have hbb : 147 ≤ P i ∧ P i ≤ 166 := by omega
    have hbb1 : 147 ≤ P i + 1 ∧ P i + 1 ≤ 166 := by omega
    have hq := hok _ (ig_mem hin)
    refine gT_n 5 ?_
    refine ⟨rfl, rfl, pk_le l.length i (fun κ1 => ?_) (fun κ1 => ?_) (hcn) (rfl) (by omega) (by omega)⟩
    · exact absurd hin (by omega)
    · refine gT_n 8 ?_
      refine ⟨rfl, rfl, rfl, rfl, (pk_in i 10 (by omega) (rfl)), ?_⟩
      refine gT_top (aa_ref (b := P i) (rfl) (by omega) rfl) ?_
      refine gT_n 6 ?_
      refine ⟨hb.ob, rfl, rfl, rfl, (pk_in i 10 (by omega) (rfl)), ?_⟩
      refine gT_top (aa_ref (b := P i) (rfl) (by omega) rfl) ?_
      refine gT_n 1 ?_
      refine ⟨hb.ob, rfl, gTM.use (c_rightMark (I := kM I X) (J := m1 J 28 Y) hb (itm_k hit i hin).2.2 hq) (Nat.le_refl _) (fun r u hq => ?_)⟩
      obtain ⟨rfl, rfl⟩ := hq  -- X1_rightMark[Rb]
      refine gT_n 1 ?_
      refine px_ne (X := (ig l i).2.2.2.2.2.2.2) (Y := (imrk (ig l i) (ig l i).2.2.2.2.2.2.1)) ((Eq.trans (kM_r hbb) (hI.1.2.2.2.2))) (rfl) (fun κ2 => ?_) (fun κ2 => ?_)
      · refine gT_n 2 ?_
        refine ⟨(Or.inr rfl), (pk_in i 10 (by omega) (rfl)), (Or.inr ⟨rfl, Or.inl rfl⟩), ?_⟩
        refine gT_iv (n := i) (X := 0) (rfl) (by omega) (rfl) ?_
        refine gT_n 2 ?_
        refine gT_mem (w' := gST (kM I (gupI X 170 i 0)) (m1 J 28 Y) P) ?_ ?_
        · show gST (gupI (kM I X) 170 i 0) (m1 J 28 Y) P = _
          rw [gup_kM rfl]
        have e := ih (i + 1) (by omega) (by omega) (gupI X 170 i 0) (fun j hj => (gupI_n hj).trans (hfr j hj)) (fun j hj => ?_)
        · rw [← nI_1 i] at e
          exact gT_k e ⟨rfl, rfl, trivial⟩ rfl
        rw [gupI_b]
        by_cases g : j = i
        · subst g
          rw [upd_at]
          exact Or.inr ⟨κ2, rfl⟩
        · rw [upd_ne g]; exact hno j (by omega)
      · refine gT_n 3 ?_
        refine ⟨(Or.inr rfl), (pk_in i 10 (by omega) (rfl)), (Or.inr ⟨rfl, Or.inr rfl⟩), ?_⟩
        refine gT_iv (n := i) (X := 1) (rfl) (by omega) (rfl) ?_
        refine gT_n 2 ?_
        refine gT_mem (w' := gST (kM I (gupI X 170 i 1)) (m1 J 28 Y) P) ?_ ?_
        · show gST (gupI (kM I X) 170 i 1) (m1 J 28 Y) P = _
          rw [gup_kM rfl]
        have e := ih (i + 1) (by omega) (by omega) (gupI X 170 i 1) (fun j hj => (gupI_n hj).trans (hfr j hj)) (fun j hj => ?_)
        · rw [← nI_1 i] at e
          exact gT_k e ⟨rfl, rfl, trivial⟩ rfl
        rw [gupI_b]
        by_cases g : j = i
        · subst g
          rw [upd_at]
          exact Or.inl ⟨κ2, rfl⟩
        · rw [upd_ne g]; exact hno j (by omega)
  · refine gT_n 5 ?_
    refine ⟨rfl, rfl, pk_le l.length i (fun κ1 => ?_) (fun κ1 => ?_) (hcn) (rfl) (by omega) (by omega)⟩
    · exact gT_k (rest X hfr (fun j hj => hno j (by omega))) ⟨rfl, trivial⟩ rfl
    · exact absurd (show i < l.length by omega) hin
def fCk (t : zT) (D : zK) (ck pk : Int32) (l : List zI) (w nm so : Nat) (C : List zE) (x v : Int32) (z : Nat) (C' : List zE) (n' : Nat) : Prop :=
  ∃ m kn0 x1 kn1 C1 n1 x0 kn', m ≤ 3 ∧ zc t w m = 0 ∧ (∀ k, k < m → ¬ zc t w k = 0) ∧ fKy t D ck pk l 0 kn0 C x1 kn1 C1 n1 ∧ aft t D ck pk l w m x1 kn1 C1 n1 x0 z kn' C' n' ∧ pif (x0 = 100) (fSh t l kn' w nm so x v) (x = x0 ∧ v = -4)
theorem c_judge {d : Nat} {C : List zE} {I X : Nat → Nat → Int32} {J : Nat → Nat → Int64} {Y : Nat → Int64} {P : Nat → Nat} {t : zT} {D : zK} {ck pk : Int32} {l : List zI} (hz : zOK t) (hS : kS t D ck pk l I J P) {so nm w : Nat} (h3 : so < 3) (hw : w < t.1) (hso : I 145 4 = nI so) (hz5 : I 145 5 = nI w) (hn : vn nm) (hnm : J 145 3 = lN nm) (hH : cH X Y C) (hE : eOK t C) : gTM (d + 5) 94 [.ref 167] (gST (kM I X) (m1 J 28 Y) P) (fun r u => ∃ x v z C' n' X' Y', u = gST (kM I X') (m1 J 28 Y') P ∧ r = some (.int x) ∧ fCk t D ck pk l w nm so C x v z C' n' ∧ cH X' Y' C' ∧ eOK t C' ∧ (X' 167 0 = 1 ∧ X' 167 1 = v ∧ X' 167 2 = nI z ∧ X' 167 3 = nI n')) := by
  have hS0 := hS
  obtain ⟨hT, hD, hck, hpk, hcn, hit, h10, hok⟩ := hS
  have h4 := hz.2.1
  obtain ⟨m, hm, hm0, hnz⟩ := zm_ex hz hw
  have rest : ∀ X2 : Nat → Nat → Int32, (∀ j, ¬ j = 170 → X2 j = (gupI (gupI (gupI X 167 0 1) 167 1 (-4)) 167 3 0) j) → genF X2 l → gT (d + 5) 94 73 [(0, .ref 167)] [] (0, 0) (gST (kM I X2) (m1 J 28 Y) P) (fun r u => ∃ x v z C' n' X' Y', u = gST (kM I X') (m1 J 28 Y') P ∧ r = some (.int x) ∧ fCk t D ck pk l w nm so C x v z C' n' ∧ cH X' Y' C' ∧ eOK t C' ∧ (X' 167 0 = 1 ∧ X' 167 1 = v ∧ X' 167 2 = nI z ∧ X' 167 3 = nI n')) := by
    intro Xn hfr hgn
    have hfr0 : ∀ j, j < 167 → Xn j = X j := fun j hj => by rw [hfr j (by omega), gupI_n (by omega), gupI_n (by omega), gupI_n (by omega)]
    refine gT_n 3 ?_
    refine ⟨rfl, ?_⟩
    refine gT_kP (b := 167) rfl (X := 0) (rfl) ?_
    refine gT_n 4 ?_
    refine ⟨rfl, rfl, rfl, gTM.use (c_learn (z := 0) (kn := (fun k => Xn 169 0 = k ∨ Xn 169 1 = k ∨ Xn 169 2 = k)) hz hS0 (cH_fr hE.1 (fun j hj => (gupI_n (by omega)).trans (hfr0 j (by omega))) hH) hE (fun k _ => Iff.rfl) hgn hz.1) (Nat.le_refl _) (fun r u hq => ?_)⟩
    obtain ⟨x1, kn1, C1, n1, X2, Y2, rfl, rfl, hky, hH2, hE2, hk2, hg2, hca2, hf2⟩ := hq  -- X9_learn[R167, K0]
    refine gT_n 3 ?_
    have e := c_judgeL (d := d) hz hS0 h3 hw hso hz5 hn hnm (Z := aft t D ck pk l w m x1 kn1 C1 n1) m 0 (by omega) hnz X2 Y2 C1 x1 kn1 n1 (((hf2 2 (by decide)).trans gupI_rr).trans (by rw [hm0]; rfl)) hH2 hE2 hk2 (fun j hj => by rw [hg2]; exact hgn j hj) (by rw [hca2, gupI_b, upd_ne (by decide), hfr 167 (by decide)]; exact pk_addE (n := 0) (k := n1) rfl rfl |>.trans (by rw [Nat.zero_add])) ((hf2 0 (by decide)).trans (by rw [gupI_b, upd_ne (by decide), hfr 167 (by decide)]; rfl)) ((hf2 1 (by decide)).trans (by rw [gupI_b, upd_ne (by decide), hfr 167 (by decide)]; rfl)) (fun x z kn' C' n' h => h)
    refine gT_k (gT_mono _ _ _ _ _ _ _ _ _ (fun r u h => ?_) e) ⟨rfl, rfl, rfl, trivial⟩ rfl
    obtain ⟨x, x0, v, z, kn', C', n', Xn', Y', h1, h2, h3, h4, h5, h6, h7⟩ := h
    exact ⟨x, v, z, C', n', Xn', Y', h1, h2, ⟨m, _, x1, kn1, C1, n1, x0, kn', hm, hm0, hnz, hky, h3, h4⟩, h5, h6, h7⟩
  refine gT_n 3 ?_
  refine ⟨rfl, (Or.inr rfl), ?_⟩
  refine gT_kP (b := 167) rfl (X := 1) (rfl) ?_
  refine gT_n 3 ?_
  refine ⟨rfl, ?_⟩
  refine gT_kP (b := 167) rfl (X := (-4)) (rfl) ?_
  refine gT_n 3 ?_
  refine ⟨rfl, ?_⟩
  refine gT_kP (b := 167) rfl (X := 0) (rfl) ?_
  refine gT_n 2 ?_
  exact gT_k (c_genL (d := d) (X0 := (gupI (gupI (gupI X 167 0 1) 167 1 (-4)) 167 3 0)) (Y := Y) hz hS0 rest 0 (by omega) (gupI (gupI (gupI X 167 0 1) 167 1 (-4)) 167 3 0) (fun j _ => rfl) (fun j hj => absurd hj (Nat.not_lt_zero j))) ⟨rfl, rfl, trivial⟩ rfl
theorem cP_k {I X : Nat → Nat → Int32} {J : Nat → Nat → Int64} {Y : Nat → Int64} {P : Nat → Nat} {p : zP} (h : cP I J P p) : cP (kM I X) (m1 J 28 Y) P p := by
  refine ⟨h.1, h.2.1, h.2.2.1, h.2.2.2.1, h.2.2.2.2.1, fun k hk j hj e => ?_⟩
  have g := h.2.2.2.2.2 k hk j hj e
  obtain ⟨a, b, c⟩ := iF_at (I := I) (J := J) hj
  obtain ⟨a', b', c'⟩ := iF_at (I := kM I X) (J := m1 J 28 Y) hj
  rw [a, b, c] at g
  rw [a', b', c', kM_it (by omega), kM_it (by omega), m1_n (by omega)]
  exact g
def setC (s : zS) (C : List zE) (q : Int32 × Nat × Int32) : zS := (s.1, s.2.1, s.2.2.1, (s.2.2.2.1.1, s.2.2.2.1.2.1, s.2.2.2.1.2.2.1, s.2.2.2.1.2.2.2.1, s.2.2.2.1.2.2.2.2.1, C), s.2.2.2.2.1, s.2.2.2.2.2.1, some q, s.2.2.2.2.2.2.2)
theorem setC_ok {s : zS} {C : List zE} {q : Int32 × Nat × Int32} (h : sOK s) (hE : eOK s.2.2.1 C) : sOK (setC s C q) := by
  obtain ⟨a, b, c, e⟩ := h
  exact ⟨a, b, ⟨c.1, c.2.1, c.2.2.1, c.2.2.2.1, hE.1, hE.2⟩, e⟩
def fChk (s : zS) (x : Int32) (s' : zS) : Prop := match s.2.2.2.2.2.1 with
  | none => x = -2 ∧ s' = s
  | some p => ∃ v z C' n', fCk s.2.2.1 (s.2.2.2.1.2.2.1 0) s.2.2.2.1.2.2.2.2.1 p.2.2.2.2 p.1 p.2.2.2.1 p.2.1 p.2.2.1 s.2.2.2.1.2.2.2.2.2 x v z C' n' ∧ eOK s.2.2.1 C' ∧ s' = setC s C' (v, z, nI n')
theorem o_check_c {d : Nat} {s : zS} {I : Nat → Nat → Int32} {J : Nat → Nat → Int64} {P : Nat → Nat} (hO : sOK s) (hC : RC s I J P) (hM : RM s I J) : gTM (d + 9) 137 [.ref 0] (gST I J P) (pC s (fChk s)) := by
  obtain ⟨tp, fn, t, W, nm, pr, ch, i0, i1⟩ := s
  have hO0 := hO
  have hC0 := hC
  have hM0 := hM
  obtain ⟨oTp, oT, oW, oN, oP, oI0, oI1⟩ := hO
  obtain ⟨kTp, kF, kT, kW, kN, kP, kC, kI0, kI1, kB, kPP⟩ := hC
  obtain ⟨jTp, jF, jT, jSp, jW, jN, jP, jC, jI0, jI1, jB, jL⟩ := hM
  dsimp only at oTp oT oW oN oP oI0 oI1 kTp kF kT kW kN kP kC kI0 kI1 jTp jF jT jSp jW jN jP jC jI0 jI1
  try dsimp only
  cases pr with
  | none =>
    refine gT_n 4 ?_
    refine ⟨rfl, rfl, fun _ => ?_, fun c => absurd (kpT (p := fun z : Int32 => z = 0) (show _ = (0 : Int32) from kP.1) (by decide)) c⟩
    refine gT_n 2 ?_
    exact ⟨_, _, I, J, P, rfl, rfl, ⟨⟨rfl, rfl⟩, hO0⟩, hC0, hM0⟩
  | some p =>
    obtain ⟨h10, hoI, oPn, oP4, oPz⟩ := oP p rfl
    have cp := kP.2 p rfl
    have hzz : p.2.2.2.1 < t.1 := by rw [oPz]; exact zof_lt oT _
    have hE : eOK t W.2.2.2.2.2 := ⟨oW.2.2.2.2.1, oW.2.2.2.2.2⟩
    have hH : cH I (J 28) W.2.2.2.2.2 := (cE_F hE.1).mp kW.2.2.2.2.2
    have hS : kS t (W.2.2.1 0) W.2.2.2.2.1 p.2.2.2.2 p.1 I J P := ⟨kT, kW.2.2.1.1, kW.2.2.2.2.1, cp.2.2.2.2.1, cp.1, itm_of cp kPP h10, h10, hoI⟩
    have key : gTM (d + 9) 137 [.ref 0] (gST (kM I I) (m1 J 28 (J 28)) P) (pC (tp, fn, t, W, nm, some p, ch, i0, i1) (fChk (tp, fn, t, W, nm, some p, ch, i0, i1))) := by
      refine gT_n 4 ?_
      refine ⟨rfl, rfl, fun c => absurd c (kpT (p := fun z : Int32 => ¬ (z = 0)) (show _ = (1 : Int32) from kP.1) (by decide)), fun _ => ?_⟩
      refine gT_n 3 ?_
      refine ⟨rfl, rfl, rfl, gTM.use (c_judge (X := I) (Y := J 28) oT hS oP4 hzz cp.2.2.1 cp.2.2.2.1 oPn cp.2.1 hH hE) (Nat.le_refl _) (fun r u hq => ?_)⟩
      obtain ⟨x, v, z, C', n', X', Y', rfl, rfl, hck, hH', hE', f0, f1, f2, f3⟩ := hq  -- X9_judge[R167]
      refine gT_n 2 ?_
      exact ⟨x, _, kM I X', m1 J 28 Y', P, rfl, rfl, ⟨⟨v, z, C', n', hck, hE', rfl⟩, setC_ok hO0 hE'⟩, ⟨kTp, kF, kT, ⟨kW.1, kW.2.1, kW.2.2.1, kW.2.2.2.1, kW.2.2.2.2.1, (cE_F (X := X') hE'.1).mpr ⟨hH'.1, hH'.2⟩⟩, kN, ⟨kP.1, fun q hq => cP_k (kP.2 q hq)⟩, ⟨f0, fun q hq => by cases hq; exact ⟨f1, f2, f3⟩⟩, kI0, kI1, kB, kPP⟩, hM0⟩
    rw [kM_self, m1_self] at key
    exact key
