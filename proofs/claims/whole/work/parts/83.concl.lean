/-! keys learned, what is shown: the class -/
theorem c_learnK {d z : Nat} {C : List zE} {dg : Int32 → Prop} {I X : Nat → Nat → Int32} {J : Nat → Nat → Int64} {Y : Nat → Int64} {P : Nat → Nat} {t : zT} {D : zK} {ck pk : Int32} {l : List zI} (hz : zOK t) (hS : kS t D ck pk l I J P) (hH : cH X Y C) (hE : eOK t C) (hd : kro (X 168) dg) (hgn : genF X l) (hzz : z < t.1) : gTM (d + 3) 99 [.ref 167, .int (nI z)] (gST (kM I X) (m1 J 28 Y) P) (fun r u => ∃ x kn' C' n X' Y', u = gST (kM I X') (m1 J 28 Y') P ∧ r = some (.int x) ∧ fLk t pk l z dg C x kn' C' n ∧ cH X' Y' C' ∧ eOK t C' ∧ (x = 100 → kro (X' 169) kn') ∧ X' 170 = X 170 ∧ (X' 167 3 = X 167 3 + nI n ∧ ∀ f, ¬ f = 3 → X' 167 f = X 167 f)) := by
  obtain ⟨hT, hD, hck, hpk, hcn, hit, h10, hok⟩ := hS
  have h4 := hz.2.1
  have loop : ∀ i, i ≤ l.length → (∀ j, j < i → ¬ (((ig l j).1 = 1 ∧ (ig l j).2.1 = z) ∧ (gen (ig l j) ∧ amo (ig l j).2.2.2.2.2.1 (ig l j).2.2.2.2.2.2.1) ∧ dg (ig l j).2.2.2.2.2.2.1)) → gT (d + 3) 99 2 [(2, .int (nI i)), (0, .ref 167), (1, .int (nI z))] [] (0, 0) (gST (kM I X) (m1 J 28 Y) P) (fun r u => ∃ x kn' C' n X' Y', u = gST (kM I X') (m1 J 28 Y') P ∧ r = some (.int x) ∧ fLk t pk l z dg C x kn' C' n ∧ cH X' Y' C' ∧ eOK t C' ∧ (x = 100 → kro (X' 169) kn') ∧ X' 170 = X 170 ∧ (X' 167 3 = X 167 3 + nI n ∧ ∀ f, ¬ f = 3 → X' 167 f = X 167 f)) := by
    refine loopU l.length (fun i hi ih => ?_)
    intro hno
    by_cases hin : i < l.length
    · obtain ⟨hrr, hb, hI⟩ := hit i hin
      have hbb : 147 ≤ P i ∧ P i ≤ 166 := by omega
      have hbb1 : 147 ≤ P i + 1 ∧ P i + 1 ≤ 166 := by omega
      have hq := hok _ (ig_mem hin)
      have hq4 := hq.2.2.2.1
      refine gT_n 5 ?_
      refine ⟨rfl, rfl, pk_le l.length i (fun κ1 => ?_) (fun κ1 => ?_) (hcn) (rfl) (by omega) (by omega)⟩
      · exact absurd hin (by omega)
      · refine gT_n 5 ?_
        refine ⟨rfl, rfl, rfl, (pk_in i 10 (by omega) (rfl)), ?_⟩
        refine gT_top (aa_ref (b := P i) (rfl) (by omega) rfl) ?_
        refine gT_n 6 ?_
        refine ⟨rfl, rfl, gTM.use (c_isOf hz (by omega) hit h10 hok hin) (Nat.le_refl _) (fun r u hq => ?_)⟩
        obtain ⟨rfl, ⟨rfl, β2⟩ | ⟨rfl, β2⟩⟩ := hq  -- X9_isOf[R167, nI i, K1, nI z]
        · refine gT_n 1 ?_
          refine ⟨fun c => absurd c (by decide), fun _ => ?_⟩
          refine gT_n 4 ?_
          refine ⟨hb.ob, ?_⟩
          refine gT_top (hb.v5) ?_
          refine gT_n 1 ?_
          refine ⟨rfl, rfl, gTM.use (c_isRightI (kn := dg) hz hit h10 hok hin hgn) (Nat.le_refl _) (fun r u hq => ?_)⟩
          obtain ⟨rfl, ⟨rfl, β3⟩ | ⟨rfl, β3⟩⟩ := hq  -- X9_isRight[R167, nI i, Rb + 1]
          · refine gT_n 1 ?_
            refine ⟨fun c => absurd c (by decide), fun _ => ?_⟩
            refine gT_n 5 ?_
            refine ⟨rfl, hb.ob, rfl, gTM.useA (c_holds (I := kM I X) (J := m1 J 28 Y) rfl rfl) (Nat.le_refl _) (aR (aI ((Eq.trans (kM_r hbb) (hI.1.2.2.2.1))) (rfl))) (fun r u hq => ?_)⟩
            obtain ⟨rfl, ⟨rfl, β4⟩ | ⟨rfl, β4⟩⟩ := hq  -- X11_holds[R168, (ig l i).2.2.2.2.2.2.1]
            · refine gT_n 1 ?_
              refine ⟨fun c => absurd c (by decide), fun _ => ?_⟩
              refine gT_n 5 ?_
              refine ⟨rfl, rfl, rfl, gTM.use (c_take169 hz hit h10 hok hin hH hE hpk hT.2.1) (Nat.le_refl _) (fun r u hq => ?_)⟩
              obtain ⟨rfl, X1, Y1, r0, hr0, rfl, hH1, hrow, hca, hf, hfr⟩ := hq  -- X9_takeNumbers[R167, nI i, R169]
              refine gT_n 2 ?_
              obtain ⟨e1, e2⟩ := β2
              rw [e1, e2] at hr0 hH1
              refine ⟨100, amo (ig l i).2.2.2.2.2.1, _, 1, X1, Y1, rfl, rfl, ⟨some i, ⟨hin, ⟨⟨e1, e2⟩, β3, (hd _ hq.2.2.2.2).mp β4⟩, hno⟩, (pif_neg (by simp)).mpr ⟨i, rfl, rfl, rfl, ⟨r0, hr0, rfl⟩, rfl⟩⟩, hH1, eOK_app hE hr0 hzz, fun _ => kro_cm hrow, hfr 170 (by decide) (by decide), hca, hf⟩
            · refine gT_n 1 ?_
              refine ⟨fun _ => ?_, fun c => absurd (by decide) c⟩
              refine gT_n 2 ?_
              have e := ih (i + 1) (by omega) (by omega) (fun j hj => by
                rcases Nat.lt_or_ge j i with g | g
                · exact hno j g
                · obtain rfl : j = i := by omega
                  intro c
                  first | exact absurd c.1 (by assumption) | exact absurd c.2.1 (by assumption) | exact absurd ((hd _ hq.2.2.2.2).mpr c.2.2) (by assumption))
              rw [← nI_1 i] at e
              exact gT_k e ⟨rfl, rfl, rfl, trivial⟩ rfl
          · refine gT_n 1 ?_
            refine ⟨fun _ => ?_, fun c => absurd (by decide) c⟩
            refine gT_n 2 ?_
            have e := ih (i + 1) (by omega) (by omega) (fun j hj => by
              rcases Nat.lt_or_ge j i with g | g
              · exact hno j g
              · obtain rfl : j = i := by omega
                intro c
                first | exact absurd c.1 (by assumption) | exact absurd c.2.1 (by assumption) | exact absurd ((hd _ hq.2.2.2.2).mpr c.2.2) (by assumption))
            rw [← nI_1 i] at e
            exact gT_k e ⟨rfl, rfl, rfl, trivial⟩ rfl
        · refine gT_n 1 ?_
          refine ⟨fun _ => ?_, fun c => absurd (by decide) c⟩
          refine gT_n 2 ?_
          have e := ih (i + 1) (by omega) (by omega) (fun j hj => by
            rcases Nat.lt_or_ge j i with g | g
            · exact hno j g
            · obtain rfl : j = i := by omega
              intro c
              first | exact absurd c.1 (by assumption) | exact absurd c.2.1 (by assumption) | exact absurd ((hd _ hq.2.2.2.2).mpr c.2.2) (by assumption))
          rw [← nI_1 i] at e
          exact gT_k e ⟨rfl, rfl, rfl, trivial⟩ rfl
    · refine gT_n 5 ?_
      refine ⟨rfl, rfl, pk_le l.length i (fun κ1 => ?_) (fun κ1 => ?_) (hcn) (rfl) (by omega) (by omega)⟩
      · refine gT_n 2 ?_
        refine ⟨rfl, ?_⟩
        refine gT_n 4 ?_
        show gT _ 99 81 _ _ _ _ _
        refine gT_n 1 ?_
        exact ⟨_, fun _ => False, C, 0, X, Y, rfl, rfl, ⟨none, fun j hj => hno j (by omega), (pif_pos rfl).mpr ⟨rfl, rfl, rfl⟩⟩, hH, hE, fun c => absurd c (by decide), rfl, a0 _, fun _ _ => rfl⟩
      · exact absurd (show i < l.length by omega) hin
  refine gT_n 2 ?_
  exact gT_k (loop 0 (by omega) (fun j hj => absurd hj (Nat.not_lt_zero j))) ⟨rfl, rfl, rfl, trivial⟩ rfl
theorem c_learn {d z : Nat} {C : List zE} {kn : Int32 → Prop} {I X : Nat → Nat → Int32} {J : Nat → Nat → Int64} {Y : Nat → Int64} {P : Nat → Nat} {t : zT} {D : zK} {ck pk : Int32} {l : List zI} (hz : zOK t) (hS : kS t D ck pk l I J P) (hH : cH X Y C) (hE : eOK t C) (hk : kro (X 169) kn) (hgn : genF X l) (hzz : z < t.1) : gTM (d + 4) 96 [.ref 167, .int (nI z)] (gST (kM I X) (m1 J 28 Y) P) (fun r u => ∃ x kn' C' n X' Y', u = gST (kM I X') (m1 J 28 Y') P ∧ r = some (.int x) ∧ fKy t D ck pk l z kn C x kn' C' n ∧ cH X' Y' C' ∧ eOK t C' ∧ (x = 100 → kro (X' 169) kn') ∧ X' 170 = X 170 ∧ (X' 167 3 = X 167 3 + nI n ∧ ∀ f, ¬ f = 3 → X' 167 f = X 167 f)) := by
  have hS0 := hS
  obtain ⟨hT, hD, hck, hpk, hcn, hit, h10, hok⟩ := hS
  have h4 := hz.2.1
  refine gT_n 11 ?_
  refine ⟨rfl, rfl, rfl, rfl, rfl, rfl, rfl, gTM.useA (c_recall169 hH hE.1 (eOK_4 hz hE) (by omega)) (Nat.le_refl _) (aR (aI (rfl) (aI (rfl) (aI (hck) (aR rfl))))) (fun r u hq => ?_)⟩
  obtain ⟨r, hr, ⟨hal, rfl, X1, rfl, hfr, hrow⟩ | ⟨hal, rfl, rfl⟩⟩ := hq  -- X0_recall[R25, nI z, K1, ck, R169]
  · refine gT_n 1 ?_
    refine ⟨fun c => absurd c (by decide), fun _ => ?_⟩
    refine gT_n 2 ?_
    obtain ⟨e, rfl, k0, k1, k2⟩ := hrow
    exact ⟨_, _, C, 0, X1, Y, rfl, rfl, ⟨_, hr, (pif_pos hal).mpr ⟨rfl, ⟨e, rfl, rfl⟩, rfl, rfl⟩⟩, cH_fr hE.1 (fun j hj => hfr j (by omega)) hH, hE, fun _ => kro_eq k0 k1 k2, hfr 170 (by decide), by rw [hfr 167 (by decide)]; exact a0 _, fun f _ => by rw [hfr 167 (by decide)]⟩
  · refine gT_n 1 ?_
    refine ⟨fun _ => ?_, fun c => absurd (by decide) c⟩
    refine gT_n 3 ?_
    refine ⟨rfl, rfl, gTM.use (c_learnD hz hS0 hH hE hk hgn hzz) (Nat.le_refl _) (fun r u hq => ?_)⟩
    obtain ⟨x1, dg, C1, n1, X1, Y1, rfl, rfl, hfd, hH1, hE1, hd1, hfr, hca, hf⟩ := hq  -- X9_learnDigests[R167, nI z]
    refine gT_n 4 ?_
    refine px_ne (X := x1) (Y := (100)) (rfl) (rfl) (fun κ1 => ?_) (fun κ1 => ?_)
    · refine gT_n 2 ?_
      exact ⟨x1, fun _ => False, C1, n1, X1, Y1, rfl, rfl, ⟨r, hr, (pif_neg hal).mpr ⟨x1, dg, C1, n1, hfd, (pif_neg κ1).mpr ⟨rfl, rfl, rfl⟩⟩⟩, hH1, hE1, fun c => absurd c κ1, hfr.2, hca, hf⟩
    · refine gT_n 3 ?_
      refine ⟨rfl, rfl, gTM.use (c_learnK hz hS0 hH1 hE1 (hd1 κ1) (fun j hj => by rw [hfr.2]; exact hgn j hj) hzz) (Nat.le_refl _) (fun r u hq => ?_)⟩
      obtain ⟨x2, kn2, C2, n2, X2, Y2, rfl, rfl, hfk, hH2, hE2, hk2, hg2, hca2, hf2⟩ := hq  -- X9_learnKeys[R167, nI z]
      refine gT_n 2 ?_
      exact ⟨x2, kn2, C2, n1 + n2, X2, Y2, rfl, rfl, ⟨r, hr, (pif_neg hal).mpr ⟨x1, dg, C1, n1, hfd, (pif_pos κ1).mpr ⟨n2, hfk, rfl⟩⟩⟩, hH2, hE2, hk2, hg2.trans hfr.2, by rw [hca2, hca, Int32.add_assoc]; exact congrArg _ (pk_addE rfl rfl), fun f h => (hf2 f h).trans (hf f h)⟩
def recP (z so : Nat) (kn : Int32 → Prop) (o : Nat) (q : zI) : Prop := (q.2.2.1 = o ∧ q.2.2.2.2.1 = so) ∧ (q.1 = 2 ∧ q.2.1 = z) ∧ rt q kn
def woP (z so : Nat) (kn : Int32 → Prop) (o : Nat) (q : zI) : Prop := (q.2.2.1 = o ∧ q.2.2.2.2.1 &&& 2 ^ so = 0) ∧ (q.1 = 3 ∧ q.2.1 = z) ∧ rt q kn
def cvr (ap n : Nat) (q : zI) : Prop := q.2.2.1 < n ∧ (n < q.2.2.2.1 ∨ q.2.2.2.1 = ap)
def cvP (ap z : Nat) (kn : Int32 → Prop) (n : Nat) (q : zI) : Prop := cvr ap n q ∧ (q.1 = 3 ∧ q.2.1 = z) ∧ rt q kn
def ltP (ap z : Nat) (kn : Int32 → Prop) (n : Nat) (q : zI) : Prop := (cvr ap n q ∧ nabv n q.2.2.2.1) ∧ (q.1 = 3 ∧ q.2.1 = z) ∧ rt q kn
theorem c_findRec {d o : Nat} {I X : Nat → Nat → Int32} {J : Nat → Nat → Int64} {Y : Nat → Int64} {P : Nat → Nat} {t : zT} {D : zK} {ck pk : Int32} {l : List zI} (hz : zOK t) (hS : kS t D ck pk l I J P) {kn : Int32 → Prop} {so pz nm : Nat} (hk : kro (X 169) kn) (hgn : genF X l) (h3 : so < 3) (hpz : pz < t.1) (hso : I 145 4 = nI so) (hz5 : I 145 5 = nI pz) (ho : vn o) : gTM (d + 3) 105 [.ref 167, .long (lN o)] (gST (kM I X) (m1 J 28 Y) P) (fun r u => (∃ i, isF l (recP pz so kn o) (some i) ∧ r = some (.int 1) ∧ ∃ X', u = gST (kM I X') (m1 J 28 Y) P ∧ X' = gupI X 167 1 (ig l i).2.2.2.2.2.1.1) ∨ (isF l (recP pz so kn o) none ∧ r = some (.int 0) ∧ u = (gST (kM I X) (m1 J 28 Y) P))) := by
  obtain ⟨hT, hD, hck, hpk, hcn, hit, h10, hok⟩ := hS
  have h4 := hz.2.1
  have loop : ∀ i, i ≤ l.length → (∀ j, j < i → ¬ recP pz so kn o (ig l j)) → gT (d + 3) 105 2 [(3, .int (nI i)), (0, .ref 167), (1, .long (lN o))] [] (0, 0) (gST (kM I X) (m1 J 28 Y) P) (fun r u => (∃ i, isF l (recP pz so kn o) (some i) ∧ r = some (.int 1) ∧ ∃ X', u = gST (kM I X') (m1 J 28 Y) P ∧ X' = gupI X 167 1 (ig l i).2.2.2.2.2.1.1) ∨ (isF l (recP pz so kn o) none ∧ r = some (.int 0) ∧ u = (gST (kM I X) (m1 J 28 Y) P))) := by
    refine loopU l.length (fun i hi ih => ?_)
    intro hno
    by_cases hin : i < l.length
    · obtain ⟨hrr, hb, hI⟩ := hit i hin
      have hbb : 147 ≤ P i ∧ P i ≤ 166 := by omega
      have hbb1 : 147 ≤ P i + 1 ∧ P i + 1 ≤ 166 := by omega
      have hq := hok _ (ig_mem hin)
      have hq4 := hq.2.2.2.1
      refine gT_n 5 ?_
      refine ⟨rfl, rfl, pk_le l.length i (fun κ1 => ?_) (fun κ1 => ?_) (hcn) (rfl) (by omega) (by omega)⟩
      · exact absurd hin (by omega)
      · refine gT_n 5 ?_
        refine ⟨rfl, rfl, rfl, (pk_in i 10 (by omega) (rfl)), ?_⟩
        refine gT_top (aa_ref (b := P i) (rfl) (by omega) rfl) ?_
        refine gT_n 6 ?_
        refine ⟨hb.ob, pl_ne ((ig l i).2.2.1) o (fun κ2 => ?_) (fun κ2 => ?_) ((Eq.trans (mJ_r hbb) (hI.2.1.1))) (rfl) (hq.2.1.lt) (ho.lt)⟩
        · refine gT_n 2 ?_
          have e := ih (i + 1) (by omega) (by omega) (fun j hj => by
            rcases Nat.lt_or_ge j i with g | g
            · exact hno j g
            · obtain rfl : j = i := by omega
              intro c
              obtain ⟨⟨c1, c2⟩, c3, c4⟩ := c
              first | exact absurd c1 (by assumption) | exact absurd c2 (by assumption) | exact absurd (by assumption) c2 | exact absurd c3 (by assumption) | exact absurd c4 (by assumption))
          rw [← nI_1 i] at e
          exact gT_k e ⟨rfl, rfl, rfl, trivial⟩ rfl
        · refine gT_n 6 ?_
          refine ⟨hb.ob, rfl, rfl, pk_ne ((ig l i).2.2.2.2.1) so (fun κ3 => ?_) (fun κ3 => ?_) ((Eq.trans (kM_r hbb) (hI.1.2.2.1))) (hso) (by have := hq.2.2.2.1; omega) (by omega)⟩
          · refine gT_n 2 ?_
            have e := ih (i + 1) (by omega) (by omega) (fun j hj => by
              rcases Nat.lt_or_ge j i with g | g
              · exact hno j g
              · obtain rfl : j = i := by omega
                intro c
                obtain ⟨⟨c1, c2⟩, c3, c4⟩ := c
                first | exact absurd c1 (by assumption) | exact absurd c2 (by assumption) | exact absurd (by assumption) c2 | exact absurd c3 (by assumption) | exact absurd c4 (by assumption))
            rw [← nI_1 i] at e
            exact gT_k e ⟨rfl, rfl, rfl, trivial⟩ rfl
          · refine gT_n 4 ?_
            refine ⟨rfl, rfl, ?_⟩
            refine gT_n 7 ?_
            refine ⟨rfl, rfl, rfl, rfl, gTM.useA (c_isOf hz (by omega) hit h10 hok hin) (Nat.le_refl _) (aR (aI (rfl) (aI (rfl) (aI (hz5) (rfl))))) (fun r u hq => ?_)⟩
            obtain ⟨rfl, ⟨rfl, β4⟩ | ⟨rfl, β4⟩⟩ := hq  -- X9_isOf[R167, nI i, K2, nI pz]
            · refine gT_n 1 ?_
              refine ⟨fun c => absurd c (by decide), fun _ => ?_⟩
              refine gT_n 5 ?_
              refine ⟨rfl, rfl, rfl, gTM.use (c_isRight169 hz hit h10 hok hin hgn hk) (Nat.le_refl _) (fun r u hq => ?_)⟩
              obtain ⟨rfl, ⟨rfl, β5⟩ | ⟨rfl, β5⟩⟩ := hq  -- X9_isRight[R167, nI i, R169]
              · refine gT_n 1 ?_
                refine ⟨fun c => absurd c (by decide), fun _ => ?_⟩
                refine gT_n 3 ?_
                refine ⟨(Or.inr rfl), ?_⟩
                show gT _ 105 55 _ _ _ _ _
                refine gT_n 1 ?_
                refine ⟨fun c => absurd c (by decide), fun _ => ?_⟩
                refine gT_n 3 ?_
                refine ⟨hb.ob, ?_⟩
                refine gT_top (hb.v5) ?_
                refine gT_n 3 ?_
                refine ⟨hb.ar1, (pk_inS (m := 3) (k := 0) (hb.ln1) (by decide) (rfl)), rfl, ?_⟩
                refine gT_kP (b := 167) rfl (X := (ig l i).2.2.2.2.2.1.1) ((Eq.trans (kM_r hbb1) (hI.2.2.1))) ?_
                refine gT_n 2 ?_
                refine ⟨(Or.inr rfl), ?_⟩
                exact Or.inl ⟨i, ⟨hin, ⟨⟨κ2, κ3⟩, β4, β5⟩, hno⟩, rfl, _, rfl, rfl⟩
              · refine gT_n 1 ?_
                refine ⟨fun _ => ?_, fun c => absurd (by decide) c⟩
                refine gT_n 2 ?_
                refine ⟨(Or.inl rfl), ?_⟩
                show gT _ 105 55 _ _ _ _ _
                refine gT_n 1 ?_
                refine ⟨fun _ => ?_, fun c => absurd (by decide) c⟩
                refine gT_n 2 ?_
                have e := ih (i + 1) (by omega) (by omega) (fun j hj => by
                  rcases Nat.lt_or_ge j i with g | g
                  · exact hno j g
                  · obtain rfl : j = i := by omega
                    intro c
                    obtain ⟨⟨c1, c2⟩, c3, c4⟩ := c
                    first | exact absurd c1 (by assumption) | exact absurd c2 (by assumption) | exact absurd (by assumption) c2 | exact absurd c3 (by assumption) | exact absurd c4 (by assumption))
                rw [← nI_1 i] at e
                exact gT_k e ⟨rfl, rfl, rfl, trivial⟩ rfl
            · refine gT_n 1 ?_
              refine ⟨fun _ => ?_, fun c => absurd (by decide) c⟩
              refine gT_n 2 ?_
              refine ⟨(Or.inl rfl), ?_⟩
              show gT _ 105 55 _ _ _ _ _
              refine gT_n 1 ?_
              refine ⟨fun _ => ?_, fun c => absurd (by decide) c⟩
              refine gT_n 2 ?_
              have e := ih (i + 1) (by omega) (by omega) (fun j hj => by
                rcases Nat.lt_or_ge j i with g | g
                · exact hno j g
                · obtain rfl : j = i := by omega
                  intro c
                  obtain ⟨⟨c1, c2⟩, c3, c4⟩ := c
                  first | exact absurd c1 (by assumption) | exact absurd c2 (by assumption) | exact absurd (by assumption) c2 | exact absurd c3 (by assumption) | exact absurd c4 (by assumption))
              rw [← nI_1 i] at e
              exact gT_k e ⟨rfl, rfl, rfl, trivial⟩ rfl
    · refine gT_n 5 ?_
      refine ⟨rfl, rfl, pk_le l.length i (fun κ1 => ?_) (fun κ1 => ?_) (hcn) (rfl) (by omega) (by omega)⟩
      · refine gT_n 2 ?_
        refine ⟨Or.inl rfl, ?_⟩
        exact Or.inr ⟨fun j hj => hno j (by omega), rfl, rfl⟩
      · exact absurd (show i < l.length by omega) hin
  refine gT_n 2 ?_
  exact gT_k (loop 0 (by omega) (fun j hj => absurd hj (Nat.not_lt_zero j))) ⟨rfl, rfl, rfl, trivial⟩ rfl
theorem c_findWo {d o : Nat} {I X : Nat → Nat → Int32} {J : Nat → Nat → Int64} {Y : Nat → Int64} {P : Nat → Nat} {t : zT} {D : zK} {ck pk : Int32} {l : List zI} (hz : zOK t) (hS : kS t D ck pk l I J P) {kn : Int32 → Prop} {so pz nm : Nat} (hk : kro (X 169) kn) (hgn : genF X l) (h3 : so < 3) (hpz : pz < t.1) (hso : I 145 4 = nI so) (hz5 : I 145 5 = nI pz) (ho : vn o) : gTM (d + 3) 106 [.ref 167, .long (lN o)] (gST (kM I X) (m1 J 28 Y) P) (gB (gST (kM I X) (m1 J 28 Y) P) (∃ i, i < l.length ∧ woP pz so kn o (ig l i))) := by
  obtain ⟨hT, hD, hck, hpk, hcn, hit, h10, hok⟩ := hS
  have h4 := hz.2.1
  have loop : ∀ i, i ≤ l.length → (∀ j, j < i → ¬ woP pz so kn o (ig l j)) → gT (d + 3) 106 2 [(3, .int (nI i)), (0, .ref 167), (1, .long (lN o))] [] (0, 0) (gST (kM I X) (m1 J 28 Y) P) (gB (gST (kM I X) (m1 J 28 Y) P) (∃ i, i < l.length ∧ woP pz so kn o (ig l i))) := by
    refine loopU l.length (fun i hi ih => ?_)
    intro hno
    by_cases hin : i < l.length
    · obtain ⟨hrr, hb, hI⟩ := hit i hin
      have hbb : 147 ≤ P i ∧ P i ≤ 166 := by omega
      have hbb1 : 147 ≤ P i + 1 ∧ P i + 1 ≤ 166 := by omega
      have hq := hok _ (ig_mem hin)
      have hq4 := hq.2.2.2.1
      refine gT_n 5 ?_
      refine ⟨rfl, rfl, pk_le l.length i (fun κ1 => ?_) (fun κ1 => ?_) (hcn) (rfl) (by omega) (by omega)⟩
      · exact absurd hin (by omega)
      · refine gT_n 5 ?_
        refine ⟨rfl, rfl, rfl, (pk_in i 10 (by omega) (rfl)), ?_⟩
        refine gT_top (aa_ref (b := P i) (rfl) (by omega) rfl) ?_
        refine gT_n 6 ?_
        refine ⟨hb.ob, pl_ne ((ig l i).2.2.1) o (fun κ2 => ?_) (fun κ2 => ?_) ((Eq.trans (mJ_r hbb) (hI.2.1.1))) (rfl) (hq.2.1.lt) (ho.lt)⟩
        · refine gT_n 2 ?_
          have e := ih (i + 1) (by omega) (by omega) (fun j hj => by
            rcases Nat.lt_or_ge j i with g | g
            · exact hno j g
            · obtain rfl : j = i := by omega
              intro c
              obtain ⟨⟨c1, c2⟩, c3, c4⟩ := c
              first | exact absurd c1 (by assumption) | exact absurd c2 (by assumption) | exact absurd (by assumption) c2 | exact absurd c3 (by assumption) | exact absurd c4 (by assumption))
          rw [← nI_1 i] at e
          exact gT_k e ⟨rfl, rfl, rfl, trivial⟩ rfl
        · refine gT_n 5 ?_
          refine ⟨rfl, rfl, hb.ob, rfl, ?_⟩
          refine gT_n 7 ?_
          refine ⟨hb.ob, pk_eq (((ig l i).2.2.2.2.1) &&& (2 ^ so)) 0 (fun κ3 => ?_) (fun κ3 => ?_) (pk_ndE (n := ((ig l i).2.2.2.2.1)) (k := (2 ^ so)) ((Eq.trans (kM_r hbb) (hI.1.2.2.1))) (pk_shE (n := so) (hso) (h3)) (by omega) ((p2_64 (h3)).1)) (rfl) (Nat.lt_trans (Nat.lt_of_le_of_lt Nat.and_le_left (by omega)) (by decide)) (by omega)⟩
          · refine gT_n 2 ?_
            refine ⟨(Or.inl rfl), ?_⟩
            show gT _ 106 46 _ _ _ _ _
            refine gT_n 1 ?_
            refine ⟨fun c => absurd (by decide) c, fun _ => ?_⟩
            refine gT_n 4 ?_
            refine ⟨rfl, rfl, ?_⟩
            refine gT_n 7 ?_
            refine ⟨rfl, rfl, rfl, rfl, gTM.useA (c_isOf hz (by omega) hit h10 hok hin) (Nat.le_refl _) (aR (aI (rfl) (aI (rfl) (aI (hz5) (rfl))))) (fun r u hq => ?_)⟩
            obtain ⟨rfl, ⟨rfl, β4⟩ | ⟨rfl, β4⟩⟩ := hq  -- X9_isOf[R167, nI i, K3, nI pz]
            · refine gT_n 1 ?_
              refine ⟨fun c => absurd c (by decide), fun _ => ?_⟩
              refine gT_n 5 ?_
              refine ⟨rfl, rfl, rfl, gTM.use (c_isRight169 hz hit h10 hok hin hgn hk) (Nat.le_refl _) (fun r u hq => ?_)⟩
              obtain ⟨rfl, ⟨rfl, β5⟩ | ⟨rfl, β5⟩⟩ := hq  -- X9_isRight[R167, nI i, R169]
              · refine gT_n 1 ?_
                refine ⟨fun c => absurd c (by decide), fun _ => ?_⟩
                refine gT_n 3 ?_
                refine ⟨(Or.inr rfl), ?_⟩
                show gT _ 106 55 _ _ _ _ _
                refine gT_n 1 ?_
                refine ⟨fun c => absurd c (by decide), fun _ => ?_⟩
                refine gT_n 2 ?_
                refine ⟨(Or.inr rfl), ?_⟩
                exact ⟨rfl, Or.inl ⟨rfl, i, hin, ⟨κ2, κ3⟩, β4, β5⟩⟩
              · refine gT_n 1 ?_
                refine ⟨fun _ => ?_, fun c => absurd (by decide) c⟩
                refine gT_n 2 ?_
                refine ⟨(Or.inl rfl), ?_⟩
                show gT _ 106 55 _ _ _ _ _
                refine gT_n 1 ?_
                refine ⟨fun _ => ?_, fun c => absurd (by decide) c⟩
                refine gT_n 2 ?_
                have e := ih (i + 1) (by omega) (by omega) (fun j hj => by
                  rcases Nat.lt_or_ge j i with g | g
                  · exact hno j g
                  · obtain rfl : j = i := by omega
                    intro c
                    obtain ⟨⟨c1, c2⟩, c3, c4⟩ := c
                    first | exact absurd c1 (by assumption) | exact absurd c2 (by assumption) | exact absurd (by assumption) c2 | exact absurd c3 (by assumption) | exact absurd c4 (by assumption))
                rw [← nI_1 i] at e
                exact gT_k e ⟨rfl, rfl, rfl, trivial⟩ rfl
            · refine gT_n 1 ?_
              refine ⟨fun _ => ?_, fun c => absurd (by decide) c⟩
              refine gT_n 2 ?_
              refine ⟨(Or.inl rfl), ?_⟩
              show gT _ 106 55 _ _ _ _ _
              refine gT_n 1 ?_
              refine ⟨fun _ => ?_, fun c => absurd (by decide) c⟩
              refine gT_n 2 ?_
              have e := ih (i + 1) (by omega) (by omega) (fun j hj => by
                rcases Nat.lt_or_ge j i with g | g
                · exact hno j g
                · obtain rfl : j = i := by omega
                  intro c
                  obtain ⟨⟨c1, c2⟩, c3, c4⟩ := c
                  first | exact absurd c1 (by assumption) | exact absurd c2 (by assumption) | exact absurd (by assumption) c2 | exact absurd c3 (by assumption) | exact absurd c4 (by assumption))
              rw [← nI_1 i] at e
              exact gT_k e ⟨rfl, rfl, rfl, trivial⟩ rfl
          · refine gT_n 3 ?_
            refine ⟨(Or.inr rfl), ?_⟩
            show gT _ 106 46 _ _ _ _ _
            refine gT_n 1 ?_
            refine ⟨fun _ => ?_, fun c => absurd c (by decide)⟩
            refine gT_n 2 ?_
            have e := ih (i + 1) (by omega) (by omega) (fun j hj => by
              rcases Nat.lt_or_ge j i with g | g
              · exact hno j g
              · obtain rfl : j = i := by omega
                intro c
                obtain ⟨⟨c1, c2⟩, c3, c4⟩ := c
                first | exact absurd c1 (by assumption) | exact absurd c2 (by assumption) | exact absurd (by assumption) c2 | exact absurd c3 (by assumption) | exact absurd c4 (by assumption))
            rw [← nI_1 i] at e
            exact gT_k e ⟨rfl, rfl, rfl, trivial⟩ rfl
    · refine gT_n 5 ?_
      refine ⟨rfl, rfl, pk_le l.length i (fun κ1 => ?_) (fun κ1 => ?_) (hcn) (rfl) (by omega) (by omega)⟩
      · refine gT_n 2 ?_
        refine ⟨Or.inl rfl, ?_⟩
        exact ⟨rfl, Or.inr ⟨rfl, fun c => by obtain ⟨j, hj, h⟩ := c; exact hno j (by omega) h⟩⟩
      · exact absurd (show i < l.length by omega) hin
  refine gT_n 2 ?_
  exact gT_k (loop 0 (by omega) (fun j hj => absurd hj (Nat.not_lt_zero j))) ⟨rfl, rfl, rfl, trivial⟩ rfl
theorem c_findTo {d o : Nat} {I X : Nat → Nat → Int32} {J : Nat → Nat → Int64} {Y : Nat → Int64} {P : Nat → Nat} {t : zT} {D : zK} {ck pk : Int32} {l : List zI} (hz : zOK t) (hS : kS t D ck pk l I J P) {kn : Int32 → Prop} {so pz nm : Nat} (hk : kro (X 169) kn) (hgn : genF X l) (h3 : so < 3) (hpz : pz < t.1) (hso : I 145 4 = nI so) (hz5 : I 145 5 = nI pz) (ho : vn o) : gTM (d + 3) 107 [.ref 167, .long (lN o)] (gST (kM I X) (m1 J 28 Y) P) (gB (gST (kM I X) (m1 J 28 Y) P) (∃ i, i < l.length ∧ ltP (t.2.1 pz) pz kn o (ig l i))) := by
  obtain ⟨hT, hD, hck, hpk, hcn, hit, h10, hok⟩ := hS
  have h4 := hz.2.1
  have loop : ∀ i, i ≤ l.length → (∀ j, j < i → ¬ ltP (t.2.1 pz) pz kn o (ig l j)) → gT (d + 3) 107 2 [(3, .int (nI i)), (0, .ref 167), (1, .long (lN o))] [] (0, 0) (gST (kM I X) (m1 J 28 Y) P) (gB (gST (kM I X) (m1 J 28 Y) P) (∃ i, i < l.length ∧ ltP (t.2.1 pz) pz kn o (ig l i))) := by
    refine loopU l.length (fun i hi ih => ?_)
    intro hno
    by_cases hin : i < l.length
    · obtain ⟨hrr, hb, hI⟩ := hit i hin
      have hbb : 147 ≤ P i ∧ P i ≤ 166 := by omega
      have hbb1 : 147 ≤ P i + 1 ∧ P i + 1 ≤ 166 := by omega
      have hq := hok _ (ig_mem hin)
      have hq4 := hq.2.2.2.1
      refine gT_n 5 ?_
      refine ⟨rfl, rfl, pk_le l.length i (fun κ1 => ?_) (fun κ1 => ?_) (hcn) (rfl) (by omega) (by omega)⟩
      · exact absurd hin (by omega)
      · refine gT_n 5 ?_
        refine ⟨rfl, rfl, rfl, (pk_in i 10 (by omega) (rfl)), ?_⟩
        refine gT_top (aa_ref (b := P i) (rfl) (by omega) rfl) ?_
        refine gT_n 11 ?_
        refine ⟨rfl, rfl, rfl, rfl, rfl, (pk_in pz 4 (by omega) (hz5)), hb.ob, rfl, ?_⟩
        refine gT_n 5 ?_
        refine ⟨hb.ob, pl_ge ((ig l i).2.2.1) o (fun κ2 => ?_) (fun κ2 => ?_) ((Eq.trans (mJ_r hbb) (hI.2.1.1))) (rfl) (hq.2.1.lt) (ho.lt)⟩
        · refine gT_n 2 ?_
          refine ⟨(Or.inl rfl), ?_⟩
          show gT _ 107 45 _ _ _ _ _
          refine gT_n 3 ?_
          refine ⟨fun _ => ?_, fun c => absurd (by decide) c⟩
          refine gT_n 2 ?_
          have e := ih (i + 1) (by omega) (by omega) (fun j hj => by
            rcases Nat.lt_or_ge j i with g | g
            · exact hno j g
            · obtain rfl : j = i := by omega
              intro c
              obtain ⟨⟨⟨c1, c2⟩, c5⟩, c3, c4⟩ := c
              first | exact absurd c1 (by first | assumption | omega) | exact absurd c3 (by assumption) | exact absurd c4 (by assumption) | exact absurd c5 (by assumption) | (rcases c2 with c2 | c2 <;> first | exact absurd c2 (by assumption) | omega))
          rw [← nI_1 i] at e
          exact gT_k e ⟨rfl, rfl, rfl, trivial⟩ rfl
        · refine gT_n 5 ?_
          refine ⟨hb.ob, pl_lt o ((ig l i).2.2.2.1) (fun κ3 => ?_) (fun κ3 => ?_) (rfl) ((Eq.trans (mJ_r hbb) (hI.2.1.2))) (ho.lt) (hq.2.2.1.lt)⟩
          · refine gT_n 3 ?_
            refine ⟨(Or.inr rfl), ?_⟩
            show gT _ 107 45 _ _ _ _ _
            refine gT_n 3 ?_
            refine ⟨fun c => absurd c (by decide), fun _ => ?_⟩
            refine gT_n 4 ?_
            refine ⟨hb.ob, rfl, gTM.useA (c_isAboveB ho.lt hq.2.2.1.lt) (Nat.le_refl _) (aL (rfl) (aL ((Eq.trans (mJ_r hbb) (hI.2.1.2))) (rfl))) (fun r u hq => ?_)⟩
            obtain ⟨rfl, ⟨rfl, β4⟩ | ⟨rfl, β4⟩⟩ := hq  -- X3_isAbove[lN o, lN ((ig l i).2.2.2.1)]
            · refine gT_n 1 ?_
              refine ⟨fun c => absurd c (by decide), fun _ => ?_⟩
              refine gT_n 4 ?_
              refine ⟨rfl, rfl, ?_⟩
              refine gT_n 7 ?_
              refine ⟨rfl, rfl, rfl, rfl, gTM.useA (c_isOf hz (by omega) hit h10 hok hin) (Nat.le_refl _) (aR (aI (rfl) (aI (rfl) (aI (hz5) (rfl))))) (fun r u hq => ?_)⟩
              obtain ⟨rfl, ⟨rfl, β5⟩ | ⟨rfl, β5⟩⟩ := hq  -- X9_isOf[R167, nI i, K3, nI pz]
              · refine gT_n 1 ?_
                refine ⟨fun c => absurd c (by decide), fun _ => ?_⟩
                refine gT_n 5 ?_
                refine ⟨rfl, rfl, rfl, gTM.use (c_isRight169 hz hit h10 hok hin hgn hk) (Nat.le_refl _) (fun r u hq => ?_)⟩
                obtain ⟨rfl, ⟨rfl, β6⟩ | ⟨rfl, β6⟩⟩ := hq  -- X9_isRight[R167, nI i, R169]
                · refine gT_n 1 ?_
                  refine ⟨fun c => absurd c (by decide), fun _ => ?_⟩
                  refine gT_n 3 ?_
                  refine ⟨(Or.inr rfl), ?_⟩
                  show gT _ 107 70 _ _ _ _ _
                  refine gT_n 1 ?_
                  refine ⟨fun c => absurd c (by decide), fun _ => ?_⟩
                  refine gT_n 2 ?_
                  refine ⟨(Or.inr rfl), ?_⟩
                  exact ⟨rfl, Or.inl ⟨rfl, i, hin, ⟨⟨κ2, Or.inl κ3⟩, β4⟩, β5, β6⟩⟩
                · refine gT_n 1 ?_
                  refine ⟨fun _ => ?_, fun c => absurd (by decide) c⟩
                  refine gT_n 2 ?_
                  refine ⟨(Or.inl rfl), ?_⟩
                  show gT _ 107 70 _ _ _ _ _
                  refine gT_n 1 ?_
                  refine ⟨fun _ => ?_, fun c => absurd (by decide) c⟩
                  refine gT_n 2 ?_
                  have e := ih (i + 1) (by omega) (by omega) (fun j hj => by
                    rcases Nat.lt_or_ge j i with g | g
                    · exact hno j g
                    · obtain rfl : j = i := by omega
                      intro c
                      obtain ⟨⟨⟨c1, c2⟩, c5⟩, c3, c4⟩ := c
                      first | exact absurd c1 (by first | assumption | omega) | exact absurd c3 (by assumption) | exact absurd c4 (by assumption) | exact absurd c5 (by assumption) | (rcases c2 with c2 | c2 <;> first | exact absurd c2 (by assumption) | omega))
                  rw [← nI_1 i] at e
                  exact gT_k e ⟨rfl, rfl, rfl, trivial⟩ rfl
              · refine gT_n 1 ?_
                refine ⟨fun _ => ?_, fun c => absurd (by decide) c⟩
                refine gT_n 2 ?_
                refine ⟨(Or.inl rfl), ?_⟩
                show gT _ 107 70 _ _ _ _ _
                refine gT_n 1 ?_
                refine ⟨fun _ => ?_, fun c => absurd (by decide) c⟩
                refine gT_n 2 ?_
                have e := ih (i + 1) (by omega) (by omega) (fun j hj => by
                  rcases Nat.lt_or_ge j i with g | g
                  · exact hno j g
                  · obtain rfl : j = i := by omega
                    intro c
                    obtain ⟨⟨⟨c1, c2⟩, c5⟩, c3, c4⟩ := c
                    first | exact absurd c1 (by first | assumption | omega) | exact absurd c3 (by assumption) | exact absurd c4 (by assumption) | exact absurd c5 (by assumption) | (rcases c2 with c2 | c2 <;> first | exact absurd c2 (by assumption) | omega))
                rw [← nI_1 i] at e
                exact gT_k e ⟨rfl, rfl, rfl, trivial⟩ rfl
            · refine gT_n 1 ?_
              refine ⟨fun _ => ?_, fun c => absurd (by decide) c⟩
              refine gT_n 2 ?_
              have e := ih (i + 1) (by omega) (by omega) (fun j hj => by
                rcases Nat.lt_or_ge j i with g | g
                · exact hno j g
                · obtain rfl : j = i := by omega
                  intro c
                  obtain ⟨⟨⟨c1, c2⟩, c5⟩, c3, c4⟩ := c
                  first | exact absurd c1 (by first | assumption | omega) | exact absurd c3 (by assumption) | exact absurd c4 (by assumption) | exact absurd c5 (by assumption) | (rcases c2 with c2 | c2 <;> first | exact absurd c2 (by assumption) | omega))
              rw [← nI_1 i] at e
              exact gT_k e ⟨rfl, rfl, rfl, trivial⟩ rfl
          · refine gT_n 5 ?_
            refine ⟨hb.ob, pl_ne ((ig l i).2.2.2.1) ((t.2.1 pz)) (fun κ7 => ?_) (fun κ7 => ?_) ((Eq.trans (mJ_r hbb) (hI.2.1.2))) ((rdJ (hz5) (by omega) (hT.1.2.1 pz hpz))) (hq.2.2.1.lt) ((hz.2.2.2.2.1 pz hpz).lt)⟩
            · refine gT_n 2 ?_
              refine ⟨(Or.inl rfl), ?_⟩
              show gT _ 107 45 _ _ _ _ _
              refine gT_n 3 ?_
              refine ⟨fun _ => ?_, fun c => absurd (by decide) c⟩
              refine gT_n 2 ?_
              have e := ih (i + 1) (by omega) (by omega) (fun j hj => by
                rcases Nat.lt_or_ge j i with g | g
                · exact hno j g
                · obtain rfl : j = i := by omega
                  intro c
                  obtain ⟨⟨⟨c1, c2⟩, c5⟩, c3, c4⟩ := c
                  first | exact absurd c1 (by first | assumption | omega) | exact absurd c3 (by assumption) | exact absurd c4 (by assumption) | exact absurd c5 (by assumption) | (rcases c2 with c2 | c2 <;> first | exact absurd c2 (by assumption) | omega))
              rw [← nI_1 i] at e
              exact gT_k e ⟨rfl, rfl, rfl, trivial⟩ rfl
            · refine gT_n 3 ?_
              refine ⟨(Or.inr rfl), ?_⟩
              show gT _ 107 45 _ _ _ _ _
              refine gT_n 3 ?_
              refine ⟨fun c => absurd c (by decide), fun _ => ?_⟩
              refine gT_n 4 ?_
              refine ⟨hb.ob, rfl, gTM.useA (c_isAboveB ho.lt hq.2.2.1.lt) (Nat.le_refl _) (aL (rfl) (aL ((Eq.trans (mJ_r hbb) (hI.2.1.2))) (rfl))) (fun r u hq => ?_)⟩
              obtain ⟨rfl, ⟨rfl, β8⟩ | ⟨rfl, β8⟩⟩ := hq  -- X3_isAbove[lN o, lN ((ig l i).2.2.2.1)]
              · refine gT_n 1 ?_
                refine ⟨fun c => absurd c (by decide), fun _ => ?_⟩
                refine gT_n 4 ?_
                refine ⟨rfl, rfl, ?_⟩
                refine gT_n 7 ?_
                refine ⟨rfl, rfl, rfl, rfl, gTM.useA (c_isOf hz (by omega) hit h10 hok hin) (Nat.le_refl _) (aR (aI (rfl) (aI (rfl) (aI (hz5) (rfl))))) (fun r u hq => ?_)⟩
                obtain ⟨rfl, ⟨rfl, β9⟩ | ⟨rfl, β9⟩⟩ := hq  -- X9_isOf[R167, nI i, K3, nI pz]
                · refine gT_n 1 ?_
                  refine ⟨fun c => absurd c (by decide), fun _ => ?_⟩
                  refine gT_n 5 ?_
                  refine ⟨rfl, rfl, rfl, gTM.use (c_isRight169 hz hit h10 hok hin hgn hk) (Nat.le_refl _) (fun r u hq => ?_)⟩
                  obtain ⟨rfl, ⟨rfl, β10⟩ | ⟨rfl, β10⟩⟩ := hq  -- X9_isRight[R167, nI i, R169]
                  · refine gT_n 1 ?_
                    refine ⟨fun c => absurd c (by decide), fun _ => ?_⟩
                    refine gT_n 3 ?_
                    refine ⟨(Or.inr rfl), ?_⟩
                    show gT _ 107 70 _ _ _ _ _
                    refine gT_n 1 ?_
                    refine ⟨fun c => absurd c (by decide), fun _ => ?_⟩
                    refine gT_n 2 ?_
                    refine ⟨(Or.inr rfl), ?_⟩
                    exact ⟨rfl, Or.inl ⟨rfl, i, hin, ⟨⟨κ2, Or.inr κ7⟩, β8⟩, β9, β10⟩⟩
                  · refine gT_n 1 ?_
                    refine ⟨fun _ => ?_, fun c => absurd (by decide) c⟩
                    refine gT_n 2 ?_
                    refine ⟨(Or.inl rfl), ?_⟩
                    show gT _ 107 70 _ _ _ _ _
                    refine gT_n 1 ?_
                    refine ⟨fun _ => ?_, fun c => absurd (by decide) c⟩
                    refine gT_n 2 ?_
                    have e := ih (i + 1) (by omega) (by omega) (fun j hj => by
                      rcases Nat.lt_or_ge j i with g | g
                      · exact hno j g
                      · obtain rfl : j = i := by omega
                        intro c
                        obtain ⟨⟨⟨c1, c2⟩, c5⟩, c3, c4⟩ := c
                        first | exact absurd c1 (by first | assumption | omega) | exact absurd c3 (by assumption) | exact absurd c4 (by assumption) | exact absurd c5 (by assumption) | (rcases c2 with c2 | c2 <;> first | exact absurd c2 (by assumption) | omega))
                    rw [← nI_1 i] at e
                    exact gT_k e ⟨rfl, rfl, rfl, trivial⟩ rfl
                · refine gT_n 1 ?_
                  refine ⟨fun _ => ?_, fun c => absurd (by decide) c⟩
                  refine gT_n 2 ?_
                  refine ⟨(Or.inl rfl), ?_⟩
                  show gT _ 107 70 _ _ _ _ _
                  refine gT_n 1 ?_
                  refine ⟨fun _ => ?_, fun c => absurd (by decide) c⟩
                  refine gT_n 2 ?_
                  have e := ih (i + 1) (by omega) (by omega) (fun j hj => by
                    rcases Nat.lt_or_ge j i with g | g
                    · exact hno j g
                    · obtain rfl : j = i := by omega
                      intro c
                      obtain ⟨⟨⟨c1, c2⟩, c5⟩, c3, c4⟩ := c
                      first | exact absurd c1 (by first | assumption | omega) | exact absurd c3 (by assumption) | exact absurd c4 (by assumption) | exact absurd c5 (by assumption) | (rcases c2 with c2 | c2 <;> first | exact absurd c2 (by assumption) | omega))
                  rw [← nI_1 i] at e
                  exact gT_k e ⟨rfl, rfl, rfl, trivial⟩ rfl
              · refine gT_n 1 ?_
                refine ⟨fun _ => ?_, fun c => absurd (by decide) c⟩
                refine gT_n 2 ?_
                have e := ih (i + 1) (by omega) (by omega) (fun j hj => by
                  rcases Nat.lt_or_ge j i with g | g
                  · exact hno j g
                  · obtain rfl : j = i := by omega
                    intro c
                    obtain ⟨⟨⟨c1, c2⟩, c5⟩, c3, c4⟩ := c
                    first | exact absurd c1 (by first | assumption | omega) | exact absurd c3 (by assumption) | exact absurd c4 (by assumption) | exact absurd c5 (by assumption) | (rcases c2 with c2 | c2 <;> first | exact absurd c2 (by assumption) | omega))
                rw [← nI_1 i] at e
                exact gT_k e ⟨rfl, rfl, rfl, trivial⟩ rfl
    · refine gT_n 5 ?_
      refine ⟨rfl, rfl, pk_le l.length i (fun κ1 => ?_) (fun κ1 => ?_) (hcn) (rfl) (by omega) (by omega)⟩
      · refine gT_n 2 ?_
        refine ⟨Or.inl rfl, ?_⟩
        exact ⟨rfl, Or.inr ⟨rfl, fun c => by obtain ⟨j, hj, h⟩ := c; exact hno j (by omega) h⟩⟩
      · exact absurd (show i < l.length by omega) hin
  refine gT_n 2 ?_
  exact gT_k (loop 0 (by omega) (fun j hj => absurd hj (Nat.not_lt_zero j))) ⟨rfl, rfl, rfl, trivial⟩ rfl
theorem c_findCov {d o : Nat} {I X : Nat → Nat → Int32} {J : Nat → Nat → Int64} {Y : Nat → Int64} {P : Nat → Nat} {t : zT} {D : zK} {ck pk : Int32} {l : List zI} (hz : zOK t) (hS : kS t D ck pk l I J P) {kn : Int32 → Prop} {so pz nm : Nat} (hk : kro (X 169) kn) (hgn : genF X l) (h3 : so < 3) (hpz : pz < t.1) (hso : I 145 4 = nI so) (hz5 : I 145 5 = nI pz) (ho : vn o) : gTM (d + 3) 108 [.ref 167, .long (lN o)] (gST (kM I X) (m1 J 28 Y) P) (fun r u => u = (gST (kM I X) (m1 J 28 Y) P) ∧ ((∃ i, isF l (cvP (t.2.1 pz) pz kn o) (some i) ∧ r = some (.int (nI i))) ∨ (isF l (cvP (t.2.1 pz) pz kn o) none ∧ r = some (.int (-4))))) := by
  obtain ⟨hT, hD, hck, hpk, hcn, hit, h10, hok⟩ := hS
  have h4 := hz.2.1
  have loop : ∀ i, i ≤ l.length → (∀ j, j < i → ¬ cvP (t.2.1 pz) pz kn o (ig l j)) → gT (d + 3) 108 2 [(3, .int (nI i)), (0, .ref 167), (1, .long (lN o))] [] (0, 0) (gST (kM I X) (m1 J 28 Y) P) (fun r u => u = (gST (kM I X) (m1 J 28 Y) P) ∧ ((∃ i, isF l (cvP (t.2.1 pz) pz kn o) (some i) ∧ r = some (.int (nI i))) ∨ (isF l (cvP (t.2.1 pz) pz kn o) none ∧ r = some (.int (-4))))) := by
    refine loopU l.length (fun i hi ih => ?_)
    intro hno
    by_cases hin : i < l.length
    · obtain ⟨hrr, hb, hI⟩ := hit i hin
      have hbb : 147 ≤ P i ∧ P i ≤ 166 := by omega
      have hbb1 : 147 ≤ P i + 1 ∧ P i + 1 ≤ 166 := by omega
      have hq := hok _ (ig_mem hin)
      have hq4 := hq.2.2.2.1
      refine gT_n 5 ?_
      refine ⟨rfl, rfl, pk_le l.length i (fun κ1 => ?_) (fun κ1 => ?_) (hcn) (rfl) (by omega) (by omega)⟩
      · exact absurd hin (by omega)
      · refine gT_n 5 ?_
        refine ⟨rfl, rfl, rfl, (pk_in i 10 (by omega) (rfl)), ?_⟩
        refine gT_top (aa_ref (b := P i) (rfl) (by omega) rfl) ?_
        refine gT_n 9 ?_
        refine ⟨rfl, rfl, rfl, rfl, rfl, (pk_in pz 4 (by omega) (hz5)), hb.ob, rfl, ?_⟩
        refine gT_n 5 ?_
        refine ⟨hb.ob, pl_ge ((ig l i).2.2.1) o (fun κ2 => ?_) (fun κ2 => ?_) ((Eq.trans (mJ_r hbb) (hI.2.1.1))) (rfl) (hq.2.1.lt) (ho.lt)⟩
        · refine gT_n 2 ?_
          refine ⟨(Or.inl rfl), ?_⟩
          show gT _ 108 41 _ _ _ _ _
          refine gT_n 1 ?_
          refine ⟨fun _ => ?_, fun c => absurd (by decide) c⟩
          refine gT_n 2 ?_
          have e := ih (i + 1) (by omega) (by omega) (fun j hj => by
            rcases Nat.lt_or_ge j i with g | g
            · exact hno j g
            · obtain rfl : j = i := by omega
              intro c
              obtain ⟨⟨c1, c2⟩, c3, c4⟩ := c
              first | exact absurd c1 (by first | assumption | omega) | exact absurd c3 (by assumption) | exact absurd c4 (by assumption) | (rcases c2 with c2 | c2 <;> first | exact absurd c2 (by assumption) | omega))
          rw [← nI_1 i] at e
          exact gT_k e ⟨rfl, rfl, rfl, trivial⟩ rfl
        · refine gT_n 5 ?_
          refine ⟨hb.ob, pl_lt o ((ig l i).2.2.2.1) (fun κ3 => ?_) (fun κ3 => ?_) (rfl) ((Eq.trans (mJ_r hbb) (hI.2.1.2))) (ho.lt) (hq.2.2.1.lt)⟩
          · refine gT_n 3 ?_
            refine ⟨(Or.inr rfl), ?_⟩
            show gT _ 108 41 _ _ _ _ _
            refine gT_n 1 ?_
            refine ⟨fun c => absurd c (by decide), fun _ => ?_⟩
            refine gT_n 4 ?_
            refine ⟨rfl, rfl, ?_⟩
            refine gT_n 7 ?_
            refine ⟨rfl, rfl, rfl, rfl, gTM.useA (c_isOf hz (by omega) hit h10 hok hin) (Nat.le_refl _) (aR (aI (rfl) (aI (rfl) (aI (hz5) (rfl))))) (fun r u hq => ?_)⟩
            obtain ⟨rfl, ⟨rfl, β4⟩ | ⟨rfl, β4⟩⟩ := hq  -- X9_isOf[R167, nI i, K3, nI pz]
            · refine gT_n 1 ?_
              refine ⟨fun c => absurd c (by decide), fun _ => ?_⟩
              refine gT_n 5 ?_
              refine ⟨rfl, rfl, rfl, gTM.use (c_isRight169 hz hit h10 hok hin hgn hk) (Nat.le_refl _) (fun r u hq => ?_)⟩
              obtain ⟨rfl, ⟨rfl, β5⟩ | ⟨rfl, β5⟩⟩ := hq  -- X9_isRight[R167, nI i, R169]
              · refine gT_n 1 ?_
                refine ⟨fun c => absurd c (by decide), fun _ => ?_⟩
                refine gT_n 3 ?_
                refine ⟨(Or.inr rfl), ?_⟩
                show gT _ 108 50 _ _ _ _ _
                refine gT_n 1 ?_
                refine ⟨fun c => absurd c (by decide), fun _ => ?_⟩
                refine gT_n 2 ?_
                exact ⟨rfl, Or.inl ⟨i, ⟨hin, ⟨⟨κ2, Or.inl κ3⟩, β4, β5⟩, hno⟩, rfl⟩⟩
              · refine gT_n 1 ?_
                refine ⟨fun _ => ?_, fun c => absurd (by decide) c⟩
                refine gT_n 2 ?_
                refine ⟨(Or.inl rfl), ?_⟩
                show gT _ 108 50 _ _ _ _ _
                refine gT_n 1 ?_
                refine ⟨fun _ => ?_, fun c => absurd (by decide) c⟩
                refine gT_n 2 ?_
                have e := ih (i + 1) (by omega) (by omega) (fun j hj => by
                  rcases Nat.lt_or_ge j i with g | g
                  · exact hno j g
                  · obtain rfl : j = i := by omega
                    intro c
                    obtain ⟨⟨c1, c2⟩, c3, c4⟩ := c
                    first | exact absurd c1 (by first | assumption | omega) | exact absurd c3 (by assumption) | exact absurd c4 (by assumption) | (rcases c2 with c2 | c2 <;> first | exact absurd c2 (by assumption) | omega))
                rw [← nI_1 i] at e
                exact gT_k e ⟨rfl, rfl, rfl, trivial⟩ rfl
            · refine gT_n 1 ?_
              refine ⟨fun _ => ?_, fun c => absurd (by decide) c⟩
              refine gT_n 2 ?_
              refine ⟨(Or.inl rfl), ?_⟩
              show gT _ 108 50 _ _ _ _ _
              refine gT_n 1 ?_
              refine ⟨fun _ => ?_, fun c => absurd (by decide) c⟩
              refine gT_n 2 ?_
              have e := ih (i + 1) (by omega) (by omega) (fun j hj => by
                rcases Nat.lt_or_ge j i with g | g
                · exact hno j g
                · obtain rfl : j = i := by omega
                  intro c
                  obtain ⟨⟨c1, c2⟩, c3, c4⟩ := c
                  first | exact absurd c1 (by first | assumption | omega) | exact absurd c3 (by assumption) | exact absurd c4 (by assumption) | (rcases c2 with c2 | c2 <;> first | exact absurd c2 (by assumption) | omega))
              rw [← nI_1 i] at e
              exact gT_k e ⟨rfl, rfl, rfl, trivial⟩ rfl
          · refine gT_n 5 ?_
            refine ⟨hb.ob, pl_ne ((ig l i).2.2.2.1) ((t.2.1 pz)) (fun κ6 => ?_) (fun κ6 => ?_) ((Eq.trans (mJ_r hbb) (hI.2.1.2))) ((rdJ (hz5) (by omega) (hT.1.2.1 pz hpz))) (hq.2.2.1.lt) ((hz.2.2.2.2.1 pz hpz).lt)⟩
            · refine gT_n 2 ?_
              refine ⟨(Or.inl rfl), ?_⟩
              show gT _ 108 41 _ _ _ _ _
              refine gT_n 1 ?_
              refine ⟨fun _ => ?_, fun c => absurd (by decide) c⟩
              refine gT_n 2 ?_
              have e := ih (i + 1) (by omega) (by omega) (fun j hj => by
                rcases Nat.lt_or_ge j i with g | g
                · exact hno j g
                · obtain rfl : j = i := by omega
                  intro c
                  obtain ⟨⟨c1, c2⟩, c3, c4⟩ := c
                  first | exact absurd c1 (by first | assumption | omega) | exact absurd c3 (by assumption) | exact absurd c4 (by assumption) | (rcases c2 with c2 | c2 <;> first | exact absurd c2 (by assumption) | omega))
              rw [← nI_1 i] at e
              exact gT_k e ⟨rfl, rfl, rfl, trivial⟩ rfl
            · refine gT_n 3 ?_
              refine ⟨(Or.inr rfl), ?_⟩
              show gT _ 108 41 _ _ _ _ _
              refine gT_n 1 ?_
              refine ⟨fun c => absurd c (by decide), fun _ => ?_⟩
              refine gT_n 4 ?_
              refine ⟨rfl, rfl, ?_⟩
              refine gT_n 7 ?_
              refine ⟨rfl, rfl, rfl, rfl, gTM.useA (c_isOf hz (by omega) hit h10 hok hin) (Nat.le_refl _) (aR (aI (rfl) (aI (rfl) (aI (hz5) (rfl))))) (fun r u hq => ?_)⟩
              obtain ⟨rfl, ⟨rfl, β7⟩ | ⟨rfl, β7⟩⟩ := hq  -- X9_isOf[R167, nI i, K3, nI pz]
              · refine gT_n 1 ?_
                refine ⟨fun c => absurd c (by decide), fun _ => ?_⟩
                refine gT_n 5 ?_
                refine ⟨rfl, rfl, rfl, gTM.use (c_isRight169 hz hit h10 hok hin hgn hk) (Nat.le_refl _) (fun r u hq => ?_)⟩
                obtain ⟨rfl, ⟨rfl, β8⟩ | ⟨rfl, β8⟩⟩ := hq  -- X9_isRight[R167, nI i, R169]
                · refine gT_n 1 ?_
                  refine ⟨fun c => absurd c (by decide), fun _ => ?_⟩
                  refine gT_n 3 ?_
                  refine ⟨(Or.inr rfl), ?_⟩
                  show gT _ 108 50 _ _ _ _ _
                  refine gT_n 1 ?_
                  refine ⟨fun c => absurd c (by decide), fun _ => ?_⟩
                  refine gT_n 2 ?_
                  exact ⟨rfl, Or.inl ⟨i, ⟨hin, ⟨⟨κ2, Or.inr κ6⟩, β7, β8⟩, hno⟩, rfl⟩⟩
                · refine gT_n 1 ?_
                  refine ⟨fun _ => ?_, fun c => absurd (by decide) c⟩
                  refine gT_n 2 ?_
                  refine ⟨(Or.inl rfl), ?_⟩
                  show gT _ 108 50 _ _ _ _ _
                  refine gT_n 1 ?_
                  refine ⟨fun _ => ?_, fun c => absurd (by decide) c⟩
                  refine gT_n 2 ?_
                  have e := ih (i + 1) (by omega) (by omega) (fun j hj => by
                    rcases Nat.lt_or_ge j i with g | g
                    · exact hno j g
                    · obtain rfl : j = i := by omega
                      intro c
                      obtain ⟨⟨c1, c2⟩, c3, c4⟩ := c
                      first | exact absurd c1 (by first | assumption | omega) | exact absurd c3 (by assumption) | exact absurd c4 (by assumption) | (rcases c2 with c2 | c2 <;> first | exact absurd c2 (by assumption) | omega))
                  rw [← nI_1 i] at e
                  exact gT_k e ⟨rfl, rfl, rfl, trivial⟩ rfl
              · refine gT_n 1 ?_
                refine ⟨fun _ => ?_, fun c => absurd (by decide) c⟩
                refine gT_n 2 ?_
                refine ⟨(Or.inl rfl), ?_⟩
                show gT _ 108 50 _ _ _ _ _
                refine gT_n 1 ?_
                refine ⟨fun _ => ?_, fun c => absurd (by decide) c⟩
                refine gT_n 2 ?_
                have e := ih (i + 1) (by omega) (by omega) (fun j hj => by
                  rcases Nat.lt_or_ge j i with g | g
                  · exact hno j g
                  · obtain rfl : j = i := by omega
                    intro c
                    obtain ⟨⟨c1, c2⟩, c3, c4⟩ := c
                    first | exact absurd c1 (by first | assumption | omega) | exact absurd c3 (by assumption) | exact absurd c4 (by assumption) | (rcases c2 with c2 | c2 <;> first | exact absurd c2 (by assumption) | omega))
                rw [← nI_1 i] at e
                exact gT_k e ⟨rfl, rfl, rfl, trivial⟩ rfl
    · refine gT_n 5 ?_
      refine ⟨rfl, rfl, pk_le l.length i (fun κ1 => ?_) (fun κ1 => ?_) (hcn) (rfl) (by omega) (by omega)⟩
      · refine gT_n 2 ?_
        exact ⟨rfl, Or.inr ⟨fun j hj => hno j (by omega), rfl⟩⟩
      · exact absurd (show i < l.length by omega) hin
  refine gT_n 2 ?_
  exact gT_k (loop 0 (by omega) (fun j hj => absurd hj (Nat.not_lt_zero j))) ⟨rfl, rfl, rfl, trivial⟩ rfl
