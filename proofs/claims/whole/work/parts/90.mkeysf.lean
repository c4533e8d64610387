/-! keys found: the reference -/
theorem fDg_v {t : zT} {D : zK} {ck pk : Int32} {l : List zI} {z : Nat} {kn : Int32 → Prop} {C : List zE} {x : Int32} {dg : Int32 → Prop} {C' : List zE} {n : Nat} (h : fDg t D ck pk l z kn C x dg C' n) : x = 100 ∨ x = 5 ∨ x = -21 := by
  by_cases hz : z = 0
  · exact Or.inl ((pif_pos hz).mp h).1
  obtain ⟨r, hr, h⟩ := (pif_neg hz).mp h
  by_cases ha : aliv C ck r
  · exact Or.inl ((pif_pos ha).mp h).1
  obtain ⟨r2, hr2, h⟩ := (pif_neg ha).mp h
  by_cases hn : r2 = none
  · obtain ⟨-, -, h⟩ := (pif_pos hn).mp h
    by_cases hp : t.2.2.1 z = false ∧ ∃ i, i < l.length ∧ pln t z kn (ig l i)
    · exact Or.inr (Or.inl ((pif_pos hp).mp h))
    · exact Or.inr (Or.inr ((pif_neg hp).mp h))
  · obtain ⟨i, -, h, -⟩ := (pif_neg hn).mp h
    exact Or.inl h
theorem m_findsDD {d z : Nat} {pa : Int32} {I X : Nat → Nat → Int32} {J : Nat → Nat → Int64} {Y : Nat → Int64} {P : Nat → Nat} {t : zT} {D : zK} {ck pk : Int32} {l : List zI} (hz : zOK t) (hS : nS t D ck pk l I J) {C C' : List zE} {kn : Int32 → Prop} {x : Int32} {n : Nat} (hH : nH X Y C) (hE : eOK t C) (hzz : z < t.1) {dg : Int32 → Prop} (hk : ¬ z = 0 → kro (X 207) kn) (hpa : ¬ z = 0 → pa = nI (zpa t z)) (hS1 : fDg t D ck pk l z kn C x dg C' n) : gTM (d + 7) 248 [.ref 171, .int (nI z), .int pa] (gST (nM I X) (m1 J 205 Y) P) (fun r u => ∃ X' Y', u = gST (nM I X') (m1 J 205 Y') P ∧ r = some (.int (rz x)) ∧ nH X' Y' C' ∧ (x = 100 → kro (X' 208) dg) ∧ X' 206 = X 206 ∧ X' 207 = X 207 ∧ X' 201 = X 201 ∧ X' 171 60 = X 171 60 + nI n ∧ (∀ f, ¬ f = 56 → ¬ f = 60 → X' 171 f = X 171 f)) := by
  by_cases h : z = 0
  · exact m_findsD0 hz hS hH hE hzz h hS1
  · rw [hpa h]; exact m_findsD hz hS hH hE hzz (hk h) h hS1
theorem fDg_ok {t : zT} {D : zK} {ck pk : Int32} {l : List zI} {z : Nat} {kn : Int32 → Prop} {C : List zE} {x : Int32} {dg : Int32 → Prop} {C' : List zE} {n : Nat} (h : fDg t D ck pk l z kn C x dg C' n) (hE : eOK t C) (hz : z < t.1) : eOK t C' := by
  by_cases hz : z = 0
  · rw [((pif_pos hz).mp h).2.2.1]; exact hE
  obtain ⟨r, hr, h⟩ := (pif_neg hz).mp h
  by_cases ha : aliv C ck r
  · rw [((pif_pos ha).mp h).2.2.1]; exact hE
  obtain ⟨r2, hr2, h⟩ := (pif_neg ha).mp h
  by_cases hn : r2 = none
  · rw [((pif_pos hn).mp h).1]; exact hE
  · obtain ⟨i, -, -, -, h, -⟩ := (pif_neg hn).mp h
    rw [h]; exact eOK_app hE hr (by assumption)
theorem m_keysL {d z : Nat} {C C' : List zE} {dg kn' : Int32 → Prop} {x : Int32} {n : Nat} {I X : Nat → Nat → Int32} {J : Nat → Nat → Int64} {Y : Nat → Int64} {P : Nat → Nat} {t : zT} {D : zK} {ck pk : Int32} {l : List zI} (hz : zOK t) (hS : nS t D ck pk l I J) (hH : nH X Y C) (hE : eOK t C) (hzz : z < t.1) (hd : kro (X 208) dg) (hS1 : fLk t pk l z dg C x kn' C' n) : ∀ i, i ≤ l.length → ∀ X2 : Nat → Nat → Int32, (∀ j, ¬ j = 206 → X2 j = X j) → (∀ j, j < i → ¬ (((ig l j).1 = 1 ∧ (ig l j).2.1 = z) ∧ (gen (ig l j) ∧ amo (ig l j).2.2.2.2.2.1 (ig l j).2.2.2.2.2.2.1) ∧ dg (ig l j).2.2.2.2.2.2.1)) → gT (d + 8) 249 43 [(5, .int (nI i)), (0, .ref 171), (1, .int (nI z))] [] (0, 0) (gST (nM I X2) (m1 J 205 Y) P) (fun r u => ∃ X' Y', u = gST (nM I X') (m1 J 205 Y') P ∧ r = some (.int (rz x)) ∧ nH X' Y' C' ∧ (x = 100 → kro (X' 206) kn') ∧ X' 201 = X 201 ∧ X' 171 60 = X 171 60 + nI n ∧ (∀ f, ¬ f = 56 → ¬ f = 60 → X' 171 f = X 171 f)) := by
  obtain ⟨hT, hD, hck, hpk, hcn, hit, h10, hok, hsp⟩ := hS
  have h4 := hz.2.1
  obtain ⟨r2, hr2, hsp2⟩ := hS1
  refine loopU l.length (fun i hi ih => ?_)
  intro X2 hfr0 hno
  have hd2 : kro (X2 208) dg := by rw [hfr0 208 (by decide)]; exact hd
  by_cases hin : i < l.length
  · have hI := hit i hin
    have hq := hok _ (ig_mem hin)
    have hq4 := hq.2.2.2.1
    refine gT_n 4 ?_
    refine ⟨rfl, pk_le l.length i (fun κ1 => ?_) (fun κ1 => ?_) (hcn) (rfl) (by omega) (by omega)⟩
    · exact absurd hin (by omega)
    · refine gT_n 6 ?_
      refine ⟨rfl, rfl, (pk_in i 10 (by omega) (rfl)), px_ne (X := (ig l i).1) (Y := (1)) ((rdI (rfl) (by omega) hI.1.1)) (rfl) (fun κ2 => ?_) (fun κ2 => ?_)⟩
      · refine gT_n 2 ?_
        have e := ih (i + 1) (by omega) (by omega) X2 (fun j hj => hfr0 j hj) (fun j hj => by
          rcases Nat.lt_or_ge j i with g | g
          · exact hno j g
          · obtain rfl : j = i := by omega
            intro c
            obtain ⟨⟨c1, c2⟩, ⟨c3, c4⟩, c5⟩ := c
            first | exact absurd c1 (by assumption) | exact absurd c2 (by assumption) | exact absurd (⟨hq.2.2.2.2, (hd2 _ hq.2.2.2.2).mpr c5⟩ : amo (X2 208 0, X2 208 1, X2 208 2) _) (by assumption) | exact absurd (⟨c4, c3⟩ : rt (ig l j) (amo (ig l j).2.2.2.2.2.1)) (by assumption))
        rw [← nI_1 i] at e
        exact gT_k e ⟨rfl, rfl, rfl, trivial⟩ rfl
      · refine gT_n 6 ?_
        refine ⟨rfl, rfl, (pk_in i 10 (by omega) (rfl)), pk_ne ((ig l i).2.1) z (fun κ3 => ?_) (fun κ3 => ?_) ((rdI (rfl) (by omega) hI.1.2.1)) (rfl) (by have := hq.1; omega) (by omega)⟩
        · refine gT_n 2 ?_
          have e := ih (i + 1) (by omega) (by omega) X2 (fun j hj => hfr0 j hj) (fun j hj => by
            rcases Nat.lt_or_ge j i with g | g
            · exact hno j g
            · obtain rfl : j = i := by omega
              intro c
              obtain ⟨⟨c1, c2⟩, ⟨c3, c4⟩, c5⟩ := c
              first | exact absurd c1 (by assumption) | exact absurd c2 (by assumption) | exact absurd (⟨hq.2.2.2.2, (hd2 _ hq.2.2.2.2).mpr c5⟩ : amo (X2 208 0, X2 208 1, X2 208 2) _) (by assumption) | exact absurd (⟨c4, c3⟩ : rt (ig l j) (amo (ig l j).2.2.2.2.2.1)) (by assumption))
          rw [← nI_1 i] at e
          exact gT_k e ⟨rfl, rfl, rfl, trivial⟩ rfl
        · refine gT_n 7 ?_
          refine ⟨rfl, rfl, rfl, (pk_in i 10 (by omega) (rfl)), rfl, gTM.useA (m_isAmong (I := nM I X2) (J := m1 J 205 Y) rfl rfl) (Nat.le_refl _) (aR (aI ((rdI (rfl) (by omega) hI.1.2.2.2.1)) (rfl))) (fun r u hq => ?_)⟩
          obtain ⟨rfl, ⟨rfl, β4⟩ | ⟨rfl, β4⟩⟩ := hq  -- X12_isAmong[R208, (ig l i).2.2.2.2.2.2.1]
          · refine gT_n 1 ?_
            refine ⟨fun c => absurd c (by decide), fun _ => ?_⟩
            refine gT_n 5 ?_
            refine ⟨rfl, rfl, rfl, gTM.use (m_takesI206 hit h10 hin) (Nat.le_refl _) (fun r u hq => ?_)⟩
            obtain ⟨rfl, X1, rfl, hfr1, hrow⟩ := hq  -- X12_takesItem[R171, nI i, R206]
            refine gT_n 5 ?_
            refine ⟨rfl, rfl, rfl, gTM.use (m_isRight206 (kn := amo (ig l i).2.2.2.2.2.1) hit h10 hok hin (kro_eq hrow.1 hrow.2.1 hrow.2.2)) (Nat.le_refl _) (fun r u hq => ?_)⟩
            obtain ⟨rfl, ⟨rfl, β5⟩ | ⟨rfl, β5⟩⟩ := hq  -- X12_isRight[R171, nI i, R206]
            · refine gT_n 1 ?_
              refine ⟨fun c => absurd c (by decide), fun _ => ?_⟩
              refine gT_n 5 ?_
              refine ⟨rfl, rfl, gTM.use (m_entryComes (X := X1) (k := 1) hit h10 hok hin hpk hsp (nH_fr (fun j hj => (hfr1 j (by omega)).trans (hfr0 j (by omega))) hH) hE.1 (eOK_4 hz hE) (by omega)) (Nat.le_refl _) (fun r u hq => ?_)⟩
              obtain ⟨rfl, X3, Y3, r0, hr0, rfl, hH3, hca, hf, hfr3, h201⟩ := hq  -- X12_entryComes[R171, nI z, K1, nI i]
              refine gT_n 2 ?_
              obtain rfl := isF_one hr2 (show isF l _ (some i) from ⟨hin, ⟨⟨κ2, κ3⟩, ⟨β5.2, β5.1⟩, (hd2 _ hq.2.2.2.2).mp β4.2⟩, hno⟩)
              obtain ⟨i', hii, rfl, rfl, ⟨r3, hr3, rfl⟩, rfl⟩ := (pif_neg (by simp)).mp hsp2
              cases hii
              obtain rfl := isE_one hr3 hr0
              exact ⟨X3, Y3, rfl, ri rz_y, hH3, fun _ => (by rw [hfr3 206 (by decide)]; exact kro_eq hrow.1 hrow.2.1 hrow.2.2), h201.trans ((hfr1 201 (by decide)).trans (hfr0 201 (by decide))), hca.trans (by rw [hfr1 171 (by decide), hfr0 171 (by decide)]; rfl), fun f a b => (hf f a b).trans (by rw [hfr1 171 (by decide), hfr0 171 (by decide)])⟩
            · refine gT_n 1 ?_
              refine ⟨fun _ => ?_, fun c => absurd (by decide) c⟩
              refine gT_n 2 ?_
              have e := ih (i + 1) (by omega) (by omega) X1 (fun j hj => (hfr1 j hj).trans (hfr0 j hj)) (fun j hj => by
                rcases Nat.lt_or_ge j i with g | g
                · exact hno j g
                · obtain rfl : j = i := by omega
                  intro c
                  obtain ⟨⟨c1, c2⟩, ⟨c3, c4⟩, c5⟩ := c
                  first | exact absurd c1 (by assumption) | exact absurd c2 (by assumption) | exact absurd (⟨hq.2.2.2.2, (hd2 _ hq.2.2.2.2).mpr c5⟩ : amo (X2 208 0, X2 208 1, X2 208 2) _) (by assumption) | exact absurd (⟨c4, c3⟩ : rt (ig l j) (amo (ig l j).2.2.2.2.2.1)) (by assumption))
              rw [← nI_1 i] at e
              exact gT_k e ⟨rfl, rfl, rfl, trivial⟩ rfl
          · refine gT_n 1 ?_
            refine ⟨fun _ => ?_, fun c => absurd (by decide) c⟩
            refine gT_n 2 ?_
            have e := ih (i + 1) (by omega) (by omega) X2 (fun j hj => hfr0 j hj) (fun j hj => by
              rcases Nat.lt_or_ge j i with g | g
              · exact hno j g
              · obtain rfl : j = i := by omega
                intro c
                obtain ⟨⟨c1, c2⟩, ⟨c3, c4⟩, c5⟩ := c
                first | exact absurd c1 (by assumption) | exact absurd c2 (by assumption) | exact absurd (⟨hq.2.2.2.2, (hd2 _ hq.2.2.2.2).mpr c5⟩ : amo (X2 208 0, X2 208 1, X2 208 2) _) (by assumption) | exact absurd (⟨c4, c3⟩ : rt (ig l j) (amo (ig l j).2.2.2.2.2.1)) (by assumption))
            rw [← nI_1 i] at e
            exact gT_k e ⟨rfl, rfl, rfl, trivial⟩ rfl
  · refine gT_n 4 ?_
    refine ⟨rfl, pk_le l.length i (fun κ1 => ?_) (fun κ1 => ?_) (hcn) (rfl) (by omega) (by omega)⟩
    · refine gT_n 2 ?_
      have hr2n : isF l (fun q => (q.1 = 1 ∧ q.2.1 = z) ∧ (gen q ∧ amo q.2.2.2.2.2.1 q.2.2.2.2.2.2.1) ∧ dg q.2.2.2.2.2.2.1) none := fun j hj => hno j (by omega)
      obtain rfl := isF_one hr2 hr2n
      obtain ⟨rfl, rfl, rfl⟩ := (pif_pos rfl).mp hsp2
      exact ⟨X2, Y, rfl, ri (rz_n (by decide)), nH_fr (fun j hj => hfr0 j (by omega)) hH, fun c => absurd c (by decide), hfr0 201 (by decide), (by rw [hfr0 171 (by decide)]; exact a0 _), fun f _ _ => by rw [hfr0 171 (by decide)]⟩
    · exact absurd (show i < l.length by omega) hin
theorem m_findsK {d z : Nat} {pa : Int32} {C C' : List zE} {kn kn' : Int32 → Prop} {x : Int32} {n : Nat} {I X : Nat → Nat → Int32} {J : Nat → Nat → Int64} {Y : Nat → Int64} {P : Nat → Nat} {t : zT} {D : zK} {ck pk : Int32} {l : List zI} (hz : zOK t) (hS : nS t D ck pk l I J) (hH : nH X Y C) (hE : eOK t C) (hzz : z < t.1) (hk : ¬ z = 0 → kro (X 207) kn) (hpa : ¬ z = 0 → pa = nI (zpa t z)) (hS1 : fKy t D ck pk l z kn C x kn' C' n) : gTM (d + 8) 249 [.ref 171, .int (nI z), .int pa] (gST (nM I X) (m1 J 205 Y) P) (fun r u => ∃ X' Y', u = gST (nM I X') (m1 J 205 Y') P ∧ r = some (.int (rz x)) ∧ nH X' Y' C' ∧ (x = 100 → kro (X' 206) kn') ∧ X' 201 = X 201 ∧ X' 171 60 = X 171 60 + nI n ∧ (∀ f, ¬ f = 56 → ¬ f = 60 → X' 171 f = X 171 f)) := by
  have hS0 := hS
  obtain ⟨hT, hD, hck, hpk, hcn, hit, h10, hok, hsp⟩ := hS
  have h4 := hz.2.1
  have hC4 := hE.1
  obtain ⟨r, hr, hsp1⟩ := hS1
  refine gT_n 4 ?_
  refine ⟨rfl, rfl, gTM.use (m_aliveE hH hE.1 (eOK_4 hz hE) (by omega) hck) (Nat.le_refl _) (fun r u hq => ?_)⟩
  obtain ⟨rfl, r0, hr0, ⟨a, rfl, ha, hal, rfl⟩ | ⟨hal, rfl⟩⟩ := hq  -- X12_aliveEntry[R171, nI z, K1]
  · refine gT_n 4 ?_
    refine ⟨fun c => absurd c (nI_neg (rfl) (by omega)), fun _ => ?_⟩
    refine gT_n 5 ?_
    refine ⟨rfl, rfl, rfl, gTM.use (m_takesE206 hH hE.1 (eOK_4 hz hE) ha) (Nat.le_refl _) (fun r u hq => ?_)⟩
    obtain ⟨rfl, X1, rfl, hfr1, hrow⟩ := hq  -- X12_takesEntry[R171, nI a, R206]
    refine gT_n 2 ?_
    obtain rfl := isE_one hr hr0
    obtain ⟨rfl, ⟨e, he, rfl⟩, rfl, rfl⟩ := (pif_pos hal).mp hsp1
    cases he
    exact ⟨X1, Y, rfl, ri rz_y, nH_fr (fun j hj => hfr1 j (by omega)) hH, fun _ => kro_eq hrow.1 hrow.2.1 hrow.2.2, hfr1 201 (by decide), (by rw [hfr1 171 (by decide)]; exact a0 _), fun f _ _ => by rw [hfr1 171 (by decide)]⟩
  · refine gT_n 4 ?_
    refine ⟨fun _ => ?_, fun c => absurd (by decide) c⟩
    obtain rfl := isE_one hr hr0
    obtain ⟨x1, dg, C1, n1, hfd, hrest⟩ := (pif_neg hal).mp hsp1
    refine gT_k (L := [(0, .ref 171), (1, .int (nI z)), (2, .int pa)]) ?_ ⟨rfl, rfl, rfl, trivial⟩ rfl
    refine gT_n 4 ?_
    refine ⟨rfl, rfl, gTM.use (m_findsDD hz hS0 hH hE hzz hk hpa hfd) (Nat.le_refl _) (fun r u hq => ?_)⟩
    obtain ⟨X1, Y1, rfl, rfl, hH1, hd1, h206, h207, h201, hca, hf⟩ := hq  -- X12_findsDigests[R171, nI z, pa]
    refine gT_n 3 ?_
    refine px_eq (X := (rz x1)) (Y := (0)) (rfl) (rfl) (fun κ1 => ?_) (fun κ1 => ?_)
    · refine gT_n 2 ?_
      have hx1 : x1 = 100 := by
        rcases fDg_v hfd with h | h | h
        · exact h
        · subst h; exact absurd κ1 (by decide)
        · subst h; exact absurd κ1 (by decide)
      obtain ⟨n2, hfk, rfl⟩ := (pif_pos hx1).mp hrest
      have e := m_keysL (d := d) (P := P) (Y := Y1) hz hS0 hH1 (fDg_ok hfd hE hzz) hzz (hd1 hx1) hfk 0 (by omega) X1 (fun _ _ => rfl) (fun j hj => absurd hj (Nat.not_lt_zero j))
      refine gT_k (gT_mono _ _ _ _ _ _ _ _ _ (fun r u h => ?_) e) ⟨rfl, rfl, rfl, trivial⟩ rfl
      obtain ⟨X', Y', h1, h2, h3, h4, h5, h6, h7⟩ := h
      exact ⟨X', Y', h1, h2, h3, h4, h5.trans h201, by rw [h6, hca, Int32.add_assoc]; exact congrArg _ (pk_addE rfl rfl), fun f a b => (h7 f a b).trans (hf f a b)⟩
    · refine gT_n 2 ?_
      have hx1 : ¬ x1 = 100 := fun e => κ1 (by rw [e]; exact rz_y.symm)
      obtain ⟨rfl, rfl, rfl⟩ := (pif_neg hx1).mp hrest
      exact ⟨X1, Y1, rfl, rfl, hH1, fun c => absurd c hx1, h201, hca, hf⟩
