/-! a check: the reference's call -/
theorem upv2 {X : Nat → Nat → Int32} {v : Int32} (h : X 171 58 = v) : X = gupI X 171 58 v := by
  funext a
  by_cases e : a = 171
  · subst e
    rw [gupI_b, ← h]; exact upd_self.symm
  · rw [gupI_n e]
theorem m_shows {d : Nat} {x v : Int32} {I X : Nat → Nat → Int32} {J : Nat → Nat → Int64} {Y : Nat → Int64} {P : Nat → Nat} {t : zT} {D : zK} {ck pk : Int32} {l : List zI} (hz : zOK t) (hS : nS t D ck pk l I J) {kn : Int32 → Prop} {so pz nm : Nat} (hk : kro (X 206) kn) (h3 : so < 3) (hpz : pz < t.1) (hso : I 171 49 = nI so) (hn : vn nm) (hnm : J 171 48 = lN (mo nm)) (hv : X 171 58 = -4) (hS1 : fSh t l kn pz nm so x v) : gTM (d + 9) 256 [.ref 171, .int (nI pz)] (gST (nM I X) (m1 J 205 Y) P) (fun r u => ∃ X', u = gST (nM I X') (m1 J 205 Y) P ∧ r = some (.int x) ∧ X' = gupI X 171 58 v) := by
  have hS0 := hS
  obtain ⟨hT, hD, hck, hpk, hcn, hit, h10, hok, hsp⟩ := hS
  have h4 := hz.2.1
  obtain ⟨r1, hr1, hsp⟩ := hS1
  refine gT_n 5 ?_
  refine ⟨rfl, rfl, rfl, gTM.useA (m_recItem hz hS0 hk h3 hpz hso hn) (Nat.le_refl _) (aR (aI (rfl) (aL (hnm) (rfl)))) (fun r u hq => ?_)⟩
  obtain ⟨rfl, ⟨i, ⟨hi1a, hi1b⟩, rfl⟩ | ⟨hi1, rfl⟩⟩ := hq  -- X12_recordItem[R171, nI pz, lN nm]
  · refine gT_n 4 ?_
    refine ⟨fun c => absurd c (nI_neg (rfl) (by omega)), fun _ => ?_⟩
    refine gT_n 8 ?_
    refine ⟨rfl, rfl, (pk_in (3 * i) 30 (by omega) (pk_mulE (n := 3) (k := i) (rfl) (rfl))), rfl, ?_⟩
    refine gT_nP rfl (X := (ig l i).2.2.2.2.2.1.1) ((rdI (k := 3 * i) (pk_mulE (n := 3) (k := i) (rfl) (rfl)) (by omega) (hit i (by omega)).2.2.1)) ?_
    refine gT_n 2 ?_
    obtain rfl := isF_one hr1 (show isF l _ (some i) from ⟨hi1a, hi1b⟩)
    obtain ⟨i2, hii, rfl, rfl⟩ := (pif_neg (by simp)).mp hsp
    cases hii
    exact ⟨_, rfl, rfl, rfl⟩
  · refine gT_n 4 ?_
    refine ⟨fun _ => ?_, fun c => absurd (by decide) c⟩
    refine gT_n 5 ?_
    refine ⟨rfl, rfl, rfl, gTM.useA (m_without hz hS0 hk h3 hpz hso hn) (Nat.le_refl _) (aR (aI (rfl) (aL (hnm) (rfl)))) (fun r u hq => ?_)⟩
    obtain ⟨rfl, ⟨rfl, β1⟩ | ⟨rfl, β1⟩⟩ := hq  -- X12_isWithout[R171, nI pz, lN nm]
    · refine gT_n 1 ?_
      refine ⟨fun _ => ?_, fun c => absurd c (by decide)⟩
      refine gT_n 2 ?_
      obtain rfl := isF_one hr1 (show isF l _ none from hi1)
      have hs1 := (pif_pos rfl).mp hsp
      obtain ⟨rfl, rfl⟩ := (pif_pos (Or.inl β1)).mp hs1
      exact ⟨X, rfl, rfl, upv2 hv⟩
    · refine gT_n 1 ?_
      refine ⟨fun c => absurd (by decide) c, fun _ => ?_⟩
      refine gT_n 6 ?_
      refine ⟨rfl, rfl, rfl, gTM.useA (m_covItem1 hz hS0 hk h3 hpz hso hn) (Nat.le_refl _) (aR (aI (rfl) (aL (hnm) (aI (rfl) (rfl))))) (fun r u hq => ?_)⟩
      obtain ⟨rfl, ⟨g1, ⟨hg1a, hg1b⟩, rfl⟩ | ⟨hg1, rfl⟩⟩ := hq  -- X12_coveringItem[R171, nI pz, lN nm, K1]
      · refine gT_n 2 ?_
        refine ⟨fun c => absurd c (nI_neg (rfl) (by omega)), fun _ => ?_⟩
        refine gT_n 2 ?_
        obtain rfl := isF_one hr1 (show isF l _ none from hi1)
        have hs1 := (pif_pos rfl).mp hsp
        obtain ⟨rfl, rfl⟩ := (pif_pos (Or.inr ⟨g1, hg1a, hg1b.1⟩)).mp hs1
        exact ⟨X, rfl, rfl, upv2 hv⟩
      · refine gT_n 2 ?_
        refine ⟨fun _ => ?_, fun c => absurd (by decide) c⟩
        refine gT_n 6 ?_
        refine ⟨rfl, rfl, rfl, gTM.useA (m_covItem0 hz hS0 hk h3 hpz hso hn) (Nat.le_refl _) (aR (aI (rfl) (aL (hnm) (aI (rfl) (rfl))))) (fun r u hq => ?_)⟩
        obtain ⟨rfl, ⟨g, ⟨hga, hgb⟩, rfl⟩ | ⟨hg, rfl⟩⟩ := hq  -- X12_coveringItem[R171, nI pz, lN nm, K0]
        · refine gT_n 4 ?_
          refine ⟨fun _ => ?_, fun c => absurd c (nI_neg (rfl) (by omega))⟩
          refine gT_n 5 ?_
          refine ⟨rfl, rfl, rfl, gTM.useA (m_starByR hz hit h10 hok hga hn (fun e => by have := hgb.1.1.1; omega)) (Nat.le_refl _) (aR (aL (hnm) (aI (rfl) (rfl)))) (fun r u hq => ?_)⟩
          obtain ⟨rfl, k2, hG2, rfl⟩ := hq  -- X12_starBy[R171, lN nm, nI g]
          have hst : vn (nlon (nfst nm k2) 1) := vn_lon (vn_fst hn (by have := hG2.1; have := cnt_le nm; omega)) (by rw [cnt_fk hn (by have := hG2.1; omega)]; have := hG2.1; have := cnt_le nm; omega) (Or.inl (by decide)) (by decide)
          refine gT_n 5 ?_
          refine ⟨rfl, rfl, gTM.use (m_recItem hz hS0 hk h3 hpz hso hst) (Nat.le_refl _) (fun r u hq => ?_)⟩
          obtain ⟨rfl, ⟨i3, ⟨hi3a, hi3b⟩, rfl⟩ | ⟨hi3, rfl⟩⟩ := hq  -- X12_recordItem[R171, nI pz, lN ((nlon (nfst nm k2) 1))]
          · refine gT_n 4 ?_
            refine ⟨fun c => absurd c (nI_neg (rfl) (by omega)), fun _ => ?_⟩
            refine gT_n 8 ?_
            refine ⟨rfl, rfl, (pk_in (3 * i3) 30 (by omega) (pk_mulE (n := 3) (k := i3) (rfl) (rfl))), rfl, ?_⟩
            refine gT_nP rfl (X := (ig l i3).2.2.2.2.2.1.1) ((rdI (k := 3 * i3) (pk_mulE (n := 3) (k := i3) (rfl) (rfl)) (by omega) (hit i3 (by omega)).2.2.1)) ?_
            refine gT_n 2 ?_
            obtain rfl := isF_one hr1 (show isF l _ none from hi1)
            have hs1 := (pif_pos rfl).mp hsp
            obtain ⟨r2, hr2, hs2⟩ := (pif_neg (fun c => Or.elim c β1 (fun c => by obtain ⟨j, hj, h⟩ := c; exact hg1 j hj h))).mp hs1
            obtain rfl := isF_one hr2 (show isF l _ (some g) from ⟨hga, hgb⟩)
            obtain ⟨g2, k, r3, hgg, hG, hr3, hs3⟩ := (pif_neg (by simp)).mp hs2
            cases hgg
            obtain rfl := isG_one hG2 hG
            obtain rfl := isF_one hr3 (show isF l _ (some i3) from ⟨hi3a, hi3b⟩)
            obtain ⟨i2, hii, rfl, rfl⟩ := (pif_neg (by simp)).mp hs3
            cases hii
            exact ⟨_, rfl, rfl, rfl⟩
          · refine gT_n 4 ?_
            refine ⟨fun _ => ?_, fun c => absurd (by decide) c⟩
            refine gT_n 4 ?_
            refine ⟨rfl, rfl, gTM.use (m_without hz hS0 hk h3 hpz hso hst) (Nat.le_refl _) (fun r u hq => ?_)⟩
            obtain ⟨rfl, ⟨rfl, β2⟩ | ⟨rfl, β2⟩⟩ := hq  -- X12_isWithout[R171, nI pz, lN ((nlon (nfst nm k2) 1))]
            · refine gT_n 1 ?_
              refine ⟨fun c => absurd c (by decide), fun _ => ?_⟩
              refine gT_n 2 ?_
              obtain rfl := isF_one hr1 (show isF l _ none from hi1)
              have hs1 := (pif_pos rfl).mp hsp
              obtain ⟨r2, hr2, hs2⟩ := (pif_neg (fun c => Or.elim c β1 (fun c => by obtain ⟨j, hj, h⟩ := c; exact hg1 j hj h))).mp hs1
              obtain rfl := isF_one hr2 (show isF l _ (some g) from ⟨hga, hgb⟩)
              obtain ⟨g2, k, r3, hgg, hG, hr3, hs3⟩ := (pif_neg (by simp)).mp hs2
              cases hgg
              obtain rfl := isG_one hG2 hG
              obtain rfl := isF_one hr3 (show isF l _ none from hi3)
              have hs4 := (pif_pos rfl).mp hs3
              obtain ⟨rfl, rfl⟩ := (pif_pos β2).mp hs4
              exact ⟨X, rfl, rfl, upv2 hv⟩
            · refine gT_n 1 ?_
              refine ⟨fun _ => ?_, fun c => absurd (by decide) c⟩
              refine gT_n 5 ?_
              refine ⟨rfl, rfl, gTM.use (m_covItem0 hz hS0 hk h3 hpz hso hst) (Nat.le_refl _) (fun r u hq => ?_)⟩
              obtain ⟨rfl, ⟨g4, ⟨hg4a, hg4b⟩, rfl⟩ | ⟨hg4, rfl⟩⟩ := hq  -- X12_coveringItem[R171, nI pz, lN ((nlon (nfst nm k2) 1)), K0]
              · refine gT_n 2 ?_
                refine ⟨fun c => absurd c (nI_neg (rfl) (by omega)), fun _ => ?_⟩
                refine gT_n 3 ?_
                obtain rfl := isF_one hr1 (show isF l _ none from hi1)
                have hs1 := (pif_pos rfl).mp hsp
                obtain ⟨r2, hr2, hs2⟩ := (pif_neg (fun c => Or.elim c β1 (fun c => by obtain ⟨j, hj, h⟩ := c; exact hg1 j hj h))).mp hs1
                obtain rfl := isF_one hr2 (show isF l _ (some g) from ⟨hga, hgb⟩)
                obtain ⟨g2, k, r3, hgg, hG, hr3, hs3⟩ := (pif_neg (by simp)).mp hs2
                cases hgg
                obtain rfl := isG_one hG2 hG
                obtain rfl := isF_one hr3 (show isF l _ none from hi3)
                have hs4 := (pif_pos rfl).mp hs3
                obtain ⟨r4, hr4, hs5⟩ := (pif_neg β2).mp hs4
                obtain rfl := isF_one hr4 (show isF l _ (some g4) from ⟨hg4a, hg4b⟩)
                obtain ⟨rfl, rfl⟩ := (pif_neg (by simp)).mp hs5
                exact ⟨X, rfl, rfl, upv2 hv⟩
              · refine gT_n 2 ?_
                refine ⟨fun _ => ?_, fun c => absurd (by decide) c⟩
                refine gT_n 2 ?_
                obtain rfl := isF_one hr1 (show isF l _ none from hi1)
                have hs1 := (pif_pos rfl).mp hsp
                obtain ⟨r2, hr2, hs2⟩ := (pif_neg (fun c => Or.elim c β1 (fun c => by obtain ⟨j, hj, h⟩ := c; exact hg1 j hj h))).mp hs1
                obtain rfl := isF_one hr2 (show isF l _ (some g) from ⟨hga, hgb⟩)
                obtain ⟨g2, k, r3, hgg, hG, hr3, hs3⟩ := (pif_neg (by simp)).mp hs2
                cases hgg
                obtain rfl := isG_one hG2 hG
                obtain rfl := isF_one hr3 (show isF l _ none from hi3)
                have hs4 := (pif_pos rfl).mp hs3
                obtain ⟨r4, hr4, hs5⟩ := (pif_neg β2).mp hs4
                obtain rfl := isF_one hr4 (show isF l _ none from hg4)
                obtain ⟨rfl, rfl⟩ := (pif_pos rfl).mp hs5
                exact ⟨X, rfl, rfl, upv2 hv⟩
        · refine gT_n 4 ?_
          refine ⟨fun c => absurd (by decide) c, fun _ => ?_⟩
          refine gT_n 2 ?_
          obtain rfl := isF_one hr1 (show isF l _ none from hi1)
          have hs1 := (pif_pos rfl).mp hsp
          obtain ⟨r2, hr2, hs2⟩ := (pif_neg (fun c => Or.elim c β1 (fun c => by obtain ⟨j, hj, h⟩ := c; exact hg1 j hj h))).mp hs1
          obtain rfl := isF_one hr2 (show isF l _ none from hg)
          obtain ⟨rfl, rfl⟩ := (pif_pos rfl).mp hs2
          exact ⟨X, rfl, rfl, upv2 hv⟩
theorem m1_nM {I V : Nat → Nat → Int32} {b : Nat} {A : Nat → Int32} (h : nIn b = true) : m1 (nM I V) b A = nM I (m1 V b A) := by
  funext a
  by_cases e : a = b
  · subst e
    rw [m1_b, nM_at h, m1_b]
  · rw [m1_n e]
    unfold nM
    rw [m1_n e, m1_n (o := 171) (fun q => nIn_ne h q.symm)]
theorem m_chainsN {d z m : Nat} {t : zT} {I X : Nat → Nat → Int32} {J : Nat → Nat → Int64} {Y : Nat → Int64} {P : Nat → Nat} (hz : zOK t) (hT : mT (I 171 2) (J 172) (I 173) t) (hw : z < t.1) (hm : m ≤ 3) (hm0 : zc t z m = 0) (hnz : ∀ k, k < m → ¬ zc t z k = 0) : gTM (d + 6) 227 [.ref 171, .int (nI z)] (gST (nM I X) (m1 J 205 Y) P) (fun r u => r = none ∧ ∃ A : Nat → Int32, u = gST (nM I (m1 (gupI X 171 51 (nI (m + 1))) 201 A)) (m1 J 205 Y) P ∧ ∀ k, k ≤ m → A k = nI (zc t z (m - k))) := by
  refine gTM.use (m_chains (I := nM I X) (J := m1 J 205 Y) hz hT hw hm hm0 hnz) (Nat.le_refl _) (fun r u h => ?_)
  obtain ⟨h1, A, h2, h3⟩ := h
  refine ⟨h1, A, ?_, h3⟩
  rw [h2, gup_nP rfl, m1_nM rfl]
theorem fKy_v {t : zT} {D : zK} {ck pk : Int32} {l : List zI} {z : Nat} {kn kn' : Int32 → Prop} {C C' : List zE} {x : Int32} {n : Nat} (h : fKy t D ck pk l z kn C x kn' C' n) : x = 100 ∨ x = 5 ∨ x = -21 ∨ x = -22 := by
  obtain ⟨r, hr, h⟩ := h
  by_cases ha : aliv C ck r
  · exact Or.inl ((pif_pos ha).mp h).1
  obtain ⟨x1, dg, C1, n1, hd, h⟩ := (pif_neg ha).mp h
  by_cases hx : x1 = 100
  · obtain ⟨n2, ⟨r2, hr2, h⟩, -⟩ := (pif_pos hx).mp h
    by_cases hn : r2 = none
    · exact Or.inr (Or.inr (Or.inr ((pif_pos hn).mp h).1))
    · obtain ⟨i, -, h, -⟩ := (pif_neg hn).mp h
      exact Or.inl h
  · obtain ⟨h, -⟩ := (pif_neg hx).mp h
    rcases fDg_v hd with e | e | e
    · exact absurd e hx
    · exact Or.inr (Or.inl (h.trans e))
    · exact Or.inr (Or.inr (Or.inl (h.trans e)))
theorem fKy_ok {t : zT} {D : zK} {ck pk : Int32} {l : List zI} {z : Nat} {kn kn' : Int32 → Prop} {C C' : List zE} {x : Int32} {n : Nat} (h : fKy t D ck pk l z kn C x kn' C' n) (hE : eOK t C) (hz : z < t.1) : eOK t C' := by
  obtain ⟨r, hr, h⟩ := h
  by_cases ha : aliv C ck r
  · rw [((pif_pos ha).mp h).2.2.1]; exact hE
  obtain ⟨x1, dg, C1, n1, hd, h⟩ := (pif_neg ha).mp h
  have hE1 := fDg_ok hd hE hz
  by_cases hx : x1 = 100
  · obtain ⟨n2, ⟨r2, hr2, h⟩, -⟩ := (pif_pos hx).mp h
    by_cases hn : r2 = none
    · rw [((pif_pos hn).mp h).2.1]; exact hE1
    · obtain ⟨i, -, -, -, ⟨r3, hr3, h⟩, -⟩ := (pif_neg hn).mp h
      rw [h]; exact eOK_app hE1 hr3 hz
  · rw [((pif_neg hx).mp h).2.1]; exact hE1
theorem nH_ext {X : Nat → Nat → Int32} {Y : Nat → Int64} {C : List zE} {a b c e : Int32} (h : nH X Y C) : nH (gupI (gupI (gupI (gupI X 207 0 a) 207 1 b) 207 2 c) 171 59 e) Y C := h
theorem nH_ext58 {X : Nat → Nat → Int32} {Y : Nat → Int64} {C : List zE} {a : Int32} (h : nH X Y C) : nH (gupI X 171 58 a) Y C := h
theorem m_checkL {d : Nat} {I : Nat → Nat → Int32} {J : Nat → Nat → Int64} {P : Nat → Nat} {t : zT} {D : zK} {ck pk : Int32} {l : List zI} (hz : zOK t) (hS : nS t D ck pk l I J) {so nm w M : Nat} (h3 : so < 3) (hw : w < t.1) (hso : I 171 49 = nI so) (hn : vn nm) (hnm : J 171 48 = lN (mo nm)) (hM : M ≤ 3) {x v x0 : Int32} {z n' : Nat} {kn' : Int32 → Prop} {C' : List zE} (hfin : pif (x0 = 100) (fSh t l kn' w nm so x v) (x = x0 ∧ v = -4)) (hM0 : zc t w M = 0) : ∀ m k, k + m = M → (∀ j, j < m → ¬ zc t w j = 0) → ∀ (X : Nat → Nat → Int32) (Y : Nat → Int64) (C : List zE) (kn : Int32 → Prop) (n : Nat) (x1 : Int32) (kn1 : Int32 → Prop) (C1 : List zE) (n1 : Nat), X 171 51 = nI (M + 1) → (∀ k, k ≤ M → X 201 k = nI (zc t w (M - k))) → nH X Y C → eOK t C → (0 < k → kro (X 206) kn) → X 171 60 = nI n → X 171 57 = 1 → X 171 58 = -4 → fKy t D ck pk l (zc t w m) kn C x1 kn1 C1 n1 → aft t D ck pk l w m x1 kn1 C1 (n + n1) x0 z kn' C' n' → gT (d + 10) 257 42 [(1, .int 0), (2, .int (nI k)), (0, .ref 171)] [] (0, 0) (gST (nM I X) (m1 J 205 Y) P) (fun r u => ∃ X' Y', u = gST (nM I X') (m1 J 205 Y') P ∧ r = some (.int x) ∧ nH X' Y' C' ∧ (X' 171 57 = 1 ∧ X' 171 58 = v ∧ X' 171 59 = nI z ∧ X' 171 60 = nI n')) := by
  have hS0 := hS
  obtain ⟨hT, hD, hck, hpk, hcn, hit, h10, hok, hsp⟩ := hS
  have h4 := hz.2.1
  intro m
  induction m with
  | zero =>
    intro k hkM hnz X Y C kn n x1 kn1 C1 n1 h51 hch hH hE hkk h60 h57 hv hky haf
    have hm := zc_lt hz hw 0
    have hA : ∀ j, j ≤ M → j = k → X 201 j = nI (zc t w 0) := fun j h1 h2 => by rw [hch j h1]; exact congrArg (fun q => nI (zc t w q)) (by omega)
    have hA1 : 0 < k → X 201 (k - 1) = nI (zc t w (0 + 1)) := fun h => by rw [hch (k - 1) (by omega)]; exact congrArg (fun q => nI (zc t w q)) (by omega)
    have hzz0 : k = 0 → zc t w 0 = 0 := fun h => by rw [← hM0]; exact congrArg (zc t w) (by omega)
    have hp := zc_lt hz hw (0 + 1)
    refine gT_n 4 ?_
    refine ⟨rfl, pk_le ((M + 1)) k (fun κ1 => ?_) (fun κ1 => ?_) (h51) (rfl) (by omega) (by omega)⟩
    · exact absurd hkM (by omega)
    · refine gT_n 2 ?_
      refine ⟨fun c => absurd (by decide) c, fun _ => ?_⟩
      refine gT_n 2 ?_
      refine gT_k (L := [(3, .int 0), (1, .int 0), (2, .int (nI k)), (0, .ref 171)]) ?_ ⟨rfl, rfl, rfl, rfl, trivial⟩ rfl
      refine gT_n 3 ?_
      refine ⟨fun c => absurd c (by decide), fun _ => ?_⟩
      refine gT_n 8 ?_
      refine ⟨rfl, rfl, rfl, (pk_in 0 3 (by decide) rfl), rfl, (pk_inS (m := 3) (k := 0) (rfl) (by decide) (rfl)), ?_⟩
      refine gT_nA (b := 207) rfl (n := 0) (X := (X 206 0)) (rfl) (by omega) (rfl) ?_
      refine gT_n 2 ?_
      refine gT_k (L := [(3, .int 1), (1, .int 0), (2, .int (nI k)), (0, .ref 171)]) ?_ ⟨rfl, rfl, rfl, rfl, trivial⟩ rfl
      refine gT_n 3 ?_
      refine ⟨fun c => absurd c (by decide), fun _ => ?_⟩
      refine gT_n 8 ?_
      refine ⟨rfl, rfl, rfl, (pk_in 1 3 (by decide) rfl), rfl, (pk_inS (m := 3) (k := 1) (rfl) (by decide) (rfl)), ?_⟩
      refine gT_nA (b := 207) rfl (n := 1) (X := (X 206 1)) (rfl) (by omega) (rfl) ?_
      refine gT_n 2 ?_
      refine gT_k (L := [(3, .int 2), (1, .int 0), (2, .int (nI k)), (0, .ref 171)]) ?_ ⟨rfl, rfl, rfl, rfl, trivial⟩ rfl
      refine gT_n 3 ?_
      refine ⟨fun c => absurd c (by decide), fun _ => ?_⟩
      refine gT_n 8 ?_
      refine ⟨rfl, rfl, rfl, (pk_in 2 3 (by decide) rfl), rfl, (pk_inS (m := 3) (k := 2) (rfl) (by decide) (rfl)), ?_⟩
      refine gT_nA (b := 207) rfl (n := 2) (X := (X 206 2)) (rfl) (by omega) (rfl) ?_
      refine gT_n 2 ?_
      refine gT_k (L := [(3, .int 3), (1, .int 0), (2, .int (nI k)), (0, .ref 171)]) ?_ ⟨rfl, rfl, rfl, rfl, trivial⟩ rfl
      refine gT_n 3 ?_
      refine ⟨fun _ => ?_, fun c => absurd (by decide) c⟩
      refine gT_n 6 ?_
      refine ⟨rfl, rfl, (pk_in k 4 (by omega) (rfl)), rfl, ?_⟩
      refine gT_nP rfl (X := (nI ((zc t w 0)))) ((rdI (k := k) (rfl) (by omega) (hA k (by omega) (by omega)))) ?_
      refine gT_n 7 ?_
      refine ⟨rfl, rfl, (pk_in k 4 (by omega) (rfl)), pk_ne k 0 (fun κ2 => ?_) (fun κ2 => ?_) (rfl) (rfl) (by omega) (by omega)⟩
      · refine gT_n 7 ?_
        refine ⟨rfl, rfl, (pk_in (k - 1) 4 (by omega) (pk_subE (n := k) (k := 1) (rfl) (rfl) (by omega))), rfl, rfl, gTM.useA (m_findsK (X := (gupI (gupI (gupI (gupI X 207 0 (X 206 0)) 207 1 (X 206 1)) 207 2 (X 206 2)) 171 59 (nI (zc t w 0)))) hz hS0 (nH_ext hH) hE hm (kn := kn) (fun h => hkk (by omega)) (fun h => rfl) hky) (Nat.le_refl _) (aR (aI ((rdI (k := k) (rfl) (by omega) (hA k (by omega) (by omega)))) (aI ((rdI (k := k - 1) (pk_subE (n := k) (k := 1) (rfl) (rfl) (by omega)) (by omega) (hA1 (by omega)))) (rfl)))) (fun r u hq => ?_)⟩
        obtain ⟨X1, Y1, rfl, rfl, hH1, hk1, h201, hca, hf⟩ := hq  -- X12_findsKeys[R171, nI ((zc t w 0)), nI ((zc t w (0 + 1)))]
        refine gT_n 3 ?_
        have hE1 := fKy_ok hky hE hm
        have f57 : X1 171 57 = 1 := (hf 57 (by decide) (by decide)).trans h57
        have f58 : X1 171 58 = -4 := (hf 58 (by decide) (by decide)).trans hv
        have f59 : X1 171 59 = nI (zc t w 0) := (hf 59 (by decide) (by decide)).trans rfl
        have f51 : X1 171 51 = nI (M + 1) := (hf 51 (by decide) (by decide)).trans h51
        have f60 : X1 171 60 = nI (n + n1) := hca.trans (by show X 171 60 + nI n1 = _; rw [h60]; exact pk_addE rfl rfl)
        have f201 : X1 201 = X 201 := h201
        by_cases hx : x1 = 100
        · subst hx
          refine gT_k (L := [(1, .int 0), (2, .int (nI (k + 1))), (0, .ref 171)]) ?_ ⟨viI rz_y.symm, viI (nI_1 k), rfl, trivial⟩ rfl
          obtain ⟨rfl, e2, rfl, rfl, rfl⟩ := (pif_pos rfl).mp haf
          have hfin := (pif_pos rfl).mp hfin
          refine gT_n 4 ?_
          refine ⟨rfl, pk_le ((M + 1)) ((k + 1)) (fun κ1 => ?_) (fun κ1 => ?_) (f51) (rfl) (by omega) (by omega)⟩
          · refine gT_n 2 ?_
            refine ⟨fun _ => ?_, fun c => absurd (by decide) c⟩
            refine gT_n 4 ?_
            refine ⟨rfl, rfl, rfl, gTM.useA (m_shows (pz := zc t w 0) (nm := nm) hz hS0 (hk1 rfl) h3 hw hso hn hnm f58 hfin) (Nat.le_refl _) (aR (aI (f59) (rfl))) (fun r u hq => ?_)⟩
            obtain ⟨X2, rfl, rfl, rfl⟩ := hq  -- X12_shows[R171, nI ((zc t w 0))]
            refine gT_n 1 ?_
            exact ⟨_, Y1, rfl, rfl, nH_ext58 hH1, f57, gupI_rr, f59.trans (congrArg nI e2.symm), f60⟩
          · exact absurd hkM (by omega)
        · have hx0 : ¬ rz x1 = 0 := by
            rcases fKy_v hky with e | e | e | e
            · exact absurd e hx
            · subst e; decide
            · subst e; decide
            · subst e; decide
          refine gT_k (L := [(1, .int (rz x1)), (2, .int (nI (k + 1))), (0, .ref 171)]) ?_ ⟨rfl, viI (nI_1 k), rfl, trivial⟩ rfl
          obtain ⟨e1, e2, rfl, rfl⟩ := (pif_neg hx).mp haf
          rw [e1] at hfin
          obtain ⟨ex, ev⟩ := (pif_neg hx).mp hfin
          refine gT_n 4 ?_
          refine ⟨rfl, pk_le ((M + 1)) ((k + 1)) (fun κ1 => ?_) (fun κ1 => ?_) (f51) (rfl) (by omega) (by omega)⟩
          · refine gT_n 2 ?_
            refine px_eq (X := (rz x1)) (Y := (0)) (rfl) (rfl) (fun κ2 => ?_) (fun κ2 => ?_)
            · exact absurd (by assumption) hx0
            · refine gT_n 3 ?_
              exact ⟨X1, Y1, rfl, ri ((rz_n hx).symm.trans ex.symm), hH1, f57, f58.trans ev.symm, f59.trans (congrArg nI e2.symm), f60⟩
          · refine gT_n 2 ?_
            refine px_ne (X := (rz x1)) (Y := (0)) (rfl) (rfl) (fun κ3 => ?_) (fun κ3 => ?_)
            · refine gT_n 2 ?_
              refine px_eq (X := (rz x1)) (Y := (0)) (rfl) (rfl) (fun c => by first | exact absurd κ3 c | exact absurd c κ3 | (exfalso; omega)) (fun _ => ?_)
              refine gT_n 3 ?_
              exact ⟨X1, Y1, rfl, ri ((rz_n hx).symm.trans ex.symm), hH1, f57, f58.trans ev.symm, f59.trans (congrArg nI e2.symm), f60⟩
            · exact absurd (by assumption) hx0
      · refine gT_n 3 ?_
        refine ⟨rfl, rfl, gTM.useA (m_findsK (X := (gupI (gupI (gupI (gupI X 207 0 (X 206 0)) 207 1 (X 206 1)) 207 2 (X 206 2)) 171 59 (nI (zc t w 0)))) hz hS0 (nH_ext hH) hE hm (kn := kn) (fun h => hkk (by omega)) (fun h => absurd (hzz0 (by omega)) h) hky) (Nat.le_refl _) (aR (aI ((rdI (k := k) (rfl) (by omega) (hA k (by omega) (by omega)))) (aI (rfl) (rfl)))) (fun r u hq => ?_)⟩
        obtain ⟨X1, Y1, rfl, rfl, hH1, hk1, h201, hca, hf⟩ := hq  -- X12_findsKeys[R171, nI ((zc t w 0)), K-4]
        refine gT_n 3 ?_
        have hE1 := fKy_ok hky hE hm
        have f57 : X1 171 57 = 1 := (hf 57 (by decide) (by decide)).trans h57
        have f58 : X1 171 58 = -4 := (hf 58 (by decide) (by decide)).trans hv
        have f59 : X1 171 59 = nI (zc t w 0) := (hf 59 (by decide) (by decide)).trans rfl
        have f51 : X1 171 51 = nI (M + 1) := (hf 51 (by decide) (by decide)).trans h51
        have f60 : X1 171 60 = nI (n + n1) := hca.trans (by show X 171 60 + nI n1 = _; rw [h60]; exact pk_addE rfl rfl)
        have f201 : X1 201 = X 201 := h201
        by_cases hx : x1 = 100
        · subst hx
          refine gT_k (L := [(1, .int 0), (2, .int (nI (k + 1))), (0, .ref 171)]) ?_ ⟨viI rz_y.symm, viI (nI_1 k), rfl, trivial⟩ rfl
          obtain ⟨rfl, e2, rfl, rfl, rfl⟩ := (pif_pos rfl).mp haf
          have hfin := (pif_pos rfl).mp hfin
          refine gT_n 4 ?_
          refine ⟨rfl, pk_le ((M + 1)) ((k + 1)) (fun κ1 => ?_) (fun κ1 => ?_) (f51) (rfl) (by omega) (by omega)⟩
          · refine gT_n 2 ?_
            refine ⟨fun _ => ?_, fun c => absurd (by decide) c⟩
            refine gT_n 4 ?_
            refine ⟨rfl, rfl, rfl, gTM.useA (m_shows (pz := zc t w 0) (nm := nm) hz hS0 (hk1 rfl) h3 hw hso hn hnm f58 hfin) (Nat.le_refl _) (aR (aI (f59) (rfl))) (fun r u hq => ?_)⟩
            obtain ⟨X2, rfl, rfl, rfl⟩ := hq  -- X12_shows[R171, nI ((zc t w 0))]
            refine gT_n 1 ?_
            exact ⟨_, Y1, rfl, rfl, nH_ext58 hH1, f57, gupI_rr, f59.trans (congrArg nI e2.symm), f60⟩
          · exact absurd hkM (by omega)
        · have hx0 : ¬ rz x1 = 0 := by
            rcases fKy_v hky with e | e | e | e
            · exact absurd e hx
            · subst e; decide
            · subst e; decide
            · subst e; decide
          refine gT_k (L := [(1, .int (rz x1)), (2, .int (nI (k + 1))), (0, .ref 171)]) ?_ ⟨rfl, viI (nI_1 k), rfl, trivial⟩ rfl
          obtain ⟨e1, e2, rfl, rfl⟩ := (pif_neg hx).mp haf
          rw [e1] at hfin
          obtain ⟨ex, ev⟩ := (pif_neg hx).mp hfin
          refine gT_n 4 ?_
          refine ⟨rfl, pk_le ((M + 1)) ((k + 1)) (fun κ1 => ?_) (fun κ1 => ?_) (f51) (rfl) (by omega) (by omega)⟩
          · refine gT_n 2 ?_
            refine px_eq (X := (rz x1)) (Y := (0)) (rfl) (rfl) (fun κ2 => ?_) (fun κ2 => ?_)
            · exact absurd (by assumption) hx0
            · refine gT_n 3 ?_
              exact ⟨X1, Y1, rfl, ri ((rz_n hx).symm.trans ex.symm), hH1, f57, f58.trans ev.symm, f59.trans (congrArg nI e2.symm), f60⟩
          · refine gT_n 2 ?_
            refine px_ne (X := (rz x1)) (Y := (0)) (rfl) (rfl) (fun κ3 => ?_) (fun κ3 => ?_)
            · refine gT_n 2 ?_
              refine px_eq (X := (rz x1)) (Y := (0)) (rfl) (rfl) (fun c => by first | exact absurd κ3 c | exact absurd c κ3 | (exfalso; omega)) (fun _ => ?_)
              refine gT_n 3 ?_
              exact ⟨X1, Y1, rfl, ri ((rz_n hx).symm.trans ex.symm), hH1, f57, f58.trans ev.symm, f59.trans (congrArg nI e2.symm), f60⟩
            · exact absurd (by assumption) hx0
  | succ m ih =>
    intro k hkM hnz X Y C kn n x1 kn1 C1 n1 h51 hch hH hE hkk h60 h57 hv hky haf
    have hm := zc_lt hz hw (m + 1)
    have hA : ∀ j, j ≤ M → j = k → X 201 j = nI (zc t w (m + 1)) := fun j h1 h2 => by rw [hch j h1]; exact congrArg (fun q => nI (zc t w q)) (by omega)
    have hA1 : 0 < k → X 201 (k - 1) = nI (zc t w (m + 1 + 1)) := fun h => by rw [hch (k - 1) (by omega)]; exact congrArg (fun q => nI (zc t w q)) (by omega)
    have hzz0 : k = 0 → zc t w (m + 1) = 0 := fun h => by rw [← hM0]; exact congrArg (zc t w) (by omega)
    have hp := zc_lt hz hw (m + 1 + 1)
    refine gT_n 4 ?_
    refine ⟨rfl, pk_le ((M + 1)) k (fun κ1 => ?_) (fun κ1 => ?_) (h51) (rfl) (by omega) (by omega)⟩
    · exact absurd hkM (by omega)
    · refine gT_n 2 ?_
      refine ⟨fun c => absurd (by decide) c, fun _ => ?_⟩
      refine gT_n 2 ?_
      refine gT_k (L := [(3, .int 0), (1, .int 0), (2, .int (nI k)), (0, .ref 171)]) ?_ ⟨rfl, rfl, rfl, rfl, trivial⟩ rfl
      refine gT_n 3 ?_
      refine ⟨fun c => absurd c (by decide), fun _ => ?_⟩
      refine gT_n 8 ?_
      refine ⟨rfl, rfl, rfl, (pk_in 0 3 (by decide) rfl), rfl, (pk_inS (m := 3) (k := 0) (rfl) (by decide) (rfl)), ?_⟩
      refine gT_nA (b := 207) rfl (n := 0) (X := (X 206 0)) (rfl) (by omega) (rfl) ?_
      refine gT_n 2 ?_
      refine gT_k (L := [(3, .int 1), (1, .int 0), (2, .int (nI k)), (0, .ref 171)]) ?_ ⟨rfl, rfl, rfl, rfl, trivial⟩ rfl
      refine gT_n 3 ?_
      refine ⟨fun c => absurd c (by decide), fun _ => ?_⟩
      refine gT_n 8 ?_
      refine ⟨rfl, rfl, rfl, (pk_in 1 3 (by decide) rfl), rfl, (pk_inS (m := 3) (k := 1) (rfl) (by decide) (rfl)), ?_⟩
      refine gT_nA (b := 207) rfl (n := 1) (X := (X 206 1)) (rfl) (by omega) (rfl) ?_
      refine gT_n 2 ?_
      refine gT_k (L := [(3, .int 2), (1, .int 0), (2, .int (nI k)), (0, .ref 171)]) ?_ ⟨rfl, rfl, rfl, rfl, trivial⟩ rfl
      refine gT_n 3 ?_
      refine ⟨fun c => absurd c (by decide), fun _ => ?_⟩
      refine gT_n 8 ?_
      refine ⟨rfl, rfl, rfl, (pk_in 2 3 (by decide) rfl), rfl, (pk_inS (m := 3) (k := 2) (rfl) (by decide) (rfl)), ?_⟩
      refine gT_nA (b := 207) rfl (n := 2) (X := (X 206 2)) (rfl) (by omega) (rfl) ?_
      refine gT_n 2 ?_
      refine gT_k (L := [(3, .int 3), (1, .int 0), (2, .int (nI k)), (0, .ref 171)]) ?_ ⟨rfl, rfl, rfl, rfl, trivial⟩ rfl
      refine gT_n 3 ?_
      refine ⟨fun _ => ?_, fun c => absurd (by decide) c⟩
      refine gT_n 6 ?_
      refine ⟨rfl, rfl, (pk_in k 4 (by omega) (rfl)), rfl, ?_⟩
      refine gT_nP rfl (X := (nI ((zc t w (m + 1))))) ((rdI (k := k) (rfl) (by omega) (hA k (by omega) (by omega)))) ?_
      refine gT_n 7 ?_
      refine ⟨rfl, rfl, (pk_in k 4 (by omega) (rfl)), pk_ne k 0 (fun κ2 => ?_) (fun κ2 => ?_) (rfl) (rfl) (by omega) (by omega)⟩
      · refine gT_n 7 ?_
        refine ⟨rfl, rfl, (pk_in (k - 1) 4 (by omega) (pk_subE (n := k) (k := 1) (rfl) (rfl) (by omega))), rfl, rfl, gTM.useA (m_findsK (X := (gupI (gupI (gupI (gupI X 207 0 (X 206 0)) 207 1 (X 206 1)) 207 2 (X 206 2)) 171 59 (nI (zc t w (m + 1))))) hz hS0 (nH_ext hH) hE hm (kn := kn) (fun h => hkk (by omega)) (fun h => rfl) hky) (Nat.le_refl _) (aR (aI ((rdI (k := k) (rfl) (by omega) (hA k (by omega) (by omega)))) (aI ((rdI (k := k - 1) (pk_subE (n := k) (k := 1) (rfl) (rfl) (by omega)) (by omega) (hA1 (by omega)))) (rfl)))) (fun r u hq => ?_)⟩
        obtain ⟨X1, Y1, rfl, rfl, hH1, hk1, h201, hca, hf⟩ := hq  -- X12_findsKeys[R171, nI ((zc t w (m + 1))), nI ((zc t w (m + 1 + 1)))]
        refine gT_n 3 ?_
        have hE1 := fKy_ok hky hE hm
        have f57 : X1 171 57 = 1 := (hf 57 (by decide) (by decide)).trans h57
        have f58 : X1 171 58 = -4 := (hf 58 (by decide) (by decide)).trans hv
        have f59 : X1 171 59 = nI (zc t w (m + 1)) := (hf 59 (by decide) (by decide)).trans rfl
        have f51 : X1 171 51 = nI (M + 1) := (hf 51 (by decide) (by decide)).trans h51
        have f60 : X1 171 60 = nI (n + n1) := hca.trans (by show X 171 60 + nI n1 = _; rw [h60]; exact pk_addE rfl rfl)
        have f201 : X1 201 = X 201 := h201
        by_cases hx : x1 = 100
        · subst hx
          refine gT_k (L := [(1, .int 0), (2, .int (nI (k + 1))), (0, .ref 171)]) ?_ ⟨viI rz_y.symm, viI (nI_1 k), rfl, trivial⟩ rfl
          obtain ⟨x2, kn2, C2, n2, hky2, haf2⟩ := (pif_pos rfl).mp haf
          exact ih (k + 1) (by omega) (fun j hj => hnz j (by omega)) X1 Y1 C1 kn1 (n + n1) x2 kn2 C2 n2 f51 (by rw [f201]; exact hch) hH1 hE1 (fun _ => hk1 rfl) f60 f57 f58 hky2 haf2
        · have hx0 : ¬ rz x1 = 0 := by
            rcases fKy_v hky with e | e | e | e
            · exact absurd e hx
            · subst e; decide
            · subst e; decide
            · subst e; decide
          refine gT_k (L := [(1, .int (rz x1)), (2, .int (nI (k + 1))), (0, .ref 171)]) ?_ ⟨rfl, viI (nI_1 k), rfl, trivial⟩ rfl
          obtain ⟨e1, e2, rfl, rfl⟩ := (pif_neg hx).mp haf
          rw [e1] at hfin
          obtain ⟨ex, ev⟩ := (pif_neg hx).mp hfin
          refine gT_n 4 ?_
          refine ⟨rfl, pk_le ((M + 1)) ((k + 1)) (fun κ1 => ?_) (fun κ1 => ?_) (f51) (rfl) (by omega) (by omega)⟩
          · refine gT_n 2 ?_
            refine px_eq (X := (rz x1)) (Y := (0)) (rfl) (rfl) (fun κ2 => ?_) (fun κ2 => ?_)
            · exact absurd (by assumption) hx0
            · refine gT_n 3 ?_
              exact ⟨X1, Y1, rfl, ri ((rz_n hx).symm.trans ex.symm), hH1, f57, f58.trans ev.symm, f59.trans (congrArg nI e2.symm), f60⟩
          · refine gT_n 2 ?_
            refine px_ne (X := (rz x1)) (Y := (0)) (rfl) (rfl) (fun κ3 => ?_) (fun κ3 => ?_)
            · refine gT_n 2 ?_
              refine px_eq (X := (rz x1)) (Y := (0)) (rfl) (rfl) (fun c => by first | exact absurd κ3 c | exact absurd c κ3 | (exfalso; omega)) (fun _ => ?_)
              refine gT_n 3 ?_
              exact ⟨X1, Y1, rfl, ri ((rz_n hx).symm.trans ex.symm), hH1, f57, f58.trans ev.symm, f59.trans (congrArg nI e2.symm), f60⟩
            · exact absurd (by assumption) hx0
      · refine gT_n 3 ?_
        refine ⟨rfl, rfl, gTM.useA (m_findsK (X := (gupI (gupI (gupI (gupI X 207 0 (X 206 0)) 207 1 (X 206 1)) 207 2 (X 206 2)) 171 59 (nI (zc t w (m + 1))))) hz hS0 (nH_ext hH) hE hm (kn := kn) (fun h => hkk (by omega)) (fun h => absurd (hzz0 (by omega)) h) hky) (Nat.le_refl _) (aR (aI ((rdI (k := k) (rfl) (by omega) (hA k (by omega) (by omega)))) (aI (rfl) (rfl)))) (fun r u hq => ?_)⟩
        obtain ⟨X1, Y1, rfl, rfl, hH1, hk1, h201, hca, hf⟩ := hq  -- X12_findsKeys[R171, nI ((zc t w (m + 1))), K-4]
        refine gT_n 3 ?_
        have hE1 := fKy_ok hky hE hm
        have f57 : X1 171 57 = 1 := (hf 57 (by decide) (by decide)).trans h57
        have f58 : X1 171 58 = -4 := (hf 58 (by decide) (by decide)).trans hv
        have f59 : X1 171 59 = nI (zc t w (m + 1)) := (hf 59 (by decide) (by decide)).trans rfl
        have f51 : X1 171 51 = nI (M + 1) := (hf 51 (by decide) (by decide)).trans h51
        have f60 : X1 171 60 = nI (n + n1) := hca.trans (by show X 171 60 + nI n1 = _; rw [h60]; exact pk_addE rfl rfl)
        have f201 : X1 201 = X 201 := h201
        by_cases hx : x1 = 100
        · subst hx
          refine gT_k (L := [(1, .int 0), (2, .int (nI (k + 1))), (0, .ref 171)]) ?_ ⟨viI rz_y.symm, viI (nI_1 k), rfl, trivial⟩ rfl
          obtain ⟨x2, kn2, C2, n2, hky2, haf2⟩ := (pif_pos rfl).mp haf
          exact ih (k + 1) (by omega) (fun j hj => hnz j (by omega)) X1 Y1 C1 kn1 (n + n1) x2 kn2 C2 n2 f51 (by rw [f201]; exact hch) hH1 hE1 (fun _ => hk1 rfl) f60 f57 f58 hky2 haf2
        · have hx0 : ¬ rz x1 = 0 := by
            rcases fKy_v hky with e | e | e | e
            · exact absurd e hx
            · subst e; decide
            · subst e; decide
            · subst e; decide
          refine gT_k (L := [(1, .int (rz x1)), (2, .int (nI (k + 1))), (0, .ref 171)]) ?_ ⟨rfl, viI (nI_1 k), rfl, trivial⟩ rfl
          obtain ⟨e1, e2, rfl, rfl⟩ := (pif_neg hx).mp haf
          rw [e1] at hfin
          obtain ⟨ex, ev⟩ := (pif_neg hx).mp hfin
          refine gT_n 4 ?_
          refine ⟨rfl, pk_le ((M + 1)) ((k + 1)) (fun κ1 => ?_) (fun κ1 => ?_) (f51) (rfl) (by omega) (by omega)⟩
          · refine gT_n 2 ?_
            refine px_eq (X := (rz x1)) (Y := (0)) (rfl) (rfl) (fun κ2 => ?_) (fun κ2 => ?_)
            · exact absurd (by assumption) hx0
            · refine gT_n 3 ?_
              exact ⟨X1, Y1, rfl, ri ((rz_n hx).symm.trans ex.symm), hH1, f57, f58.trans ev.symm, f59.trans (congrArg nI e2.symm), f60⟩
          · refine gT_n 2 ?_
            refine px_ne (X := (rz x1)) (Y := (0)) (rfl) (rfl) (fun κ3 => ?_) (fun κ3 => ?_)
            · refine gT_n 2 ?_
              refine px_eq (X := (rz x1)) (Y := (0)) (rfl) (rfl) (fun c => by first | exact absurd κ3 c | exact absurd c κ3 | (exfalso; omega)) (fun _ => ?_)
              refine gT_n 3 ?_
              exact ⟨X1, Y1, rfl, ri ((rz_n hx).symm.trans ex.symm), hH1, f57, f58.trans ev.symm, f59.trans (congrArg nI e2.symm), f60⟩
            · exact absurd (by assumption) hx0
