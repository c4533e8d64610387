/-! what is shown; a check: the class -/
/-- how far a name is reached by a gap -/
def rcG (n o x j : Nat) : Prop := nfst o j = nfst n j ∨ nfst x j = nfst n j
def isG (n o x k : Nat) : Prop := k + 1 ≤ cnt n ∧ (k = 0 ∨ rcG n o x k) ∧ ∀ j, k < j → j + 1 ≤ cnt n → ¬ rcG n o x j
theorem isG_one {n o x a b : Nat} (h : isG n o x a) (g : isG n o x b) : a = b := by
  rcases Nat.lt_trichotomy a b with c | c | c
  · exact absurd (g.2.1.resolve_left (by omega)) (h.2.2 b c g.1)
  · exact c
  · exact absurd (h.2.1.resolve_left (by omega)) (g.2.2 a c h.1)
theorem c_longerS {d n k : Nat} {w : gW} (hn : vn n) (hk : k ≤ cnt n) (h4 : k < 4) : gTM (d + 2) 32 [.long (lN (nfst n k)), .int 1] w (fun r u => u = w ∧ r = some (.long (lN (nlon (nfst n k) 1)))) := by
  refine gTM.use (c_longer (x := 1) (nfst_wf hn.1 (by omega)) (by decide)) (Nat.le_refl _) (fun r u h => ?_)
  rw [if_pos (by rw [cnt_fk hn hk]; exact h4)] at h
  exact h
theorem c_starBy {d nm : Nat} {I X : Nat → Nat → Int32} {J : Nat → Nat → Int64} {Y : Nat → Int64} {P : Nat → Nat} {t : zT} {D : zK} {ck pk : Int32} {l : List zI} (hz : zOK t) (hS : kS t D ck pk l I J P) {i : Nat} (hin : i < l.length) (hn : vn nm) (hn0 : ¬ nm = 0) (hnm : J 145 3 = lN nm) : gTM (d + 3) 109 [.ref 167, .ref (P i)] (gST (kM I X) (m1 J 28 Y) P) (fun r u => u = (gST (kM I X) (m1 J 28 Y) P) ∧ ∃ k, isG nm (ig l i).2.2.1 (ig l i).2.2.2.1 k ∧ r = some (.long (lN (nlon (nfst nm k) 1)))) := by
  obtain ⟨hT, hD, hck, hpk, hcn, hit, h10, hok⟩ := hS
  have h4 := hz.2.1
  obtain ⟨hrr, hb, hI⟩ := hit i hin
  have hbb : 147 ≤ P i ∧ P i ≤ 166 := by omega
  have hbb1 : 147 ≤ P i + 1 ∧ P i + 1 ≤ 166 := by omega
  have hq := hok _ (ig_mem hin)
  have c4 := cnt_le nm
  have c1 := cnt_pos hn hn0
  have loop : ∀ k, k + 1 ≤ cnt nm → (∀ j, k < j → j + 1 ≤ cnt nm → ¬ rcG nm (ig l i).2.2.1 (ig l i).2.2.2.1 j) → gT (d + 3) 109 13 [(2, .int (nI k)), (0, .ref 167), (1, .ref (P i))] [] (0, 0) (gST (kM I X) (m1 J 28 Y) P) (fun r u => u = (gST (kM I X) (m1 J 28 Y) P) ∧ ∃ k, isG nm (ig l i).2.2.1 (ig l i).2.2.2.1 k ∧ r = some (.long (lN (nlon (nfst nm k) 1)))) := by
    intro k
    induction k using Nat.strongRecOn with
    | ind k ih =>
    intro hk1 hno
    refine gT_n 2 ?_
    refine pk_le k 0 (fun κ1 => ?_) (fun κ1 => ?_) (rfl) (rfl) (by omega) (by omega)
    · refine gT_n 5 ?_
      refine ⟨rfl, rfl, rfl, gTM.useA (c_first (k := k) hn.lt (by omega)) (Nat.le_refl _) (aL (hnm) (aI (rfl) (rfl))) (fun r u hq => ?_)⟩
      obtain ⟨rfl, rfl⟩ := hq  -- X3_first[lN nm, nI k]
      refine gT_n 2 ?_
      refine ⟨rfl, gTM.use (c_longerS hn (by omega) (by omega)) (Nat.le_refl _) (fun r u hq => ?_)⟩
      obtain ⟨rfl, rfl⟩ := hq  -- X3_longer[lN ((nfst nm k)), K1]
      refine gT_n 1 ?_
      refine ⟨rfl, ?_⟩
      exact ⟨rfl, k, ⟨by omega, Or.inl (by omega), hno⟩, rfl⟩
    · refine gT_n 5 ?_
      refine ⟨rfl, rfl, rfl, gTM.useA (c_first (k := k) hn.lt (by omega)) (Nat.le_refl _) (aL (hnm) (aI (rfl) (rfl))) (fun r u hq => ?_)⟩
      obtain ⟨rfl, rfl⟩ := hq  -- X3_first[lN nm, nI k]
      refine gT_n 3 ?_
      refine ⟨rfl, ?_⟩
      refine gT_n 4 ?_
      refine ⟨hb.ob, rfl, gTM.useA (c_first (k := k) hq.2.1.lt (by omega)) (Nat.le_refl _) (aL ((Eq.trans (mJ_r hbb) (hI.2.1.1))) (aI (rfl) (rfl))) (fun r u hq => ?_)⟩
      obtain ⟨rfl, rfl⟩ := hq  -- X3_first[lN ((ig l i).2.2.1), nI k]
      refine gT_n 3 ?_
      refine pl_eq ((nfst ((ig l i).2.2.1) k)) ((nfst nm k)) (fun κ2 => ?_) (fun κ2 => ?_) (rfl) (rfl) (Nat.lt_of_le_of_lt (nfst_le _ _) hq.2.1.lt) (Nat.lt_of_le_of_lt (nfst_le _ _) hn.lt)
      · refine gT_n 3 ?_
        refine ⟨(Or.inr rfl), ?_⟩
        show gT _ 109 33 _ _ _ _ _
        refine gT_n 1 ?_
        refine ⟨fun _ => ?_, fun c => absurd c (by decide)⟩
        refine gT_n 5 ?_
        refine ⟨rfl, rfl, rfl, gTM.useA (c_first (k := k) hn.lt (by omega)) (Nat.le_refl _) (aL (hnm) (aI (rfl) (rfl))) (fun r u hq => ?_)⟩
        obtain ⟨rfl, rfl⟩ := hq  -- X3_first[lN nm, nI k]
        refine gT_n 2 ?_
        refine ⟨rfl, gTM.use (c_longerS hn (by omega) (by omega)) (Nat.le_refl _) (fun r u hq => ?_)⟩
        obtain ⟨rfl, rfl⟩ := hq  -- X3_longer[lN ((nfst nm k)), K1]
        refine gT_n 1 ?_
        refine ⟨rfl, ?_⟩
        exact ⟨rfl, k, ⟨by omega, Or.inr (by first | exact Or.inl κ2 | exact Or.inr κ2), hno⟩, rfl⟩
      · refine gT_n 4 ?_
        refine ⟨hb.ob, rfl, gTM.useA (c_first (k := k) hq.2.2.1.lt (by omega)) (Nat.le_refl _) (aL ((Eq.trans (mJ_r hbb) (hI.2.1.2))) (aI (rfl) (rfl))) (fun r u hq => ?_)⟩
        obtain ⟨rfl, rfl⟩ := hq  -- X3_first[lN ((ig l i).2.2.2.1), nI k]
        refine gT_n 3 ?_
        refine pl_ne ((nfst ((ig l i).2.2.2.1) k)) ((nfst nm k)) (fun κ3 => ?_) (fun κ3 => ?_) (rfl) (rfl) (Nat.lt_of_le_of_lt (nfst_le _ _) hq.2.2.1.lt) (Nat.lt_of_le_of_lt (nfst_le _ _) hn.lt)
        · refine gT_n 2 ?_
          refine ⟨(Or.inl rfl), ?_⟩
          show gT _ 109 33 _ _ _ _ _
          refine gT_n 1 ?_
          refine ⟨fun c => absurd (by decide) c, fun _ => ?_⟩
          refine gT_n 2 ?_
          have e := ih (k - 1) (by omega) (by omega) (fun j h1 h2 => by
            rcases Nat.lt_or_ge k j with g | g
            · exact hno j g h2
            · obtain rfl : j = k := by omega
              intro c
              rcases c with c | c <;> exact absurd c (by assumption))
          rw [← pk_d1 (by omega)] at e
          exact gT_k e ⟨rfl, rfl, rfl, trivial⟩ rfl
        · refine gT_n 3 ?_
          refine ⟨(Or.inr rfl), ?_⟩
          show gT _ 109 33 _ _ _ _ _
          refine gT_n 1 ?_
          refine ⟨fun _ => ?_, fun c => absurd c (by decide)⟩
          refine gT_n 5 ?_
          refine ⟨rfl, rfl, rfl, gTM.useA (c_first (k := k) hn.lt (by omega)) (Nat.le_refl _) (aL (hnm) (aI (rfl) (rfl))) (fun r u hq => ?_)⟩
          obtain ⟨rfl, rfl⟩ := hq  -- X3_first[lN nm, nI k]
          refine gT_n 2 ?_
          refine ⟨rfl, gTM.use (c_longerS hn (by omega) (by omega)) (Nat.le_refl _) (fun r u hq => ?_)⟩
          obtain ⟨rfl, rfl⟩ := hq  -- X3_longer[lN ((nfst nm k)), K1]
          refine gT_n 1 ?_
          refine ⟨rfl, ?_⟩
          exact ⟨rfl, k, ⟨by omega, Or.inr (by first | exact Or.inl κ3 | exact Or.inr κ3), hno⟩, rfl⟩
  refine gT_n 4 ?_
  refine ⟨rfl, rfl, rfl, gTM.useA (c_count hn.lt) (Nat.le_refl _) (aL (hnm) (rfl)) (fun r u hq => ?_)⟩
  obtain ⟨rfl, rfl⟩ := hq  -- X3_count[lN nm]
  refine gT_n 3 ?_
  refine gT_k (L := [(2, .int (nI (((cnt nm)) - 1))), (0, .ref 167), (1, .ref (P i))]) ?_ ⟨(viI (pk_subE (n := ((cnt nm))) (k := 1) (rfl) (rfl) (by omega))), rfl, rfl, trivial⟩ rfl
  exact gT_k (loop (cnt nm - 1) (by omega) (fun j h1 h2 => absurd h1 (by omega))) ⟨rfl, rfl, rfl, trivial⟩ rfl
def fSh (t : zT) (l : List zI) (kn : Int32 → Prop) (pz nm so : Nat) (x v : Int32) : Prop :=
  ∃ r1, isF l (recP pz so kn nm) r1 ∧ pif (r1 = none)
    (pif ((∃ i, i < l.length ∧ woP pz so kn nm (ig l i)) ∨ (∃ i, i < l.length ∧ ltP (t.2.1 pz) pz kn nm (ig l i))) (x = 1 ∧ v = -4)
      (∃ r2, isF l (cvP (t.2.1 pz) pz kn nm) r2 ∧ pif (r2 = none) (x = -23 ∧ v = -4)
        (∃ g k r3, r2 = some g ∧ isG nm (ig l g).2.2.1 (ig l g).2.2.2.1 k ∧ isF l (recP pz so kn (nlon (nfst nm k) 1)) r3 ∧ pif (r3 = none)
          (pif (∃ i, i < l.length ∧ woP pz so kn (nlon (nfst nm k) 1) (ig l i)) (x = 3 ∧ v = -4)
            (∃ r4, isF l (cvP (t.2.1 pz) pz kn (nlon (nfst nm k) 1)) r4 ∧ pif (r4 = none) (x = -24 ∧ v = -4) (x = 4 ∧ v = -4)))
          (∃ i, r3 = some i ∧ x = 2 ∧ v = (ig l i).2.2.2.2.2.1.1))))
    (∃ i, r1 = some i ∧ x = 0 ∧ v = (ig l i).2.2.2.2.2.1.1)
theorem upv {X : Nat → Nat → Int32} {v : Int32} (h : X 167 1 = v) : X = gupI X 167 1 v := by
  funext a
  by_cases e : a = 167
  · subst e
    rw [gupI_b, ← h]; exact upd_self.symm
  · rw [gupI_n e]
theorem c_conclude {d : Nat} {I X : Nat → Nat → Int32} {J : Nat → Nat → Int64} {Y : Nat → Int64} {P : Nat → Nat} {t : zT} {D : zK} {ck pk : Int32} {l : List zI} (hz : zOK t) (hS : kS t D ck pk l I J P) {kn : Int32 → Prop} {so pz nm : Nat} (hk : kro (X 169) kn) (hgn : genF X l) (h3 : so < 3) (hpz : pz < t.1) (hso : I 145 4 = nI so) (hz5 : I 145 5 = nI pz) (hn : vn nm) (hnm : J 145 3 = lN nm) (hv : X 167 1 = -4) : gTM (d + 4) 103 [.ref 167] (gST (kM I X) (m1 J 28 Y) P) (fun r u => ∃ x v X', u = gST (kM I X') (m1 J 28 Y) P ∧ r = some (.int x) ∧ fSh t l kn pz nm so x v ∧ X' = gupI X 167 1 v) := by
  have hS0 := hS
  obtain ⟨hT, hD, hck, hpk, hcn, hit, h10, hok⟩ := hS
  have h4 := hz.2.1
  refine gT_n 5 ?_
  refine ⟨rfl, rfl, rfl, rfl, gTM.useA (c_findRec hz hS0 hk hgn h3 hpz hso hz5 hn (nm := nm)) (Nat.le_refl _) (aR (aL (hnm) (rfl))) (fun r u hq => ?_)⟩
  obtain ⟨i, hr1, rfl, X1, rfl, rfl⟩ | ⟨hr1, rfl, rfl⟩ := hq  -- X9_findRecord[R167, lN nm]
  · refine gT_n 1 ?_
    refine ⟨fun c => absurd c (by decide), fun _ => ?_⟩
    refine gT_n 2 ?_
    exact ⟨0, _, _, rfl, rfl, ⟨some i, hr1, (pif_neg (by simp)).mpr ⟨i, rfl, rfl, rfl⟩⟩, rfl⟩
  · refine gT_n 1 ?_
    refine ⟨fun _ => ?_, fun c => absurd (by decide) c⟩
    refine gT_n 5 ?_
    refine ⟨rfl, rfl, rfl, rfl, gTM.useA (c_findWo hz hS0 hk hgn h3 hpz hso hz5 hn (nm := nm)) (Nat.le_refl _) (aR (aL (hnm) (rfl))) (fun r u hq => ?_)⟩
    obtain ⟨rfl, ⟨rfl, β1⟩ | ⟨rfl, β1⟩⟩ := hq  -- X9_findLinkWithout[R167, lN nm]
    · refine gT_n 1 ?_
      refine ⟨fun _ => ?_, fun c => absurd c (by decide)⟩
      refine gT_n 2 ?_
      exact ⟨1, -4, X, rfl, rfl, ⟨none, hr1, (pif_pos rfl).mpr ((pif_pos (Or.inl β1)).mpr ⟨rfl, rfl⟩)⟩, upv hv⟩
    · refine gT_n 1 ?_
      refine ⟨fun c => absurd (by decide) c, fun _ => ?_⟩
      refine gT_n 5 ?_
      refine ⟨rfl, rfl, rfl, rfl, gTM.useA (c_findTo hz hS0 hk hgn h3 hpz hso hz5 hn (nm := nm)) (Nat.le_refl _) (aR (aL (hnm) (rfl))) (fun r u hq => ?_)⟩
      obtain ⟨rfl, ⟨rfl, β2⟩ | ⟨rfl, β2⟩⟩ := hq  -- X9_findLinkTo[R167, lN nm]
      · refine gT_n 1 ?_
        refine ⟨fun c => absurd c (by decide), fun _ => ?_⟩
        refine gT_n 2 ?_
        exact ⟨1, -4, X, rfl, rfl, ⟨none, hr1, (pif_pos rfl).mpr ((pif_pos (Or.inr β2)).mpr ⟨rfl, rfl⟩)⟩, upv hv⟩
      · refine gT_n 1 ?_
        refine ⟨fun _ => ?_, fun c => absurd (by decide) c⟩
        refine gT_n 5 ?_
        refine ⟨rfl, rfl, rfl, rfl, gTM.useA (c_findCov hz hS0 hk hgn h3 hpz hso hz5 hn (nm := nm)) (Nat.le_refl _) (aR (aL (hnm) (rfl))) (fun r u hq => ?_)⟩
        obtain ⟨rfl, ⟨g, ⟨hg1, hg2⟩, rfl⟩ | ⟨hr2, rfl⟩⟩ := hq  -- X9_findCover[R167, lN nm]
        · refine gT_n 3 ?_
          refine ⟨fun _ => ?_, fun c => absurd (nI_pos' (by omega)) c⟩
          refine gT_n 6 ?_
          refine ⟨rfl, rfl, rfl, (pk_in g 10 (by omega) (rfl)), ?_⟩
          refine gT_top (aa_ref (b := P g) (rfl) (by omega) rfl) ?_
          refine gT_n 1 ?_
          refine ⟨rfl, rfl, gTM.use (c_starBy hz hS0 hg1 hn (fun e => by have := hg2.1.1.1; omega) hnm) (Nat.le_refl _) (fun r u hq => ?_)⟩
          obtain ⟨rfl, k, hg, rfl⟩ := hq  -- X9_starBy[R167, Rb]
          have hst : vn (nlon (nfst nm k) 1) := vn_lon (vn_fst hn (by have := hg.1; have := cnt_le nm; omega)) (by rw [cnt_fk hn (by have := hg.1; omega)]; have := hg.1; have := cnt_le nm; omega) (Or.inl (by decide)) (by decide)
          refine gT_n 4 ?_
          refine ⟨rfl, rfl, gTM.use (c_findRec hz hS0 hk hgn h3 hpz hso hz5 hst (nm := nm)) (Nat.le_refl _) (fun r u hq => ?_)⟩
          obtain ⟨i, hr3, rfl, X1, rfl, rfl⟩ | ⟨hr3, rfl, rfl⟩ := hq  -- X9_findRecord[R167, lN ((nlon (nfst nm k) 1))]
          · refine gT_n 1 ?_
            refine ⟨fun c => absurd c (by decide), fun _ => ?_⟩
            refine gT_n 2 ?_
            exact ⟨2, _, _, rfl, rfl, ⟨none, hr1, (pif_pos rfl).mpr ((pif_neg (fun c => Or.elim c β1 β2)).mpr (⟨some g, ⟨hg1, hg2⟩, (pif_neg (by simp)).mpr ⟨g, k, some i, rfl, hg, hr3, (pif_neg (by simp)).mpr ⟨i, rfl, rfl, rfl⟩⟩⟩))⟩, rfl⟩
          · refine gT_n 1 ?_
            refine ⟨fun _ => ?_, fun c => absurd (by decide) c⟩
            refine gT_n 3 ?_
            refine ⟨rfl, rfl, gTM.use (c_findWo hz hS0 hk hgn h3 hpz hso hz5 hst (nm := nm)) (Nat.le_refl _) (fun r u hq => ?_)⟩
            obtain ⟨rfl, ⟨rfl, β3⟩ | ⟨rfl, β3⟩⟩ := hq  -- X9_findLinkWithout[R167, lN ((nlon (nfst nm k) 1))]
            · refine gT_n 1 ?_
              refine ⟨fun c => absurd c (by decide), fun _ => ?_⟩
              refine gT_n 2 ?_
              exact ⟨3, -4, X, rfl, rfl, ⟨none, hr1, (pif_pos rfl).mpr ((pif_neg (fun c => Or.elim c β1 β2)).mpr (⟨some g, ⟨hg1, hg2⟩, (pif_neg (by simp)).mpr ⟨g, k, none, rfl, hg, hr3, (pif_pos rfl).mpr ((pif_pos β3).mpr ⟨rfl, rfl⟩)⟩⟩))⟩, upv hv⟩
            · refine gT_n 1 ?_
              refine ⟨fun _ => ?_, fun c => absurd (by decide) c⟩
              refine gT_n 3 ?_
              refine ⟨rfl, rfl, gTM.use (c_findCov hz hS0 hk hgn h3 hpz hso hz5 hst (nm := nm)) (Nat.le_refl _) (fun r u hq => ?_)⟩
              obtain ⟨rfl, ⟨g4, hr4, rfl⟩ | ⟨hr4, rfl⟩⟩ := hq  -- X9_findCover[R167, lN ((nlon (nfst nm k) 1))]
              · refine gT_n 1 ?_
                refine ⟨fun c => absurd c (nI_pos (by have := hr4.1; omega)), fun _ => ?_⟩
                refine gT_n 3 ?_
                exact ⟨4, -4, X, rfl, rfl, ⟨none, hr1, (pif_pos rfl).mpr ((pif_neg (fun c => Or.elim c β1 β2)).mpr (⟨some g, ⟨hg1, hg2⟩, (pif_neg (by simp)).mpr ⟨g, k, none, rfl, hg, hr3, (pif_pos rfl).mpr ((pif_neg β3).mpr ⟨some g4, hr4, (pif_neg (by simp)).mpr ⟨rfl, rfl⟩⟩)⟩⟩))⟩, upv hv⟩
              · refine gT_n 1 ?_
                refine ⟨fun _ => ?_, fun c => absurd (by decide) c⟩
                refine gT_n 2 ?_
                refine ⟨rfl, ?_⟩
                refine gT_n 4 ?_
                show gT _ 103 117 _ _ _ _ _
                refine gT_n 1 ?_
                exact ⟨-24, -4, X, rfl, rfl, ⟨none, hr1, (pif_pos rfl).mpr ((pif_neg (fun c => Or.elim c β1 β2)).mpr (⟨some g, ⟨hg1, hg2⟩, (pif_neg (by simp)).mpr ⟨g, k, none, rfl, hg, hr3, (pif_pos rfl).mpr ((pif_neg β3).mpr ⟨none, hr4, (pif_pos rfl).mpr ⟨rfl, rfl⟩⟩)⟩⟩))⟩, upv hv⟩
        · refine gT_n 3 ?_
          refine ⟨fun c => absurd c (by decide), fun _ => ?_⟩
          refine gT_n 2 ?_
          refine ⟨rfl, ?_⟩
          refine gT_n 4 ?_
          show gT _ 103 66 _ _ _ _ _
          refine gT_n 1 ?_
          exact ⟨-23, -4, X, rfl, rfl, ⟨none, hr1, (pif_pos rfl).mpr ((pif_neg (fun c => Or.elim c β1 β2)).mpr (⟨none, hr2, (pif_pos rfl).mpr ⟨rfl, rfl⟩⟩))⟩, upv hv⟩
