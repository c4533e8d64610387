/-! OWNERS in the reference: counted, found -/
theorem ndU {α : Type} {a b : α} (h : a = b) : b = a := h.symm
theorem m_ownersOf {d z : Nat} {t : zT} {lm : zR} {I : Nat → Nat → Int32} {J : Nat → Nat → Int64} {P : Nat → Nat} (hz : zOK t) (hT : mT (I 171 2) (J 172) (I 173) t) (hr : rOK lm) (hR : mR (I 171 7) (J 174) (I 175) (I 176) lm) (hzz : z < t.1) {os : zO} (hos : oIs os (fG t lm z)) : gTM (d + 7) 172 [.ref 171, .int (nI z)] (gST I J P) (fun x u => u = gST I J P ∧ x = some (.int (nI os.length))) := by
  have h4 := hz.2.1
  have hz1 := hz.1
  have hrq := hr.o
  have h24 := hr.1
  obtain ⟨o0, e0⟩ := own_0 hz hr hos
  have loop : ∀ k, k ≤ os.length → 1 ≤ k → gT (d + 7) 172 14 [(3, .long (olm (oat os k))), (2, .int (nI k)), (0, .ref 171), (1, .int (nI z))] [] (0, 0) (gST I J P) (fun x u => u = gST I J P ∧ x = some (.int (nI os.length))) := by
    refine loopU os.length (fun k hkl ih hk1 => ?_)
    rcases Nat.lt_or_ge k os.length with hk | hk
    · refine gT_k (L := [(3, .long (lN (mo ((og os k).1)))), (2, .int (nI k)), (0, .ref 171), (1, .int (nI z))]) ?_ ⟨viL (oat_y hk), rfl, rfl, rfl, trivial⟩ rfl
      refine gT_n 4 ?_
      refine pj_lt (X := (lN (mo ((og os k).1)))) (Y := (lN 0)) (rfl) (rfl) (fun κ1 => ?_) (fun κ1 => ?_)
      · exact absurd κ1 mo_nlt
      · refine gT_n 5 ?_
        refine ⟨rfl, rfl, gTM.use (m_beh hz hT hr hR hzz hos (i := k) (by omega) rfl) (Nat.le_refl _) (fun r u hq => ?_)⟩
        obtain ⟨rfl, rfl⟩ := hq  -- X12_ownerBehind[R171, nI z, lN ((og os k).1)]
        refine gT_n 2 ?_
        have e := ih (k + 1) (by omega) (by omega) (by omega)
        rw [← nI_1] at e
        exact e
    · refine gT_k (L := [(3, .long (-4)), (2, .int (nI k)), (0, .ref 171), (1, .int (nI z))]) ?_ ⟨viL (oat_n hk), rfl, rfl, rfl, trivial⟩ rfl
      refine gT_n 4 ?_
      refine pj_lt (X := (-4)) (Y := (lN 0)) (rfl) (rfl) (fun κ1 => ?_) (fun κ1 => ?_)
      · refine gT_n 2 ?_
        obtain rfl : k = os.length := by omega
        exact ⟨rfl, rfl⟩
      · exact absurd (by decide) κ1
  refine gT_n 9 ?_
  refine ⟨rfl, rfl, (pk_in z 4 (by omega) (rfl)), rfl, rfl, gTM.useA (m_beh hz hT hr hR hzz hos (i := 0) (by omega) e0) (Nat.le_refl _) (aR (aI (rfl) (aL (rdJ (rfl) (by omega) (hT.2.1 z (by omega))) (rfl)))) (fun r u hq => ?_)⟩
  obtain ⟨rfl, rfl⟩ := hq  -- X12_ownerBehind[R171, nI z, lN ((t.2.1 z))]
  refine gT_n 1 ?_
  exact loop 1 (by omega) (by omega)
theorem m_ownersAhead {d z : Nat} {t : zT} {lm : zR} {I : Nat → Nat → Int32} {J : Nat → Nat → Int64} {P : Nat → Nat} (hz : zOK t) (hT : mT (I 171 2) (J 172) (I 173) t) (hr : rOK lm) (hR : mR (I 171 7) (J 174) (I 175) (I 176) lm) (hzz : z < t.1) {os : zO} (hos : oIs os (fG t lm z)) {n : Nat} (hn : vn n) : gTM (d + 7) 173 [.ref 171, .int (nI z), .long (lN (mo n))] (gST I J P) (fun x u => u = gST I J P ∧ ∃ a, isA os n a ∧ x = some (.int (nI a))) := by
  have h4 := hz.2.1
  have hz1 := hz.1
  have hrq := hr.o
  have h24 := hr.1
  obtain ⟨o0, e0⟩ := own_0 hz hr hos
  have loop : ∀ k, k ≤ os.length → (∀ i, i < k → (og os i).1 < n) → gT (d + 7) 173 11 [(5, .long (olm (oat os k))), (4, .int (nI k)), (0, .ref 171), (1, .int (nI z)), (2, .long (lN (mo n)))] [] (0, 0) (gST I J P) (fun x u => u = gST I J P ∧ ∃ a, isA os n a ∧ x = some (.int (nI a))) := by
    refine loopU os.length (fun k hkl ih hlo => ?_)
    rcases Nat.lt_or_ge k os.length with hk | hk
    · refine gT_k (L := [(5, .long (lN (mo ((og os k).1)))), (4, .int (nI k)), (0, .ref 171), (1, .int (nI z)), (2, .long (lN (mo n)))]) ?_ ⟨viL (oat_y hk), rfl, rfl, rfl, rfl, trivial⟩ rfl
      refine gT_n 4 ?_
      refine pj_lt (X := (lN (mo ((og os k).1)))) (Y := (lN 0)) (rfl) (rfl) (fun κ1 => ?_) (fun κ1 => ?_)
      · refine gT_n 2 ?_
        exact absurd κ1 mo_nlt
      · refine gT_n 4 ?_
        refine pm_ge ((og os k).1) n (fun κ2 => ?_) (fun κ2 => ?_) (rfl) (rfl) ((hos.2.1 k hk).2.2.2) (hn)
        · refine gT_n 2 ?_
          refine ⟨rfl, k, ⟨hkl, hlo, fun i h1 h2 => ?_⟩, rfl⟩
          by_cases g : i = k
          · rw [g]; exact κ2
          · have := hos.1 k i (by omega) h2; omega
        · refine gT_n 5 ?_
          refine ⟨rfl, rfl, gTM.use (m_beh hz hT hr hR hzz hos (i := k) (by omega) rfl) (Nat.le_refl _) (fun r u hq => ?_)⟩
          obtain ⟨rfl, rfl⟩ := hq  -- X12_ownerBehind[R171, nI z, lN ((og os k).1)]
          refine gT_n 2 ?_
          have e := ih (k + 1) (by omega) (by omega) (fun i hi => by
            by_cases g : i = k
            · rw [g]; exact κ2
            · exact hlo i (by omega))
          rw [← nI_1] at e
          exact e
    · refine gT_k (L := [(5, .long (-4)), (4, .int (nI k)), (0, .ref 171), (1, .int (nI z)), (2, .long (lN (mo n)))]) ?_ ⟨viL (oat_n hk), rfl, rfl, rfl, rfl, trivial⟩ rfl
      refine gT_n 4 ?_
      refine pj_lt (X := (-4)) (Y := (lN 0)) (rfl) (rfl) (fun κ1 => ?_) (fun κ1 => ?_)
      · refine gT_n 2 ?_
        exact ⟨rfl, k, ⟨hkl, hlo, fun i h1 h2 => absurd h1 (by omega)⟩, rfl⟩
      · exact absurd (by decide) κ1
  refine gT_n 7 ?_
  refine ⟨rfl, rfl, (pk_in z 4 (by omega) (rfl)), ?_⟩
  refine gT_k (L := [(5, .long (lN (mo ((t.2.1 z))))), (4, .int 0), (0, .ref 171), (1, .int (nI z)), (2, .long (lN (mo n)))]) ?_ ⟨(viL (rdJ (rfl) (by omega) (hT.2.1 z (by omega)))), rfl, rfl, rfl, rfl, trivial⟩ rfl
  exact gT_k (loop 0 (by omega) (fun i hi => absurd hi (by omega))) ⟨viL (oat_z o0 e0), rfl, rfl, rfl, rfl, trivial⟩ rfl
theorem m_ownerAt {d z : Nat} {t : zT} {lm : zR} {I : Nat → Nat → Int32} {J : Nat → Nat → Int64} {P : Nat → Nat} (hz : zOK t) (hT : mT (I 171 2) (J 172) (I 173) t) (hr : rOK lm) (hR : mR (I 171 7) (J 174) (I 175) (I 176) lm) (hzz : z < t.1) {os : zO} (hos : oIs os (fG t lm z)) {i : Nat} (hi : i < os.length) (h28 : os.length ≤ 28) : gTM (d + 7) 174 [.ref 171, .int (nI z), .int (nI i)] (gST I J P) (fun x u => u = gST I J P ∧ x = some (.long (lN (mo (og os i).1)))) := by
  have h4 := hz.2.1
  have hz1 := hz.1
  have hrq := hr.o
  have h24 := hr.1
  obtain ⟨o0, e0⟩ := own_0 hz hr hos
  have loop : ∀ k, k ≤ i → gT (d + 7) 174 10 [(5, .int (nI k)), (3, .long (lN (mo ((og os k).1)))), (0, .ref 171), (1, .int (nI z)), (2, .int (nI i))] [] (0, 0) (gST I J P) (fun x u => u = gST I J P ∧ x = some (.long (lN (mo (og os i).1)))) := by
    refine loopU i (fun k hki ih => ?_)
    refine gT_n 3 ?_
    refine pk_le i k (fun κ1 => ?_) (fun κ1 => ?_) (rfl) (rfl) (by omega) (by omega)
    · refine gT_n 2 ?_
      refine ⟨rfl, ?_⟩
      obtain rfl : k = i := by omega
      exact ⟨rfl, rfl⟩
    · refine gT_n 4 ?_
      refine pj_lt (X := (lN (mo ((og os k).1)))) (Y := (lN 0)) (rfl) (rfl) (fun κ2 => ?_) (fun κ2 => ?_)
      · refine gT_n 2 ?_
        refine ⟨rfl, ?_⟩
        exact absurd κ2 mo_nlt
      · refine gT_n 4 ?_
        refine ⟨rfl, rfl, gTM.use (m_beh hz hT hr hR hzz hos (i := k) (by omega) rfl) (Nat.le_refl _) (fun r u hq => ?_)⟩
        obtain ⟨rfl, rfl⟩ := hq  -- X12_ownerBehind[R171, nI z, lN ((og os k).1)]
        refine gT_n 3 ?_
        have e := ih (k + 1) (by omega) (by omega)
        rw [← nI_1, ← oat_y (k := k + 1) (by omega)] at e
        exact e
  refine gT_n 5 ?_
  refine ⟨rfl, rfl, (pk_in z 4 (by omega) (rfl)), ?_⟩
  refine gT_k (L := [(3, .long (lN (mo ((t.2.1 z))))), (0, .ref 171), (1, .int (nI z)), (2, .int (nI i))]) ?_ ⟨(viL (rdJ (rfl) (by omega) (hT.2.1 z (by omega)))), rfl, rfl, rfl, trivial⟩ rfl
  refine gT_n 2 ?_
  exact gT_k (loop 0 (by omega)) ⟨rfl, viL (by rw [e0]), rfl, rfl, rfl, trivial⟩ rfl
def onx (os : zO) (i : Nat) : Nat := if i + 1 < os.length then (og os (i + 1)).1 else (og os 0).1
theorem m_nextOf {d z : Nat} {t : zT} {lm : zR} {I : Nat → Nat → Int32} {J : Nat → Nat → Int64} {P : Nat → Nat} (hz : zOK t) (hT : mT (I 171 2) (J 172) (I 173) t) (hr : rOK lm) (hR : mR (I 171 7) (J 174) (I 175) (I 176) lm) (hzz : z < t.1) {os : zO} (hos : oIs os (fG t lm z)) {i : Nat} (hi : i < os.length) : gTM (d + 7) 175 [.ref 171, .int (nI z), .long (lN (mo (og os i).1))] (gST I J P) (fun x u => u = gST I J P ∧ x = some (.long (lN (mo (onx os i))))) := by
  have h4 := hz.2.1
  have hz1 := hz.1
  have hrq := hr.o
  have h24 := hr.1
  obtain ⟨o0, e0⟩ := own_0 hz hr hos
  refine gT_n 4 ?_
  refine ⟨rfl, rfl, gTM.use (m_beh hz hT hr hR hzz hos (i := i) (by omega) rfl) (Nat.le_refl _) (fun r u hq => ?_)⟩
  obtain ⟨rfl, rfl⟩ := hq  -- X12_ownerBehind[R171, nI z, lN ((og os i).1)]
  refine gT_n 1 ?_
  rcases Nat.lt_or_ge (i + 1) os.length with hk | hk
  · refine gT_k (L := [(4, .long (lN (mo ((og os (i + 1)).1)))), (0, .ref 171), (1, .int (nI z)), (2, .long (lN (mo ((og os i).1))))]) ?_ ⟨viL (oat_y hk), rfl, rfl, rfl, trivial⟩ rfl
    refine gT_n 4 ?_
    refine pj_ge (X := (lN (mo ((og os (i + 1)).1)))) (Y := (lN 0)) (rfl) (rfl) (fun κ1 => ?_) (fun κ1 => ?_)
    · refine gT_n 2 ?_
      refine ⟨rfl, ?_⟩
      exact ⟨rfl, rl (by unfold onx; rw [if_pos hk])⟩
    · refine gT_n 6 ?_
      refine ⟨rfl, rfl, (pk_in z 4 (by omega) (rfl)), rfl, ?_⟩
      exact absurd κ1 mo_nlt
  · refine gT_k (L := [(4, .long (-4)), (0, .ref 171), (1, .int (nI z)), (2, .long (lN (mo ((og os i).1))))]) ?_ ⟨viL (oat_n hk), rfl, rfl, rfl, trivial⟩ rfl
    refine gT_n 4 ?_
    refine pj_ge (X := (-4)) (Y := (lN 0)) (rfl) (rfl) (fun κ1 => ?_) (fun κ1 => ?_)
    · refine gT_n 2 ?_
      refine ⟨rfl, ?_⟩
      exact absurd (by decide) κ1
    · refine gT_n 6 ?_
      refine ⟨rfl, rfl, (pk_in z 4 (by omega) (rfl)), rfl, ?_⟩
      exact ⟨rfl, rl (by unfold onx; rw [if_neg (by omega), e0]; exact rdJ (rfl) (by omega) (hT.2.1 z (by omega)))⟩
theorem m_isOwner {d z n : Nat} {t : zT} {lm : zR} {I : Nat → Nat → Int32} {J : Nat → Nat → Int64} {P : Nat → Nat} (hz : zOK t) (hT : mT (I 171 2) (J 172) (I 173) t) (hr : rOK lm) (hR : mR (I 171 7) (J 174) (I 175) (I 176) lm) (hzz : z < t.1) (hn : vn n) (h64 : fG t lm z n < 64) : gTM (d + 8) 169 [.ref 171, .int (nI z), .long (lN (mo n))] (gST I J P) (gB (gST I J P) (0 < fG t lm z n)) := by
  refine gT_n 4 ?_
  refine ⟨rfl, rfl, gTM.use (m_sortsOf hz hT hr hR hzz hn) (Nat.le_refl _) (fun r u hq => ?_)⟩
  obtain ⟨rfl, rfl⟩ := hq  -- X12_sortsOf[R171, nI z, lN n]
  refine gT_n 1 ?_
  refine pk_eq ((fG t lm z n)) 0 (fun κ1 => ?_) (fun κ1 => ?_) (rfl) (rfl) (by omega) (by omega)
  · refine gT_n 2 ?_
    refine ⟨(Or.inl rfl), ?_⟩
    exact ⟨rfl, Or.inr ⟨rfl, by omega⟩⟩
  · refine gT_n 3 ?_
    refine ⟨(Or.inr rfl), ?_⟩
    exact ⟨rfl, Or.inl ⟨rfl, by omega⟩⟩
theorem fG_64 {t : zT} {lm : zR} {z n : Nat} (hr : rOK lm) : fG t lm z n < 64 := or_64 (or_64 abN_64 (rbN_64 hr.o _ (Nat.le_refl _))) (cbN_64 _)
theorem m_isThere {d z : Nat} {t : zT} {lm : zR} {I : Nat → Nat → Int32} {J : Nat → Nat → Int64} {P : Nat → Nat} (hz : zOK t) (hT : mT (I 171 2) (J 172) (I 173) t) (hr : rOK lm) (hR : mR (I 171 7) (J 174) (I 175) (I 176) lm) (hzz : z < t.1) {os : zO} (hos : oIs os (fG t lm z)) {n : Nat} (hn : vn n) : gTM (d + 9) 176 [.ref 171, .int (nI z), .long (lN (mo n))] (gST I J P) (gB (gST I J P) (0 < fG t lm z n ∨ (zof t n = z ∧ ∃ i, i < os.length ∧ nab n (og os i).1))) := by
  have h4 := hz.2.1
  have hz1 := hz.1
  have hrq := hr.o
  have h24 := hr.1
  obtain ⟨o0, e0⟩ := own_0 hz hr hos
  have last : ¬ 0 < fG t lm z n → (zof t n = z → ∀ i, i < os.length → ¬ nab n (og os i).1) → gT (d + 9) 176 34 [(4, .long (-4)), (0, .ref 171), (1, .int (nI z)), (2, .long (lN (mo n)))] [] (0, 0) (gST I J P) (gB (gST I J P) (0 < fG t lm z n ∨ (zof t n = z ∧ ∃ i, i < os.length ∧ nab n (og os i).1))) := by
    intro hno hfin
    refine gT_n 4 ?_
    refine pj_lt (X := (-4)) (Y := (lN 0)) (rfl) (rfl) (fun κ1 => ?_) (fun κ1 => ?_)
    · refine gT_n 4 ?_
      refine pj_lt (X := (-4)) (Y := (lN 0)) (rfl) (rfl) (fun κ2 => ?_) (fun κ2 => ?_)
      · refine gT_n 2 ?_
        refine ⟨(Or.inl rfl), ?_⟩
        exact ⟨rfl, Or.inr ⟨rfl, fun w => w.elim hno (fun ⟨w1, i, hi, w2⟩ => hfin w1 i hi w2)⟩⟩
      · exact absurd (by decide) κ2
    · exact absurd (by decide) κ1
  have loop : ¬ 0 < fG t lm z n → zof t n = z → ∀ k, k ≤ os.length → (∀ i, i < k → ¬ nab n (og os i).1) → gT (d + 9) 176 34 [(4, .long (olm (oat os k))), (0, .ref 171), (1, .int (nI z)), (2, .long (lN (mo n)))] [] (0, 0) (gST I J P) (gB (gST I J P) (0 < fG t lm z n ∨ (zof t n = z ∧ ∃ i, i < os.length ∧ nab n (og os i).1))) := by
    intro hno hzn
    refine loopU os.length (fun k hkl ih hlo => ?_)
    rcases Nat.lt_or_ge k os.length with hk | hk
    · refine gT_k (L := [(4, .long (lN (mo ((og os k).1)))), (0, .ref 171), (1, .int (nI z)), (2, .long (lN (mo n)))]) ?_ ⟨viL (oat_y hk), rfl, rfl, rfl, trivial⟩ rfl
      refine gT_n 4 ?_
      refine pj_lt (X := (lN (mo ((og os k).1)))) (Y := (lN 0)) (rfl) (rfl) (fun κ1 => ?_) (fun κ1 => ?_)
      · refine gT_n 4 ?_
        refine pj_lt (X := (lN (mo ((og os k).1)))) (Y := (lN 0)) (rfl) (rfl) (fun κ2 => ?_) (fun κ2 => ?_)
        · refine gT_n 2 ?_
          refine ⟨(Or.inl rfl), ?_⟩
          exact absurd κ1 mo_nlt
        · refine gT_n 3 ?_
          refine ⟨(Or.inr rfl), ?_⟩
          exact absurd κ1 mo_nlt
      · refine gT_n 3 ?_
        refine ⟨rfl, gTM.use (n_isAbove hn (hos.2.1 k hk).2.2.2) (Nat.le_refl _) (fun r u hq => ?_)⟩
        obtain ⟨rfl, ⟨rfl, β3⟩ | ⟨rfl, β3⟩⟩ := hq  -- X12_isAbove[lN n, lN ((og os k).1)]
        · refine gT_n 1 ?_
          refine ⟨fun _ => ?_, fun c => absurd c (by decide)⟩
          refine gT_n 4 ?_
          refine pj_lt (X := (lN (mo ((og os k).1)))) (Y := (lN 0)) (rfl) (rfl) (fun κ4 => ?_) (fun κ4 => ?_)
          · refine gT_n 2 ?_
            refine ⟨(Or.inl rfl), ?_⟩
            exact absurd κ4 mo_nlt
          · refine gT_n 3 ?_
            refine ⟨(Or.inr rfl), ?_⟩
            exact ⟨rfl, Or.inl ⟨rfl, Or.inr ⟨hzn, k, hk, β3⟩⟩⟩
        · refine gT_n 1 ?_
          refine ⟨fun c => absurd (by decide) c, fun _ => ?_⟩
          refine gT_n 4 ?_
          refine ⟨rfl, rfl, gTM.use (m_beh hz hT hr hR hzz hos (i := k) (by omega) rfl) (Nat.le_refl _) (fun r u hq => ?_)⟩
          obtain ⟨rfl, rfl⟩ := hq  -- X12_ownerBehind[R171, nI z, lN ((og os k).1)]
          refine gT_n 2 ?_
          exact ih (k + 1) (by omega) (by omega) (fun i hi => by
            by_cases g : i = k
            · rw [g]; exact β3
            · exact hlo i (by omega))
    · refine gT_k (L := [(4, .long (-4)), (0, .ref 171), (1, .int (nI z)), (2, .long (lN (mo n)))]) ?_ ⟨viL (oat_n hk), rfl, rfl, rfl, trivial⟩ rfl
      exact last hno (fun _ i hi => hlo i (by omega))
  refine gT_n 4 ?_
  refine ⟨rfl, rfl, gTM.use (m_isOwner hz hT hr hR hzz hn (fG_64 hr)) (Nat.le_refl _) (fun r u hq => ?_)⟩
  obtain ⟨rfl, ⟨rfl, β1⟩ | ⟨rfl, β1⟩⟩ := hq  -- X12_isOwner[R171, nI z, lN n]
  · refine gT_n 1 ?_
    refine ⟨fun c => absurd c (by decide), fun _ => ?_⟩
    refine gT_n 2 ?_
    refine ⟨(Or.inr rfl), ?_⟩
    exact ⟨rfl, Or.inl ⟨rfl, Or.inl β1⟩⟩
  · refine gT_n 1 ?_
    refine ⟨fun _ => ?_, fun c => absurd (by decide) c⟩
    refine gT_n 3 ?_
    refine ⟨rfl, rfl, gTM.use (m_zoneIn hz hT hn) (Nat.le_refl _) (fun r u hq => ?_)⟩
    obtain ⟨rfl, rfl⟩ := hq  -- X12_zoneIn[R171, lN n]
    refine gT_n 2 ?_
    refine pk_ne ((zof t n)) z (fun κ2 => ?_) (fun κ2 => ?_) (rfl) (rfl) (by have := zof_lt hz n; omega) (by omega)
    · refine gT_n 2 ?_
      exact gT_k (last β1 (fun w => absurd w κ2)) ⟨rfl, rfl, rfl, rfl, trivial⟩ rfl
    · refine gT_n 6 ?_
      refine ⟨rfl, rfl, (pk_in z 4 (by omega) (rfl)), ?_⟩
      refine gT_k (L := [(4, .long (lN (mo ((t.2.1 z))))), (0, .ref 171), (1, .int (nI z)), (2, .long (lN (mo n)))]) ?_ ⟨(viL (rdJ (rfl) (by omega) (hT.2.1 z (by omega)))), rfl, rfl, rfl, trivial⟩ rfl
      exact gT_k (loop β1 κ2 0 (by omega) (fun i hi => absurd hi (by omega))) ⟨viL (oat_z o0 e0), rfl, rfl, rfl, trivial⟩ rfl
