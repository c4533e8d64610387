/-! closest names, stars, covers -/
theorem zof_own {t : zT} {n k : Nat} (hz : zOK t) (hn : vn n) (hk : cnt (t.2.1 (zof t n)) ≤ k) (hk2 : k ≤ cnt n) : zof t (nfst n k) = zof t n := zof_mid hz hn hk hk2
theorem m_closestOf {d z n : Nat} {t : zT} {lm : zR} {I : Nat → Nat → Int32} {J : Nat → Nat → Int64} {P : Nat → Nat} (hz : zOK t) (hT : mT (I 171 2) (J 172) (I 173) t) (hr : rOK lm) (hR : mR (I 171 7) (J 174) (I 175) (I 176) lm) (hzz : z < t.1) {os : zO} (hos : oIs os (fG t lm z)) (hn : vn n) (hzn : zof t n = z) : gTM (d + 10) 177 [.ref 171, .int (nI z), .long (lN (mo n))] (gST I J P) (fun x u => u = gST I J P ∧ ∃ k, isC os n k ∧ x = some (.long (lN (mo (nfst n k))))) := by
  have h4 := hz.2.1
  have hz1 := hz.1
  have hrq := hr.o
  have h24 := hr.1
  obtain ⟨o0, e0⟩ := own_0 hz hr hos
  have hc4 := cnt_le n
  have hap : rch os n (cnt (t.2.1 z)) := by
    subst hzn
    exact rch_apex hz hr hn hos
  have loop : ∀ k, cnt (t.2.1 z) ≤ k → k ≤ cnt n → (∀ j, k < j → j ≤ cnt n → ¬ rch os n j) → gT (d + 10) 177 6 [(4, .int (nI k)), (0, .ref 171), (1, .int (nI z)), (2, .long (lN (mo n)))] [] (0, 0) (gST I J P) (fun x u => u = gST I J P ∧ ∃ k, isC os n k ∧ x = some (.long (lN (mo (nfst n k))))) := by
    refine loopD (fun k ih hk1 hk2 hup => ?_)
    have hv : vn (nfst n k) := vn_fst hn (by omega)
    have hzk : zof t (nfst n k) = z := by
      subst hzn
      exact zof_mid hz hn hk1 hk2
    have hR2 : (0 < fG t lm z (nfst n k) ∨ (zof t (nfst n k) = z ∧ ∃ i, i < os.length ∧ nab (nfst n k) (og os i).1)) ↔ rch os n k := by
      rw [rch_at hn hk2, ← thr_rch hos hv]
      exact ⟨fun w => w.elim Or.inl (fun w => Or.inr w.2), fun w => w.elim Or.inl (fun w => Or.inr ⟨hzk, w⟩)⟩
    refine gT_n 2 ?_
    refine pk_le k 0 (fun κ1 => ?_) (fun κ1 => ?_) (rfl) (rfl) (by omega) (by omega)
    · refine gT_n 3 ?_
      refine ⟨rfl, gTM.use (n_firstOf hn.lt (by omega)) (Nat.le_refl _) (fun r u hq => ?_)⟩
      obtain ⟨rfl, rfl⟩ := hq  -- X12_firstOf[lN n, nI k]
      refine gT_n 1 ?_
      refine ⟨rfl, ?_⟩
      exact ⟨rfl, k, ⟨hk2, Or.inl (by omega), hup⟩, rfl⟩
    · refine gT_n 5 ?_
      refine ⟨rfl, gTM.use (n_firstOf hn.lt (by omega)) (Nat.le_refl _) (fun r u hq => ?_)⟩
      obtain ⟨rfl, rfl⟩ := hq  -- X12_firstOf[lN n, nI k]
      refine gT_n 1 ?_
      refine ⟨rfl, rfl, gTM.use (m_isThere hz hT hr hR hzz hos hv) (Nat.le_refl _) (fun r u hq => ?_)⟩
      obtain ⟨rfl, ⟨rfl, β2⟩ | ⟨rfl, β2⟩⟩ := hq  -- X12_isThere[R171, nI z, lN ((nfst n k))]
      · refine gT_n 1 ?_
        refine ⟨fun _ => ?_, fun c => absurd c (by decide)⟩
        refine gT_n 3 ?_
        refine ⟨rfl, gTM.use (n_firstOf hn.lt (by omega)) (Nat.le_refl _) (fun r u hq => ?_)⟩
        obtain ⟨rfl, rfl⟩ := hq  -- X12_firstOf[lN n, nI k]
        refine gT_n 1 ?_
        refine ⟨rfl, ?_⟩
        exact ⟨rfl, k, ⟨hk2, Or.inr (hR2.mp β2), hup⟩, rfl⟩
      · refine gT_n 1 ?_
        refine ⟨fun c => absurd (by decide) c, fun _ => ?_⟩
        refine gT_n 2 ?_
        have hkz : ¬ k = cnt (t.2.1 z) := fun g => β2 (hR2.mpr (by rw [g]; exact hap))
        exact gT_k (ih (k - 1) (by omega) (by omega) (by omega) (fun j h1 h2 => by
          by_cases g : j = k
          · rw [g]; exact fun w => β2 (hR2.mpr w)
          · exact hup j (by omega) h2)) ⟨viI (pk_d1 (by omega)).symm.symm, rfl, rfl, rfl, trivial⟩ rfl
  refine gT_n 2 ?_
  refine ⟨rfl, gTM.use (n_labelsOf (n := n)) (Nat.le_refl _) (fun r u hq => ?_)⟩
  obtain ⟨rfl, rfl⟩ := hq  -- X12_labelsOf[lN n]
  refine gT_n 1 ?_
  exact loop (cnt n) (by
    have := congrArg cnt (zof_pre hz hn.lt)
    rw [hzn, nfst_cnt hn.1 (cnt_le _)] at this
    omega) (Nat.le_refl _) (fun j h1 h2 => absurd h1 (by omega))
theorem cnt_fk {n k : Nat} (hn : vn n) (h : k ≤ cnt n) : cnt (nfst n k) = k := by
  have := cnt_le n
  rw [nfst_cnt hn.1 (by omega)]; omega
theorem m_starOf {d z n : Nat} {t : zT} {lm : zR} {I : Nat → Nat → Int32} {J : Nat → Nat → Int64} {P : Nat → Nat} (hz : zOK t) (hT : mT (I 171 2) (J 172) (I 173) t) (hr : rOK lm) (hR : mR (I 171 7) (J 174) (I 175) (I 176) lm) (hzz : z < t.1) {os : zO} (hos : oIs os (fG t lm z)) (hn : vn n) (hzn : zof t n = z) (hlt : ∀ k, isC os n k → k < 4) : gTM (d + 11) 211 [.ref 171, .int (nI z), .long (lN (mo n))] (gST I J P) (fun x u => u = gST I J P ∧ ∃ k, isC os n k ∧ x = some (.long (lN (mo (nlon (nfst n k) 1))))) := by
  refine gT_n 4 ?_
  refine ⟨rfl, rfl, gTM.use (m_closestOf hz hT hr hR hzz hos hn hzn) (Nat.le_refl _) (fun r u hq => ?_)⟩
  obtain ⟨rfl, k, hC, rfl⟩ := hq  -- X12_closestOf[R171, nI z, lN n]
  refine gT_n 2 ?_
  refine ⟨rfl, gTM.use (n_withLabel (x := 1) (nfst_wf hn.1 (Nat.le_of_lt (hlt k hC))) (by rw [cnt_fk hn hC.1]; exact hlt k hC) (by decide)) (Nat.le_refl _) (fun r u hq => ?_)⟩
  obtain ⟨rfl, rfl⟩ := hq  -- X12_withLabel[lN ((nfst n k)), K1]
  refine gT_n 1 ?_
  refine ⟨rfl, ?_⟩
  exact ⟨rfl, k, hC, rfl⟩
theorem m_covering {d z n : Nat} {t : zT} {lm : zR} {I : Nat → Nat → Int32} {J : Nat → Nat → Int64} {P : Nat → Nat} (hz : zOK t) (hT : mT (I 171 2) (J 172) (I 173) t) (hr : rOK lm) (hR : mR (I 171 7) (J 174) (I 175) (I 176) lm) (hzz : z < t.1) {os : zO} (hos : oIs os (fG t lm z)) (hn : vn n) (h0 : t.2.1 z < n) : gTM (d + 7) 226 [.ref 171, .int (nI z), .long (lN (mo n))] (gST I J P) (fun x u => u = gST I J P ∧ ∃ k, k < os.length ∧ isA os n (k + 1) ∧ x = some (.long (lN (mo (og os k).1)))) := by
  have h4 := hz.2.1
  have hz1 := hz.1
  have hrq := hr.o
  have h24 := hr.1
  obtain ⟨o0, e0⟩ := own_0 hz hr hos
  have loop : ∀ k, k ≤ os.length → k < os.length → (og os k).1 < n → gT (d + 7) 226 17 [(6, .long (olm (oat os (k + 1)))), (4, .long (lN (mo (og os k).1))), (0, .ref 171), (1, .int (nI z)), (2, .long (lN (mo n)))] [] (0, 0) (gST I J P) (fun x u => u = gST I J P ∧ ∃ k, k < os.length ∧ isA os n (k + 1) ∧ x = some (.long (lN (mo (og os k).1)))) := by
    refine loopU os.length (fun k _ ih hkl hkn => ?_)
    have hlow : ∀ i, i < k + 1 → (og os i).1 < n := fun i hi => by
      by_cases g : i = k
      · rw [g]; exact hkn
      · have := hos.1 i k (by omega) hkl; omega
    rcases Nat.lt_or_ge (k + 1) os.length with hk | hk
    · refine gT_k (L := [(6, .long (lN (mo ((og os (k + 1)).1)))), (4, .long (lN (mo ((og os k).1)))), (0, .ref 171), (1, .int (nI z)), (2, .long (lN (mo n)))]) ?_ ⟨viL (oat_y hk), rfl, rfl, rfl, rfl, trivial⟩ rfl
      refine gT_n 4 ?_
      refine pj_lt (X := (lN (mo ((og os (k + 1)).1)))) (Y := (lN 0)) (rfl) (rfl) (fun κ1 => ?_) (fun κ1 => ?_)
      · refine gT_n 2 ?_
        refine ⟨rfl, ?_⟩
        exact absurd κ1 mo_nlt
      · refine gT_n 4 ?_
        refine pm_ge ((og os (k + 1)).1) n (fun κ2 => ?_) (fun κ2 => ?_) (rfl) (rfl) ((hos.2.1 (k + 1) hk).2.2.2) (hn)
        · refine gT_n 2 ?_
          refine ⟨rfl, ?_⟩
          refine ⟨rfl, k, hkl, ⟨hkl, hlow, fun i h1 h2 => ?_⟩, rfl⟩
          by_cases g : i = k + 1
          · rw [g]; exact κ2
          · have := hos.1 (k + 1) i (by omega) h2; omega
        · refine gT_n 6 ?_
          refine ⟨rfl, rfl, gTM.use (m_beh hz hT hr hR hzz hos (i := (k + 1)) (by omega) rfl) (Nat.le_refl _) (fun r u hq => ?_)⟩
          obtain ⟨rfl, rfl⟩ := hq  -- X12_ownerBehind[R171, nI z, lN ((og os (k + 1)).1)]
          refine gT_n 2 ?_
          exact gT_k (ih (k + 1) (by omega) (by omega) hk κ2) ⟨rfl, rfl, rfl, rfl, rfl, trivial⟩ rfl
    · refine gT_k (L := [(6, .long (-4)), (4, .long (lN (mo ((og os k).1)))), (0, .ref 171), (1, .int (nI z)), (2, .long (lN (mo n)))]) ?_ ⟨viL (oat_n hk), rfl, rfl, rfl, rfl, trivial⟩ rfl
      refine gT_n 4 ?_
      refine pj_lt (X := (-4)) (Y := (lN 0)) (rfl) (rfl) (fun κ1 => ?_) (fun κ1 => ?_)
      · refine gT_n 2 ?_
        refine ⟨rfl, ?_⟩
        exact ⟨rfl, k, hkl, ⟨hkl, hlow, fun i h1 h2 => absurd h1 (by omega)⟩, rfl⟩
      · exact absurd (by decide) κ1
  refine gT_n 5 ?_
  refine ⟨rfl, rfl, (pk_in z 4 (by omega) (rfl)), ?_⟩
  refine gT_k (L := [(4, .long (lN (mo ((t.2.1 z))))), (0, .ref 171), (1, .int (nI z)), (2, .long (lN (mo n)))]) ?_ ⟨(viL (rdJ (rfl) (by omega) (hT.2.1 z (by omega)))), rfl, rfl, rfl, trivial⟩ rfl
  refine gT_n 4 ?_
  refine ⟨rfl, rfl, gTM.use (m_beh hz hT hr hR hzz hos (i := 0) (by omega) e0) (Nat.le_refl _) (fun r u hq => ?_)⟩
  obtain ⟨rfl, rfl⟩ := hq  -- X12_ownerBehind[R171, nI z, lN ((t.2.1 z))]
  refine gT_n 1 ?_
  exact gT_k (loop 0 (by omega) o0 (by omega)) ⟨rfl, viL (by rw [e0]), rfl, rfl, rfl, trivial⟩ rfl
def rcN (t : zT) (z : Nat) (l : zR) : Nat → Nat
  | 0 => 0
  | j + 1 => if zof t (rg l j).1 = z then rcN t z l j + 1 else rcN t z l j
theorem rcN_is {t : zT} {z : Nat} {l : zR} : ∀ j, j ≤ l.length → rcN t z l j = ((l.take j).filter (fun q => decide (zof t q.1 = z))).length := by
  intro j
  induction j with
  | zero => intro _; rfl
  | succ j ih =>
    intro hj
    have e : l.take (j + 1) = l.take j ++ [rg l j] := by
      rw [List.take_succ, List.getElem?_eq_getElem (by omega)]
      show _ ++ [l[j]] = _
      unfold rg
      rw [List.getD_eq_getElem?_getD, List.getElem?_eq_getElem (by omega)]; rfl
    rw [e, List.filter_append, List.length_append, ← ih (by omega)]
    show (if zof t (rg l j).1 = z then rcN t z l j + 1 else rcN t z l j) = _
    by_cases c : zof t (rg l j).1 = z
    · rw [if_pos c, List.filter_cons_of_pos (by simpa using c)]; rfl
    · rw [if_neg c, List.filter_cons_of_neg (by simpa using c)]; rfl
theorem rcN_perm {t : zT} {z : Nat} {l l' : zR} (h : l.Perm l') : rcN t z l l.length = rcN t z l' l'.length := by
  rw [rcN_is _ (Nat.le_refl _), rcN_is _ (Nat.le_refl _), List.take_length, List.take_length]
  exact (h.filter _).length_eq
theorem m_recordsIn {d z : Nat} {t : zT} {lm : zR} {I : Nat → Nat → Int32} {J : Nat → Nat → Int64} {P : Nat → Nat} (hz : zOK t) (hT : mT (I 171 2) (J 172) (I 173) t) (hr : rOK lm) (hR : mR (I 171 7) (J 174) (I 175) (I 176) lm) (hzz : z < t.1) : gTM (d + 5) 206 [.ref 171, .int (nI z)] (gST I J P) (fun x u => u = gST I J P ∧ x = some (.int (nI (rcN t z lm lm.length)))) := by
  have h4 := hz.2.1
  have hrq := hr.o
  have h24 := hr.1
  have loop : ∀ j, j ≤ lm.length → gT (d + 5) 206 4 [(3, .int (nI j)), (2, .int (nI (rcN t z lm j))), (0, .ref 171), (1, .int (nI z))] [] (0, 0) (gST I J P) (fun x u => u = gST I J P ∧ x = some (.int (nI (rcN t z lm lm.length)))) := by
    refine loopU lm.length (fun j hj ih => ?_)
    refine gT_n 4 ?_
    refine ⟨rfl, pk_le lm.length j (fun κ1 => ?_) (fun κ1 => ?_) (hR.1) (rfl) (by omega) (by omega)⟩
    · refine gT_n 2 ?_
      exact ⟨rfl, ri (by rw [show j = lm.length by omega])⟩
    · refine gT_n 7 ?_
      refine ⟨rfl, rfl, (pk_in j 25 (by omega) (rfl)), rfl, rfl, gTM.useA (m_zoneIn hz hT (hrq j (by omega)).1) (Nat.le_refl _) (aR (aL (rdJ (rfl) (by omega) (hR.2 j (by omega)).1) (rfl))) (fun r u hq => ?_)⟩
      obtain ⟨rfl, rfl⟩ := hq  -- X12_zoneIn[R171, lN ((rg lm j).1)]
      refine gT_n 2 ?_
      refine pk_ne ((zof t (rg lm j).1)) z (fun κ2 => ?_) (fun κ2 => ?_) (rfl) (rfl) (by have := zof_lt hz (rg lm j).1; omega) (by omega)
      · refine gT_n 3 ?_
        refine gT_k (L := [(2, .int (nI ((rcN t z lm j) + 0))), (3, .int (nI j)), (0, .ref 171), (1, .int (nI z))]) ?_ ⟨(viI (pk_addE (n := (rcN t z lm j)) (k := 0) (rfl) (rfl))), rfl, rfl, rfl, trivial⟩ rfl
        refine gT_n 2 ?_
        have e := ih (j + 1) (by omega) (by omega)
        rw [show rcN t z lm (j + 1) = rcN t z lm j from if_neg κ2, ← nI_1 j] at e
        exact e
      · refine gT_n 4 ?_
        refine gT_k (L := [(2, .int (nI ((rcN t z lm j) + 1))), (3, .int (nI j)), (0, .ref 171), (1, .int (nI z))]) ?_ ⟨(viI (pk_addE (n := (rcN t z lm j)) (k := 1) (rfl) (rfl))), rfl, rfl, rfl, trivial⟩ rfl
        refine gT_n 2 ?_
        have e := ih (j + 1) (by omega) (by omega)
        rw [show rcN t z lm (j + 1) = rcN t z lm j + 1 from if_pos κ2, ← nI_1 j] at e
        exact e
  refine gT_n 4 ?_
  exact loop 0 (by omega)
theorem c_recordsIn {d z : Nat} {t : zT} {l : zR} {I : Nat → Nat → Int32} {J : Nat → Nat → Int64} {P : Nat → Nat} (hz : zOK t) (hT : cT0 (I 12 4) (J 13) (I 14) (I 15) t) (hr : rOK l) (hR : cR (I 18 3) (J 19) (I 20) (I 21) l) (hzz : z < t.1) : gTM (d + 2) 126 [.ref 0, .int (nI z)] (gST I J P) (fun x u => u = gST I J P ∧ x = some (.int (nI (rcN t z l l.length)))) := by
  have h4 := hz.2.1
  have hrq := hr.o
  have h24 := hr.1
  have loop : ∀ j, j ≤ l.length → gT (d + 2) 126 4 [(3, .int (nI j)), (2, .int (nI (rcN t z l j))), (0, .ref 0), (1, .int (nI z))] [] (0, 0) (gST I J P) (fun x u => u = gST I J P ∧ x = some (.int (nI (rcN t z l l.length)))) := by
    refine loopU l.length (fun j hj ih => ?_)
    refine gT_n 6 ?_
    refine ⟨rfl, rfl, rfl, pk_le l.length j (fun κ1 => ?_) (fun κ1 => ?_) (hR.1) (rfl) (by omega) (by omega)⟩
    · refine gT_n 2 ?_
      exact ⟨rfl, ri (by rw [show j = l.length by omega])⟩
    · refine gT_n 9 ?_
      refine ⟨rfl, rfl, rfl, rfl, rfl, (pk_in j 24 (by omega) (rfl)), rfl, rfl, gTM.useA (c_zoneOf_12 hz hT (hrq j (by omega)).1.lt) (Nat.le_refl _) (aR (aL (rdJ (rfl) (by omega) (hR.2 j (by omega)).1) (rfl))) (fun r u hq => ?_)⟩
      obtain ⟨rfl, rfl⟩ := hq  -- X8_zoneOf[R12, lN ((rg l j).1)]
      refine gT_n 2 ?_
      refine pk_ne ((zof t (rg l j).1)) z (fun κ2 => ?_) (fun κ2 => ?_) (rfl) (rfl) (by have := zof_lt hz (rg l j).1; omega) (by omega)
      · refine gT_n 2 ?_
        have e := ih (j + 1) (by omega) (by omega)
        rw [show rcN t z l (j + 1) = rcN t z l j from if_neg κ2, ← nI_1 j] at e
        exact e
      · refine gT_n 3 ?_
        have e := ih (j + 1) (by omega) (by omega)
        rw [show rcN t z l (j + 1) = rcN t z l j + 1 from if_pos κ2, ← nI_1 (rcN t z l j), ← nI_1 j] at e
        exact e
  refine gT_n 4 ?_
  exact loop 0 (by omega)
