/-! closest names, stars, outcomes in the class -/
theorem c_reaches {d h k : Nat} {I : Nat → Nat → Int32} {J : Nat → Nat → Int64} {P : Nat → Nat} {l : zO} {f : Nat → Nat} (hf : oIs l f) (h28 : l.length ≤ 28) (hO : cO (I 142 2) (J 143) (I 144) l) (hh : h < 2 ^ 60) (hk : k ≤ 4) : gTM (d + 1) 45 [.ref 142, .long (lN h), .int (nI k)] (gST I J P) (gB (gST I J P) (∃ i, i < l.length ∧ nfst (og l i).1 k = h)) := by
  have loop : ∀ i, i ≤ l.length → (∀ j, j < i → ¬ nfst (og l j).1 k = h) → gT (d + 1) 45 3 [(4, .int (nI i)), (0, .ref 142), (1, .long (lN h)), (3, .int (nI k))] [] (0, 0) (gST I J P) (gB (gST I J P) (∃ i, i < l.length ∧ nfst (og l i).1 k = h)) := by
    refine loopU l.length (fun i hi ih hno => ?_)
    refine gT_n 4 ?_
    refine ⟨rfl, pk_le l.length i (fun κ1 => ?_) (fun κ1 => ?_) (hO.1) (rfl) (by omega) (by omega)⟩
    · refine gT_n 2 ?_
      refine ⟨(Or.inl rfl), ?_⟩
      exact ⟨rfl, Or.inr ⟨rfl, fun ⟨j, hj, e⟩ => hno j (by omega) e⟩⟩
    · refine gT_n 6 ?_
      refine ⟨rfl, rfl, (pk_in i 28 (by omega) (rfl)), rfl, gTM.useA (c_first ((hf.2.1 i (by omega)).2.2.2.lt) hk) (Nat.le_refl _) (aL (rdJ (rfl) (by omega) (hO.2 i (by omega)).1) (aI (rfl) (rfl))) (fun r u hq => ?_)⟩
      obtain ⟨rfl, rfl⟩ := hq  -- X3_first[lN ((og l i).1), nI k]
      refine gT_n 3 ?_
      refine pl_ne ((nfst ((og l i).1) k)) h (fun κ2 => ?_) (fun κ2 => ?_) (rfl) (rfl) (nfst_lt ((hf.2.1 i (by omega)).2.2.2.lt) _) (hh)
      · refine gT_n 2 ?_
        have e := ih (i + 1) (by omega) (by omega) (fun j hj => by
          by_cases g : j = i
          · rw [g]; exact κ2
          · exact hno j (by omega))
        rw [← nI_1] at e
        exact e
      · refine gT_n 2 ?_
        refine ⟨(Or.inr rfl), ?_⟩
        exact ⟨rfl, Or.inl ⟨rfl, i, by omega, κ2⟩⟩
  refine gT_n 2 ?_
  exact loop 0 (by omega) (fun j hj => absurd hj (by omega))
theorem c_closest {d n : Nat} {I : Nat → Nat → Int32} {J : Nat → Nat → Int64} {P : Nat → Nat} {l : zO} {f : Nat → Nat} (hf : oIs l f) (h28 : l.length ≤ 28) (hO : cO (I 142 2) (J 143) (I 144) l) (hn : vn n) : gTM (d + 2) 44 [.ref 142, .long (lN n)] (gST I J P) (fun x u => u = gST I J P ∧ ∃ k, isC l n k ∧ x = some (.int (nI k))) := by
  have hc4 := cnt_le n
  have loop : ∀ k, k ≤ cnt n → (∀ j, k < j → j ≤ cnt n → ¬ rch l n j) → gT (d + 2) 44 5 [(3, .int (nI k)), (0, .ref 142), (1, .long (lN n))] [] (0, 0) (gST I J P) (fun x u => u = gST I J P ∧ ∃ k, isC l n k ∧ x = some (.int (nI k))) := by
    refine loopD (fun k ih hk2 hup => ?_)
    refine gT_n 2 ?_
    refine pk_le k 0 (fun κ1 => ?_) (fun κ1 => ?_) (rfl) (rfl) (by omega) (by omega)
    · refine gT_n 2 ?_
      exact ⟨rfl, k, ⟨hk2, Or.inl (by omega), hup⟩, rfl⟩
    · refine gT_n 4 ?_
      refine ⟨rfl, gTM.use (c_first hn.lt (by omega)) (Nat.le_refl _) (fun r u hq => ?_)⟩
      obtain ⟨rfl, rfl⟩ := hq  -- X3_first[lN n, nI k]
      refine gT_n 2 ?_
      refine ⟨rfl, rfl, gTM.use (c_reaches hf h28 hO (nfst_lt hn.lt _) (by omega)) (Nat.le_refl _) (fun r u hq => ?_)⟩
      obtain ⟨rfl, ⟨rfl, β2⟩ | ⟨rfl, β2⟩⟩ := hq  -- X4_reaches[R142, lN ((nfst n k)), nI k]
      · refine gT_n 1 ?_
        refine ⟨fun _ => ?_, fun c => absurd c (by decide)⟩
        refine gT_n 2 ?_
        exact ⟨rfl, k, ⟨hk2, Or.inr β2, hup⟩, rfl⟩
      · refine gT_n 1 ?_
        refine ⟨fun c => absurd (by decide) c, fun _ => ?_⟩
        refine gT_n 2 ?_
        exact gT_k (ih (k - 1) (by omega) (by omega) (fun j h1 h2 => by
          by_cases g : j = k
          · rw [g]; exact β2
          · exact hup j (by omega) h2)) ⟨viI (pk_d1 (by omega)), rfl, rfl, trivial⟩ rfl
  refine gT_n 2 ?_
  refine ⟨rfl, gTM.use (c_count hn.lt) (Nat.le_refl _) (fun r u hq => ?_)⟩
  obtain ⟨rfl, rfl⟩ := hq  -- X3_count[lN n]
  refine gT_n 1 ?_
  exact loop (cnt n) (Nat.le_refl _) (fun j h1 h2 => absurd h1 (by omega))
def stf (n k : Nat) : Nat := if k < 4 then nlon (nfst n k) 1 else n
theorem isC_le {l : zO} {n k : Nat} (h : isC l n k) : k ≤ 4 := Nat.le_trans h.1 (cnt_le n)
theorem c_longer_full {d n : Nat} {w : gW} {x : Int32} (hn : n < 2 ^ 60) (hc : cnt n = 4) : gTM (d + 2) 32 [.long (lN n), .int x] w (fun r u => u = w ∧ r = some (.long (lN n))) := by
  refine gT_n 2 ?_
  refine ⟨rfl, gTM.use (c_count hn) (Nat.le_refl _) (fun r u hq => ?_)⟩
  obtain ⟨rfl, rfl⟩ := hq  -- X3_count[lN n]
  refine gT_n 4 ?_
  refine pk_lt ((cnt n)) 4 (fun κ1 => ?_) (fun κ1 => ?_) (rfl) (rfl) (by omega) (by omega)
  · exact absurd hc (by omega)
  · refine gT_n 2 ?_
    refine ⟨rfl, ?_⟩
    exact ⟨rfl, rfl⟩
theorem cnt_fk0 {n k : Nat} (hn : vn n) (h : k ≤ cnt n) : cnt (nfst n k) = k := by
  have := cnt_le n
  rw [nfst_cnt hn.1 (by omega)]; omega
theorem c_longer_star {d n k : Nat} {w : gW} {l : zO} (hn : vn n) (hC : isC l n k) : gTM (d + 2) 32 [.long (lN (nfst n k)), .int 1] w (fun r u => u = w ∧ r = some (.long (lN (stf n k)))) := by
  have h4 := isC_le hC
  unfold stf
  by_cases c : k < 4
  · rw [if_pos c]
    exact c_longer4 (x := 1) (nfst_wf hn.1 h4) (by decide) (by rw [cnt_fk0 hn hC.1]; exact c)
  · rw [if_neg c]
    have e : k = 4 := by omega
    subst e
    rw [nfst_4]
    exact c_longer_full hn.lt (by have := hC.1; have := cnt_le n; omega)
theorem c_starFor {d n : Nat} {I : Nat → Nat → Int32} {J : Nat → Nat → Int64} {P : Nat → Nat} {l : zO} {f : Nat → Nat} (hf : oIs l f) (h28 : l.length ≤ 28) (hO : cO (I 142 2) (J 143) (I 144) l) (hn : vn n) : gTM (d + 3) 46 [.ref 142, .long (lN n)] (gST I J P) (fun x u => u = gST I J P ∧ ∃ k, isC l n k ∧ x = some (.long (lN (stf n k)))) := by
  refine gT_n 4 ?_
  refine ⟨rfl, rfl, gTM.use (c_closest hf h28 hO hn) (Nat.le_refl _) (fun r u hq => ?_)⟩
  obtain ⟨rfl, k, hC, rfl⟩ := hq  -- X4_closestLabels[R142, lN n]
  refine gT_n 1 ?_
  refine ⟨rfl, gTM.use (c_first hn.lt (isC_le hC)) (Nat.le_refl _) (fun r u hq => ?_)⟩
  obtain ⟨rfl, rfl⟩ := hq  -- X3_first[lN n, nI k]
  refine gT_n 2 ?_
  refine ⟨rfl, gTM.use (c_longer_star hn hC) (Nat.le_refl _) (fun r u hq => ?_)⟩
  obtain ⟨rfl, rfl⟩ := hq  -- X3_longer[lN ((nfst n k)), K1]
  refine gT_n 1 ?_
  refine ⟨rfl, ?_⟩
  exact ⟨rfl, k, hC, rfl⟩
theorem and_bit {a s : Nat} : a &&& 2 ^ s = 0 ↔ ¬ a.testBit s = true := by
  constructor
  · intro h c
    have e : (a &&& 2 ^ s).testBit s = true := by
      rw [Nat.testBit_and, c, Nat.testBit_two_pow_self]; rfl
    rw [h, Nat.zero_testBit] at e
    exact absurd e (by decide)
  · intro h
    refine Nat.eq_of_testBit_eq (fun i => ?_)
    rw [Nat.testBit_and, Nat.zero_testBit, Nat.testBit_two_pow]
    by_cases g : s = i
    · subst g
      rw [Bool.not_eq_true] at h
      rw [h]; rfl
    · rw [decide_eq_false g, Bool.and_false]
theorem stf_vn {n k : Nat} {l : zO} (hn : vn n) (hC : isC l n k) : vn (stf n k) := by
  have h4 := isC_le hC
  unfold stf
  by_cases c : k < 4
  · rw [if_pos c]
    exact vn_lon (vn_fst hn h4) (by rw [cnt_fk0 hn hC.1]; exact c) (Or.inl (by decide)) (by decide)
  · rw [if_neg c]; exact hn
theorem c_hasSort {d a s : Nat} {I : Nat → Nat → Int32} {J : Nat → Nat → Int64} {P : Nat → Nat} {l : zO} {f : Nat → Nat} (hf : oIs l f) (h28 : l.length ≤ 28) (hO : cO (I 142 2) (J 143) (I 144) l) (ha : a < l.length) (hs : s < 3) : gTM d 48 [.ref 142, .int (nI a), .int (nI s)] (gST I J P) (gB (gST I J P) ((f (og l a).1).testBit s = true)) := by
  rw [(hf.2.1 a ha).1]
  refine gT_n 9 ?_
  refine ⟨rfl, rfl, (pk_in a 28 (by omega) (rfl)), pk_eq (((og l a).2) &&& (2 ^ s)) 0 (fun κ1 => ?_) (fun κ1 => ?_) (pk_ndE (n := ((og l a).2)) (k := (2 ^ s)) (rdI (rfl) (by omega) (hO.2 a (by omega)).2) (pk_shE (n := s) (rfl) (hs)) ((hf.2.1 a (by omega)).2.2.1) ((p2_64 (hs)).1)) (rfl) (Nat.lt_trans (Nat.lt_of_le_of_lt Nat.and_le_left ((hf.2.1 a (by omega)).2.2.1)) (by decide)) (by omega)⟩
  · refine gT_n 2 ?_
    refine ⟨(Or.inl rfl), ?_⟩
    exact ⟨rfl, Or.inr ⟨rfl, and_bit.mp κ1⟩⟩
  · refine gT_n 3 ?_
    refine ⟨(Or.inr rfl), ?_⟩
    exact ⟨rfl, Or.inl ⟨rfl, Classical.byContradiction (fun w => κ1 (and_bit.mpr w))⟩⟩
/-- an answer's kind -/
def fOc (f : Nat → Nat) (n s k : Nat) (x : Int32) : Prop := pif (0 < f n) (pif ((f n).testBit s = true) (x = 0) (x = 1)) (pif (k = cnt n) (x = 1) (pif (0 < f (nlon (nfst n k) 1)) (pif ((f (nlon (nfst n k) 1)).testBit s = true) (x = 2) (x = 3)) (x = 4)))
theorem oIs_no {l : zO} {f : Nat → Nat} {n : Nat} (hf : oIs l f) (h : ∀ i, i < l.length → ¬ (og l i).1 = n) : ¬ 0 < f n := fun c => by
  obtain ⟨i, hi, e⟩ := hf.2.2 n c
  exact h i hi e
theorem oIs_ye {l : zO} {f : Nat → Nat} {n a : Nat} (hf : oIs l f) (ha : a < l.length) (e : (og l a).1 = n) : 0 < f n := by
  rw [← e, (hf.2.1 a ha).1]; exact (hf.2.1 a ha).2.1
theorem isC_ex {l : zO} {n : Nat} : ∃ k, isC l n k := by
  have key : ∀ m, m ≤ cnt n → (∀ j, m < j → j ≤ cnt n → ¬ rch l n j) → ∃ k, isC l n k := by
    intro m
    induction m with
    | zero => exact fun h1 h2 => ⟨0, h1, Or.inl rfl, h2⟩
    | succ m ih =>
      intro h1 h2
      by_cases c : rch l n (m + 1)
      · exact ⟨m + 1, h1, Or.inr c, h2⟩
      · exact ih (by omega) (fun j a1 a2 => by
          by_cases g : j = m + 1
          · rw [g]; exact c
          · exact h2 j (by omega) a2)
  exact key (cnt n) (Nat.le_refl _) (fun j a1 a2 => absurd a1 (by omega))
theorem c_outcome {d n s : Nat} {I : Nat → Nat → Int32} {J : Nat → Nat → Int64} {P : Nat → Nat} {l : zO} {f : Nat → Nat} (hf : oIs l f) (h28 : l.length ≤ 28) (hO : cO (I 142 2) (J 143) (I 144) l) (hn : vn n) (hs : s < 3) : gTM (d + 4) 47 [.ref 142, .long (lN n), .int (nI s)] (gST I J P) (fun x u => u = gST I J P ∧ ∃ k v, isC l n k ∧ fOc f n s k v ∧ x = some (.int v)) := by
  have hCe : ∃ k, isC l n k := isC_ex
  refine gT_n 3 ?_
  refine ⟨rfl, rfl, gTM.use (c_oix hf h28 hO hn.lt) (Nat.le_refl _) (fun r u hq => ?_)⟩
  obtain ⟨rfl, ⟨a, ha, ea, rfl⟩ | ⟨rfl, hno⟩⟩ := hq  -- X4_indexOf[R142, lN n]
  · refine gT_n 3 ?_
    refine ⟨fun c => absurd c (nI_pos (by omega)), fun _ => ?_⟩
    refine gT_n 4 ?_
    refine ⟨rfl, rfl, gTM.use (c_hasSort hf h28 hO ha hs) (Nat.le_refl _) (fun r u hq => ?_)⟩
    obtain ⟨rfl, ⟨rfl, β1⟩ | ⟨rfl, β1⟩⟩ := hq  -- X4_hasSort[R142, nI a, nI s]
    · refine gT_n 1 ?_
      refine ⟨fun c => absurd c (by decide), fun _ => ?_⟩
      refine gT_n 3 ?_
      obtain ⟨k, hC⟩ := hCe
      exact ⟨rfl, k, 0, hC, (pif_pos (oIs_ye hf ha ea)).mpr ((pif_pos (ea ▸ β1)).mpr rfl), rfl⟩
    · refine gT_n 1 ?_
      refine ⟨fun _ => ?_, fun c => absurd (by decide) c⟩
      refine gT_n 2 ?_
      obtain ⟨k, hC⟩ := hCe
      exact ⟨rfl, k, 1, hC, (pif_pos (oIs_ye hf ha ea)).mpr ((pif_neg (ea ▸ β1)).mpr rfl), rfl⟩
  · refine gT_n 3 ?_
    refine ⟨fun _ => ?_, fun c => absurd (by decide) c⟩
    refine gT_n 3 ?_
    refine ⟨rfl, rfl, gTM.use (c_closest hf h28 hO hn) (Nat.le_refl _) (fun r u hq => ?_)⟩
    obtain ⟨rfl, k, hC, rfl⟩ := hq  -- X4_closestLabels[R142, lN n]
    refine gT_n 2 ?_
    refine ⟨rfl, gTM.use (c_count hn.lt) (Nat.le_refl _) (fun r u hq => ?_)⟩
    obtain ⟨rfl, rfl⟩ := hq  -- X3_count[lN n]
    refine gT_n 1 ?_
    refine pk_ne k ((cnt n)) (fun κ2 => ?_) (fun κ2 => ?_) (rfl) (rfl) (by have := isC_le hC; omega) (by have := cnt_le n; omega)
    · refine gT_n 4 ?_
      refine ⟨rfl, rfl, gTM.use (c_starFor hf h28 hO hn) (Nat.le_refl _) (fun r u hq => ?_)⟩
      obtain ⟨rfl, k2, hC2, rfl⟩ := hq  -- X4_starFor[R142, lN n]
      refine gT_n 1 ?_
      refine ⟨rfl, rfl, gTM.use (c_oix hf h28 hO (stf_vn hn hC2).lt) (Nat.le_refl _) (fun r u hq => ?_)⟩
      obtain ⟨rfl, ⟨b, hb, eb, rfl⟩ | ⟨rfl, hno2⟩⟩ := hq  -- X4_indexOf[R142, lN ((stf n k2))]
      · refine gT_n 3 ?_
        refine ⟨fun _ => ?_, fun c => absurd (nI_pos' (by omega)) c⟩
        refine gT_n 4 ?_
        refine ⟨rfl, rfl, gTM.use (c_hasSort hf h28 hO hb hs) (Nat.le_refl _) (fun r u hq => ?_)⟩
        obtain ⟨rfl, ⟨rfl, β3⟩ | ⟨rfl, β3⟩⟩ := hq  -- X4_hasSort[R142, nI b, nI s]
        · refine gT_n 1 ?_
          refine ⟨fun c => absurd c (by decide), fun _ => ?_⟩
          refine gT_n 3 ?_
          obtain rfl := isC_one hC hC2
          have est : stf n k = nlon (nfst n k) 1 := if_pos (by have := hC.1; have := cnt_le n; omega)
          exact ⟨rfl, k, 2, hC, (pif_neg (oIs_no hf hno)).mpr ((pif_neg κ2).mpr ((pif_pos (oIs_ye hf hb (eb.trans est))).mpr ((pif_pos ((eb.trans est) ▸ β3)).mpr rfl))), rfl⟩
        · refine gT_n 1 ?_
          refine ⟨fun _ => ?_, fun c => absurd (by decide) c⟩
          refine gT_n 2 ?_
          obtain rfl := isC_one hC hC2
          have est : stf n k = nlon (nfst n k) 1 := if_pos (by have := hC.1; have := cnt_le n; omega)
          exact ⟨rfl, k, 3, hC, (pif_neg (oIs_no hf hno)).mpr ((pif_neg κ2).mpr ((pif_pos (oIs_ye hf hb (eb.trans est))).mpr ((pif_neg ((eb.trans est) ▸ β3)).mpr rfl))), rfl⟩
      · refine gT_n 3 ?_
        refine ⟨fun c => absurd c (by decide), fun _ => ?_⟩
        refine gT_n 2 ?_
        obtain rfl := isC_one hC hC2
        have est : stf n k = nlon (nfst n k) 1 := if_pos (by have := hC.1; have := cnt_le n; omega)
        exact ⟨rfl, k, 4, hC, (pif_neg (oIs_no hf hno)).mpr ((pif_neg κ2).mpr ((pif_neg (oIs_no hf (est ▸ hno2))).mpr rfl)), rfl⟩
    · refine gT_n 2 ?_
      exact ⟨rfl, k, 1, hC, (pif_neg (oIs_no hf hno)).mpr ((pif_pos κ2).mpr rfl), rfl⟩
