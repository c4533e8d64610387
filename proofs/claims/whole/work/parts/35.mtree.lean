/-! ZONES, the reference's side -/
/-- zoneIn -/
theorem m_zoneIn {d n : Nat} {t : zT} {I : Nat → Nat → Int32} {J : Nat → Nat → Int64} {P : Nat → Nat} (hz : zOK t) (hT : mT (I 171 2) (J 172) (I 173) t) (hn : vn n) : gTM (d + 4) 165 [.ref 171, .long (lN (mo n))] (gST I J P) (fun r u => u = gST I J P ∧ r = some (.int (nI (zof t n)))) := by
  obtain ⟨h1, h4, h0, -, hv, -⟩ := hz
  obtain ⟨hc, ha, hs, -⟩ := hT
  have loop : ∀ j, j ≤ t.1 → 1 ≤ j → gT (d + 4) 165 5 [(4, .int (nI j)), (3, .int (nI (zo t.2.1 n (j - 1)))), (0, .ref 171), (1, .long (lN (mo n)))] [] (0, 0) (gST I J P) (fun r u => u = gST I J P ∧ r = some (.int (nI (zof t n)))) := by
    refine loopU t.1 (fun j hj ih h1j => ?_)
    have hle := zo_le t.2.1 n (j - 1)
    refine gT_n 4 ?_
    refine ⟨rfl, pk_le t.1 j (fun c1 => ?_) (fun c1 => ?_) (hc) (rfl) (by omega) (by omega)⟩
    · refine gT_n 2 ?_
      exact ⟨rfl, ri (by unfold zof; rw [show j = t.1 by omega])⟩
    · refine gT_n 7 ?_
      refine ⟨rfl, rfl, (pk_in j 4 (by omega) (rfl)), pm_eq ((t.2.1 j)) n (fun c2 => ?_) (fun c2 => ?_) (rdJ (rfl) (by omega) (ha j (by omega))) (rfl) ((hv j (by omega))) (hn)⟩
      · refine gT_n 5 ?_
        refine ⟨fun c => absurd c (by decide), fun _ => ?_⟩
        refine gT_n 5 ?_
        refine ⟨rfl, rfl, (pk_in j 4 (by omega) (rfl)), rfl, gTM.useA (n_labelsOf (n := ((t.2.1 j)))) (Nat.le_refl _) (aL (rdJ (rfl) (by omega) (ha j (by omega))) (rfl)) (fun r u hq => ?_)⟩
        obtain ⟨rfl, rfl⟩ := hq  -- X12_labelsOf[lN ((t.2.1 j))]
        refine gT_n 5 ?_
        refine ⟨rfl, rfl, (pk_in ((zo t.2.1 n (j - 1))) 4 (by omega) (rfl)), rfl, gTM.useA (n_labelsOf (n := ((t.2.1 ((zo t.2.1 n (j - 1))))))) (Nat.le_refl _) (aL (rdJ (rfl) (by omega) (ha ((zo t.2.1 n (j - 1))) (by omega))) (rfl)) (fun r u hq => ?_)⟩
        obtain ⟨rfl, rfl⟩ := hq  -- X12_labelsOf[lN ((t.2.1 ((zo t.2.1 n (j - 1)))))]
        refine gT_n 1 ?_
        refine pk_le ((cnt ((t.2.1 j)))) ((cnt ((t.2.1 ((zo t.2.1 n (j - 1))))))) (fun c3 => ?_) (fun c3 => ?_) (rfl) (rfl) (by have := cnt_le ((t.2.1 j)); omega) (by have := cnt_le ((t.2.1 ((zo t.2.1 n (j - 1))))); omega)
        · refine gT_n 4 ?_
          have e := ih (j + 1) (by omega) (by omega) (by omega)
          rw [zo_n h1j (fun z => by first | exact absurd z.1 (by omega) | exact absurd ((zo_cond (hv j (by omega)).1 hn.1).mpr z.2) (by rintro (h | h); exact c2 h; exact b4 h)), ← nI_1] at e
          exact gT_k e ⟨rfl, rfl, rfl, rfl, trivial⟩ rfl
        · refine gT_n 5 ?_
          have e := ih (j + 1) (by omega) (by omega) (by omega)
          rw [zo_s h1j ⟨by omega, (zo_cond (hv j (by omega)).1 hn.1).mp (by first | exact Or.inl c2 | exact Or.inr b4)⟩, ← nI_1] at e
          exact gT_k e ⟨rfl, rfl, rfl, rfl, trivial⟩ rfl
      · refine gT_n 6 ?_
        refine ⟨rfl, rfl, (pk_in j 4 (by omega) (rfl)), rfl, gTM.useA (n_isAbove (hv j (by omega)) hn) (Nat.le_refl _) (aL (rdJ (rfl) (by omega) (ha j (by omega))) (aL (rfl) (rfl))) (fun r u hq => ?_)⟩
        obtain ⟨rfl, ⟨rfl, b4⟩ | ⟨rfl, b4⟩⟩ := hq  -- X12_isAbove[lN ((t.2.1 j)), lN n]
        · refine gT_n 1 ?_
          refine ⟨fun c => absurd c (by decide), fun _ => ?_⟩
          refine gT_n 5 ?_
          refine ⟨fun c => absurd c (by decide), fun _ => ?_⟩
          refine gT_n 5 ?_
          refine ⟨rfl, rfl, (pk_in j 4 (by omega) (rfl)), rfl, gTM.useA (n_labelsOf (n := ((t.2.1 j)))) (Nat.le_refl _) (aL (rdJ (rfl) (by omega) (ha j (by omega))) (rfl)) (fun r u hq => ?_)⟩
          obtain ⟨rfl, rfl⟩ := hq  -- X12_labelsOf[lN ((t.2.1 j))]
          refine gT_n 5 ?_
          refine ⟨rfl, rfl, (pk_in ((zo t.2.1 n (j - 1))) 4 (by omega) (rfl)), rfl, gTM.useA (n_labelsOf (n := ((t.2.1 ((zo t.2.1 n (j - 1))))))) (Nat.le_refl _) (aL (rdJ (rfl) (by omega) (ha ((zo t.2.1 n (j - 1))) (by omega))) (rfl)) (fun r u hq => ?_)⟩
          obtain ⟨rfl, rfl⟩ := hq  -- X12_labelsOf[lN ((t.2.1 ((zo t.2.1 n (j - 1)))))]
          refine gT_n 1 ?_
          refine pk_le ((cnt ((t.2.1 j)))) ((cnt ((t.2.1 ((zo t.2.1 n (j - 1))))))) (fun c5 => ?_) (fun c5 => ?_) (rfl) (rfl) (by have := cnt_le ((t.2.1 j)); omega) (by have := cnt_le ((t.2.1 ((zo t.2.1 n (j - 1))))); omega)
          · refine gT_n 4 ?_
            have e := ih (j + 1) (by omega) (by omega) (by omega)
            rw [zo_n h1j (fun z => by first | exact absurd z.1 (by omega) | exact absurd ((zo_cond (hv j (by omega)).1 hn.1).mpr z.2) (by rintro (h | h); exact c2 h; exact b4 h)), ← nI_1] at e
            exact gT_k e ⟨rfl, rfl, rfl, rfl, trivial⟩ rfl
          · refine gT_n 5 ?_
            have e := ih (j + 1) (by omega) (by omega) (by omega)
            rw [zo_s h1j ⟨by omega, (zo_cond (hv j (by omega)).1 hn.1).mp (by first | exact Or.inl c2 | exact Or.inr b4)⟩, ← nI_1] at e
            exact gT_k e ⟨rfl, rfl, rfl, rfl, trivial⟩ rfl
        · refine gT_n 1 ?_
          refine ⟨fun _ => ?_, fun c => absurd (by decide) c⟩
          refine gT_n 4 ?_
          refine ⟨fun _ => ?_, fun c => absurd (by decide) c⟩
          refine gT_n 4 ?_
          have e := ih (j + 1) (by omega) (by omega) (by omega)
          rw [zo_n h1j (fun z => by first | exact absurd z.1 (by omega) | exact absurd ((zo_cond (hv j (by omega)).1 hn.1).mpr z.2) (by rintro (h | h); exact c2 h; exact b4 h)), ← nI_1] at e
          exact gT_k e ⟨rfl, rfl, rfl, rfl, trivial⟩ rfl
  refine gT_n 4 ?_
  exact loop 1 h1 (Nat.le_refl _)
theorem zOK.v {t : zT} (h : zOK t) {z : Nat} (hz : z < t.1) : vn (t.2.1 z) := h.2.2.2.2.1 z hz
/-- a parent as an int; NONE of zone 0 -/
def zpI (t : zT) (z : Nat) : Int32 := if z = 0 then -4 else nI (zpa t z)
theorem ap_cnt {t : zT} (h : zOK t) {z : Nat} (hz : z < t.1) (h0 : z ≠ 0) : 1 ≤ cnt (t.2.1 z) := by
  rcases Nat.eq_zero_or_pos (cnt (t.2.1 z)) with e | e
  · have hv := (h.v hz).1
    have : t.2.1 z = 0 := by
      rw [← nfst_self hv (Nat.le_of_eq e) (by omega)]
      exact nfst_0 hv.1
    exact absurd (h.2.2.2.2.2 z 0 hz (by have := h.1; omega) (by rw [this, h.2.2.1])) h0
  · exact e
theorem n_firstOfE {d n k : Nat} {x : Int32} {w : gW} (hn : n < 2 ^ 60) (hk : k ≤ 4) (e : x = nI k) : gTM (d + 2) 161 [.long (lN (mo n)), .int x] w (fun r u => u = w ∧ r = some (.long (lN (mo (nfst n k))))) := by
  rw [e]; exact n_firstOf hn hk
/-- parentOf -/
theorem m_parentOf {d z : Nat} {t : zT} {I : Nat → Nat → Int32} {J : Nat → Nat → Int64} {P : Nat → Nat} (hz : zOK t) (hT : mT (I 171 2) (J 172) (I 173) t) (hzz : z < t.1) : gTM (d + 5) 166 [.ref 171, .int (nI z)] (gST I J P) (fun r u => u = gST I J P ∧ r = some (.int (zpI t z))) := by
  have hz0 := hz
  have hT0 := hT
  obtain ⟨h1, h4, h0, -, hv, -⟩ := hz
  obtain ⟨hc, ha, hs, -⟩ := hT
  refine gT_n 2 ?_
  refine pk_ne z 0 (fun c1 => ?_) (fun c1 => ?_) (rfl) (rfl) (by omega) (by omega)
  · refine gT_n 10 ?_
    refine ⟨rfl, rfl, (pk_in z 4 (by omega) (rfl)), rfl, rfl, (pk_in z 4 (by omega) (rfl)), rfl, gTM.useA (n_labelsOf (n := ((t.2.1 z)))) (Nat.le_refl _) (aL (rdJ (rfl) (by omega) (ha z (by omega))) (rfl)) (fun r u hq => ?_)⟩
    obtain ⟨rfl, rfl⟩ := hq  -- X12_labelsOf[lN ((t.2.1 z))]
    refine gT_n 3 ?_
    refine ⟨rfl, gTM.useA (n_firstOfE (hv z hzz).lt (by have := cnt_le (t.2.1 z); omega) (pk_sub (by exact ap_cnt hz0 hzz c1))) (Nat.le_refl _) (aL (rdJ (rfl) (by omega) (ha z (by omega))) (aI (rfl) (rfl))) (fun r u hq => ?_)⟩
    obtain ⟨rfl, rfl⟩ := hq  -- X12_firstOf[lN ((t.2.1 z)), (nI ((cnt ((t.2.1 z))))-K1)]
    refine gT_n 1 ?_
    refine ⟨rfl, rfl, gTM.use (m_zoneIn hz0 hT0 (vn_fst (hv z hzz) (by have := cnt_le (t.2.1 z); omega))) (Nat.le_refl _) (fun r u hq => ?_)⟩
    obtain ⟨rfl, rfl⟩ := hq  -- X12_zoneIn[R171, lN ((nfst (t.2.1 z) (cnt (t.2.1 z) - 1)))]
    refine gT_n 1 ?_
    exact ⟨rfl, ri (by unfold zpI; rw [if_neg c1]; rfl)⟩
  · refine gT_n 3 ?_
    exact ⟨rfl, ri (by unfold zpI; rw [if_pos c1])⟩
theorem inZ_in {n : Nat} {x : Int32} (h1 : 1 ≤ n) (h4 : n ≤ 4) : (0 ≤ x ∧ x ≤ nI n - 1) ↔ inZ n x := by
  have e1 : nI n - 1 = nI (n - 1) := pk_sub (b := 1) h1
  rw [e1]
  constructor
  · intro ⟨a, b⟩
    refine inZ_of (by omega) (Int32.not_lt.mpr a) (fun c => ?_)
    have := Int32.le_trans c b
    exact nI_ge (a := n - 1) (b := n) (by omega) (by omega) this
  · rintro ⟨k, hk, rfl⟩
    exact ⟨nI_pos' (by omega), nI_le (by omega) (by omega)⟩
/-- isZone -/
theorem m_isZone {d : Nat} {z : Int32} {t : zT} {I : Nat → Nat → Int32} {J : Nat → Nat → Int64} {P : Nat → Nat} (hz : zOK t) (hT : mT (I 171 2) (J 172) (I 173) t) : gTM (d + 1) 202 [.ref 171, .int z] (gST I J P) (gB (gST I J P) (inZ t.1 z)) := by
  have h1 := hz.1
  have h4 := hz.2.1
  have hc := hT.1
  refine gT_n 9 ?_
  refine ⟨rfl, rfl, gTM.use (m_inI (x := 0) (z := I 171 2 - 1) rfl rfl) (Nat.le_refl _) (fun r u hq => ?_)⟩
  obtain ⟨rfl, ⟨rfl, b1⟩ | ⟨rfl, b1⟩⟩ := hq  -- X12_in[i2l(z), lN 0, i2l((171.zones-K1))]
  · refine gT_n 1 ?_
    refine ⟨(Or.inr rfl), ?_⟩
    exact ⟨rfl, Or.inl ⟨rfl, by rw [hc] at b1; exact (inZ_in h1 h4).mp b1⟩⟩
  · refine gT_n 1 ?_
    refine ⟨(Or.inl rfl), ?_⟩
    exact ⟨rfl, Or.inr ⟨rfl, by rw [hc] at b1; exact fun q => b1 ((inZ_in h1 h4).mpr q)⟩⟩
