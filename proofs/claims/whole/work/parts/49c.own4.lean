/-! OWNERS in the reference: one behind another -/
theorem nea_ny {o n : Nat} (h : n < o) : nea none o n = some o := if_pos h
theorem nea_nn {o n : Nat} (h : ¬ n < o) : nea none o n = none := if_neg h
theorem nea_sy {b o n : Nat} (h : n < o ∧ o < b) : nea (some b) o n = some o := if_pos h
theorem nea_sn {b o n : Nat} (h : ¬ (n < o ∧ o < b)) : nea (some b) o n = some b := if_neg h
theorem rl {x y : Int64} (h : x = y) : some (Value.long x) = some (Value.long y) := by rw [h]
theorem n_nearer {d o n : Nat} {r : Option Nat} {w : gW} (hr : ∀ b, r = some b → vn b) (ho : vn o) (hn : vn n) : gTM d 171 [.long (olm r), .long (lN (mo o)), .long (lN (mo n))] w (fun x u => u = w ∧ x = some (.long (olm (nea r o n)))) := by
  cases r with
  | none =>
    refine gT_n 4 ?_
    refine pm_le o n (fun κ1 => ?_) (fun κ1 => ?_) (rfl) (rfl) (ho) (hn)
    · refine gT_n 2 ?_
      refine ⟨rfl, ?_⟩
      exact ⟨rfl, rl (congrArg olm (nea_nn (by omega)).symm)⟩
    · refine gT_n 4 ?_
      refine pj_lt (X := (-4)) (Y := (lN 0)) (rfl) (rfl) (fun κ2 => ?_) (fun κ2 => ?_)
      · refine gT_n 3 ?_
        refine ⟨rfl, ?_⟩
        exact ⟨rfl, rl (congrArg olm (nea_ny κ1).symm)⟩
      · refine gT_n 4 ?_
        refine pj_ge (X := (lN (mo o))) (Y := (-4)) (rfl) (rfl) (fun κ3 => ?_) (fun κ3 => ?_)
        · refine gT_n 2 ?_
          refine ⟨rfl, ?_⟩
          exact absurd (by decide) κ2
        · refine gT_n 3 ?_
          refine ⟨rfl, ?_⟩
          exact absurd (by decide) κ2
  | some b =>
    have hb := hr b rfl
    refine gT_n 4 ?_
    refine pm_le o n (fun κ1 => ?_) (fun κ1 => ?_) (rfl) (rfl) (ho) (hn)
    · refine gT_n 2 ?_
      refine ⟨rfl, ?_⟩
      exact ⟨rfl, rl (congrArg olm (nea_sn (by omega)).symm)⟩
    · refine gT_n 4 ?_
      refine pj_lt (X := (lN (mo b))) (Y := (lN 0)) (rfl) (rfl) (fun κ2 => ?_) (fun κ2 => ?_)
      · refine gT_n 3 ?_
        refine ⟨rfl, ?_⟩
        exact absurd κ2 mo_nlt
      · refine gT_n 4 ?_
        refine pm_ge o b (fun κ3 => ?_) (fun κ3 => ?_) (rfl) (rfl) (ho) (hb)
        · refine gT_n 2 ?_
          refine ⟨rfl, ?_⟩
          exact ⟨rfl, rl (congrArg olm (nea_sn (by omega)).symm)⟩
        · refine gT_n 3 ?_
          refine ⟨rfl, ?_⟩
          exact ⟨rfl, rl (congrArg olm (nea_sy ⟨κ1, κ3⟩).symm)⟩
theorem nea_vn {r : Option Nat} {o n : Nat} (hr : ∀ b, r = some b → vn b) (ho : vn o) : ∀ b, nea r o n = some b → vn b := by
  intro b h
  cases r with
  | none =>
    change (if n < o then some o else none) = some b at h
    split at h
    · cases h; exact ho
    · cases h
  | some q =>
    change (if n < o ∧ o < q then some o else some q) = some b at h
    split at h
    · cases h; exact ho
    · exact hr b h
theorem m_behind {d z n : Nat} {t : zT} {lm : zR} {I : Nat → Nat → Int32} {J : Nat → Nat → Int64} {P : Nat → Nat} (hz : zOK t) (hT : mT (I 171 2) (J 172) (I 173) t) (hr : rOK lm) (hR : mR (I 171 7) (J 174) (I 175) (I 176) lm) (hzz : z < t.1) (hn : vn n) : gTM (d + 6) 170 [.ref 171, .int (nI z), .long (lN (mo n))] (gST I J P) (fun x u => u = gST I J P ∧ ∃ r, isB (fun m => 0 < fG t lm z m) n r ∧ (∀ b, r = some b → vn b) ∧ x = some (.long (olm r))) := by
  have h4 := hz.2.1
  have hz1 := hz.1
  have hrq := hr.o
  have h24 := hr.1
  have loop2 : ∀ c, c ≤ t.1 → 1 ≤ c → ∀ r, isB (fun m => (t.2.1 z = m ∨ ∃ k, k < lm.length ∧ (rg lm k).1 = m ∧ zof t m = z) ∨ ∃ k, 1 ≤ k ∧ k < c ∧ t.2.1 k = m ∧ zpa t k = z) n r → (∀ b, r = some b → vn b) → gT (d + 6) 170 80 [(6, .int (nI c)), (4, .long (olm r)), (0, .ref 171), (1, .int (nI z)), (2, .long (lN (mo n)))] [] (0, 0) (gST I J P) (fun x u => u = gST I J P ∧ ∃ r, isB (fun m => 0 < fG t lm z m) n r ∧ (∀ b, r = some b → vn b) ∧ x = some (.long (olm r))) := by
    refine loopU t.1 (fun c hc ih h1 r hB hr0 => ?_)
    refine gT_n 4 ?_
    refine ⟨rfl, pk_le t.1 c (fun κ1 => ?_) (fun κ1 => ?_) (hT.1) (rfl) (by omega) (by omega)⟩
    · refine gT_n 2 ?_
      refine ⟨rfl, ?_⟩
      obtain rfl : c = t.1 := by omega
      have hq : isB (fun m => 0 < fG t lm z m) n r := isB_congr hB (fun m => by
        rw [fG_pos, or_assoc]
        constructor
        · rintro (e | e | ⟨k, a1, a2, a3⟩)
          · exact Or.inl e
          · exact Or.inr (Or.inl e)
          · exact Or.inr (Or.inr ⟨k, a1, by omega, a3⟩)
        · rintro (e | e | ⟨k, a1, a2, a3⟩)
          · exact Or.inl e
          · exact Or.inr (Or.inl e)
          · exact Or.inr (Or.inr ⟨k, a1, by omega, a3⟩))
      exact ⟨rfl, r, hq, hr0, rfl⟩
    · refine gT_n 3 ?_
      refine ⟨rfl, rfl, gTM.use (m_parentOf1 hz hT (by omega) (by omega)) (Nat.le_refl _) (fun r u hq => ?_)⟩
      obtain ⟨rfl, rfl⟩ := hq  -- X12_parentOf[R171, nI c]
      refine gT_n 2 ?_
      refine pk_ne ((zpa t c)) z (fun κ2 => ?_) (fun κ2 => ?_) (rfl) (rfl) (by have := zof_lt hz (nfst (t.2.1 c) (cnt (t.2.1 c) - 1)); unfold zpa; omega) (by omega)
      · refine gT_n 4 ?_
        have e := ih (c + 1) (by omega) (by omega) (by omega) r (isB_congr hB (fun m => by
          constructor
          · rintro (e | ⟨k, a1, a2, a3⟩)
            · exact Or.inl e
            · exact Or.inr ⟨k, a1, by omega, a3⟩
          · rintro (e | ⟨k, a1, a2, a3⟩)
            · exact Or.inl e
            · refine Or.inr ⟨k, a1, ?_, a3⟩
              have : ¬ k = c := fun g => κ2 (g ▸ a3.2)
              omega)) hr0
        rw [← nI_1] at e
        exact e
      · refine gT_n 7 ?_
        refine ⟨rfl, rfl, (pk_in c 4 (by omega) (rfl)), rfl, gTM.useA (n_nearer hr0 (hz.2.2.2.2.1 c (by omega)) hn) (Nat.le_refl _) (aL (rfl) (aL (rdJ (rfl) (by omega) (hT.2.1 c (by omega))) (aL (rfl) (rfl)))) (fun r u hq => ?_)⟩
        obtain ⟨rfl, rfl⟩ := hq  -- X12_nearer[olm r, lN ((t.2.1 c)), lN n]
        refine gT_n 4 ?_
        have e := ih (c + 1) (by omega) (by omega) (by omega) (nea r (t.2.1 c) n) (isB_congr (isB_nea hB) (fun m => by
          constructor
          · rintro ((e | ⟨k, a1, a2, a3⟩) | e)
            · exact Or.inl e
            · exact Or.inr ⟨k, a1, by omega, a3⟩
            · exact Or.inr ⟨c, by omega, by omega, e, κ2⟩
          · rintro (e | ⟨k, a1, a2, a3⟩)
            · exact Or.inl (Or.inl e)
            · by_cases g : k = c
              · exact Or.inr (g ▸ a3.1)
              · exact Or.inl (Or.inr ⟨k, a1, by omega, a3⟩))) (nea_vn hr0 (hz.2.2.2.2.1 c (by omega)))
        rw [← nI_1] at e
        exact e
  have loop1 : ∀ j, j ≤ lm.length → ∀ r, isB (fun m => t.2.1 z = m ∨ ∃ k, k < j ∧ (rg lm k).1 = m ∧ zof t m = z) n r → (∀ b, r = some b → vn b) → gT (d + 6) 170 27 [(6, .int (nI j)), (4, .long (olm r)), (0, .ref 171), (1, .int (nI z)), (2, .long (lN (mo n)))] [] (0, 0) (gST I J P) (fun x u => u = gST I J P ∧ ∃ r, isB (fun m => 0 < fG t lm z m) n r ∧ (∀ b, r = some b → vn b) ∧ x = some (.long (olm r))) := by
    refine loopU lm.length (fun j hj ih r hB hr0 => ?_)
    refine gT_n 4 ?_
    refine ⟨rfl, pk_le lm.length j (fun κ1 => ?_) (fun κ1 => ?_) (hR.1) (rfl) (by omega) (by omega)⟩
    · refine gT_n 2 ?_
      obtain rfl : j = lm.length := by omega
      exact gT_k (loop2 1 (by omega) (by omega) r (isB_congr hB (fun m => ⟨Or.inl, fun e => e.elim id (fun ⟨k, a1, a2, _⟩ => absurd a1 (by omega))⟩)) hr0) ⟨rfl, rfl, rfl, rfl, rfl, trivial⟩ rfl
    · refine gT_n 6 ?_
      refine ⟨rfl, rfl, (pk_in j 25 (by omega) (rfl)), rfl, rfl, gTM.useA (m_zoneIn hz hT (hrq j (by omega)).1) (Nat.le_refl _) (aR (aL (rdJ (rfl) (by omega) (hR.2 j (by omega)).1) (rfl))) (fun r u hq => ?_)⟩
      obtain ⟨rfl, rfl⟩ := hq  -- X12_zoneIn[R171, lN ((rg lm j).1)]
      refine gT_n 2 ?_
      refine pk_ne ((zof t (rg lm j).1)) z (fun κ2 => ?_) (fun κ2 => ?_) (rfl) (rfl) (by have := zof_lt hz (rg lm j).1; omega) (by omega)
      · refine gT_n 4 ?_
        have e := ih (j + 1) (by omega) (by omega) r (isB_congr hB (fun m => by
          constructor
          · rintro (e | ⟨k, a1, a3⟩)
            · exact Or.inl e
            · exact Or.inr ⟨k, by omega, a3⟩
          · rintro (e | ⟨k, a1, a2, a3⟩)
            · exact Or.inl e
            · refine Or.inr ⟨k, ?_, a2, a3⟩
              have : ¬ k = j := fun g => κ2 (by rw [← g, a2]; exact a3)
              omega)) hr0
        rw [← nI_1] at e
        exact e
      · refine gT_n 7 ?_
        refine ⟨rfl, rfl, (pk_in j 25 (by omega) (rfl)), rfl, gTM.useA (n_nearer hr0 (hrq j (by omega)).1 hn) (Nat.le_refl _) (aL (rfl) (aL (rdJ (rfl) (by omega) (hR.2 j (by omega)).1) (aL (rfl) (rfl)))) (fun r u hq => ?_)⟩
        obtain ⟨rfl, rfl⟩ := hq  -- X12_nearer[olm r, lN ((rg lm j).1), lN n]
        refine gT_n 4 ?_
        have e := ih (j + 1) (by omega) (by omega) (nea r (rg lm j).1 n) (isB_congr (isB_nea hB) (fun m => by
          constructor
          · rintro ((e | ⟨k, a1, a3⟩) | e)
            · exact Or.inl e
            · exact Or.inr ⟨k, by omega, a3⟩
            · exact Or.inr ⟨j, by omega, e, e ▸ κ2⟩
          · rintro (e | ⟨k, a1, a2, a3⟩)
            · exact Or.inl (Or.inl e)
            · by_cases g : k = j
              · exact Or.inr (g ▸ a2)
              · exact Or.inl (Or.inr ⟨k, by omega, a2, a3⟩))) (nea_vn hr0 (hrq j (by omega)).1)
        rw [← nI_1] at e
        exact e
  refine gT_n 9 ?_
  refine ⟨rfl, rfl, (pk_in z 4 (by omega) (rfl)), pm_le ((t.2.1 z)) n (fun κ1 => ?_) (fun κ1 => ?_) (rdJ (rfl) (by omega) (hT.2.1 z (by omega))) (rfl) ((hz.2.2.2.2.1 z (by omega))) (hn)⟩
  · refine gT_n 2 ?_
    exact gT_k (loop1 0 (by omega) none (fun m e => e.elim (fun e => by omega) (fun ⟨k, a1, _⟩ => absurd a1 (by omega))) (fun b e => by cases e)) ⟨rfl, rfl, rfl, rfl, rfl, trivial⟩ rfl
  · refine gT_n 5 ?_
    refine ⟨rfl, rfl, (pk_in z 4 (by omega) (rfl)), ?_⟩
    refine gT_k (L := [(4, .long (lN (mo ((t.2.1 z))))), (0, .ref 171), (1, .int (nI z)), (2, .long (lN (mo n)))]) ?_ ⟨(viL (rdJ (rfl) (by omega) (hT.2.1 z (by omega)))), rfl, rfl, rfl, trivial⟩ rfl
    refine gT_n 2 ?_
    exact gT_k (loop1 0 (by omega) (some (t.2.1 z)) ⟨Or.inl rfl, κ1, fun m e _ => e.elim (fun e => by omega) (fun ⟨k, a1, _⟩ => absurd a1 (by omega))⟩ (fun b e => by cases e; exact hz.2.2.2.2.1 z hzz)) ⟨rfl, rfl, rfl, rfl, rfl, trivial⟩ rfl
theorem m_beh {d z i n : Nat} {t : zT} {lm : zR} {I : Nat → Nat → Int32} {J : Nat → Nat → Int64} {P : Nat → Nat} (hz : zOK t) (hT : mT (I 171 2) (J 172) (I 173) t) (hr : rOK lm) (hR : mR (I 171 7) (J 174) (I 175) (I 176) lm) (hzz : z < t.1) {os : zO} (hos : oIs os (fG t lm z)) (hi : i < os.length) (e : (og os i).1 = n) : gTM (d + 6) 170 [.ref 171, .int (nI z), .long (lN (mo n))] (gST I J P) (fun x u => u = gST I J P ∧ x = some (.long (olm (oat os (i + 1))))) := by
  subst e
  refine gTM.use (m_behind hz hT hr hR hzz (hos.2.1 i hi).2.2.2) (Nat.le_refl _) (fun r u hq => ?_)
  obtain ⟨rfl, r, hB, -, rfl⟩ := hq
  exact ⟨rfl, by rw [isB_oat hos hi hB]⟩
