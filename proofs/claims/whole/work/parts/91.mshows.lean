/-! what is shown: the reference -/
theorem pk_srE {x y : Int32} {n k : Nat} (e : x = nI n) (f : y = nI k) (hn : n < 64) (hk : k < 3) : x >>> (y &&& 31) = nI (n >>> k) := by
  rw [e, f]
  exact (by decide : ∀ (n : Fin 64) (k : Fin 3), nI n.1 >>> (nI k.1 &&& 31) = nI (n.1 >>> k.1)) ⟨n, hn⟩ ⟨k, hk⟩
theorem sr_64 {n k : Nat} (h : n < 64) : n >>> k < 64 := Nat.lt_of_le_of_lt (Nat.shiftRight_le n k) h
theorem srb {n k : Nat} (hn : n < 64) (hk : k < 3) : (n >>> k) &&& 1 = 0 ↔ n &&& 2 ^ k = 0 := (by decide : ∀ (n : Fin 64) (k : Fin 3), (n.1 >>> k.1) &&& 1 = 0 ↔ n.1 &&& 2 ^ k.1 = 0) ⟨n, hn⟩ ⟨k, hk⟩
theorem rch_n {o a m : Nat} (ho : vn o) (hm : m ≤ 4) (hc : cnt a = m) : (a = o ∨ nab a o) ↔ nfst o m = a := by
  constructor
  · intro h
    rcases h with h | h
    · subst h
      rw [← hc]; exact nfst_self ho.1 (Nat.le_refl _) (cnt_le _)
    · rw [← hc]; exact h.2
  · intro h
    have e := nfst_cnt ho.1 hm
    rw [h, hc] at e
    rcases Nat.lt_or_ge m (cnt o) with g | g
    · exact Or.inr ⟨by omega, by rw [hc]; exact h⟩
    · exact Or.inl (by rw [← h]; exact nfst_self ho.1 g hm)
theorem m_isOfR {d z : Nat} {kd : Int32} {kn : Int32 → Prop} {I X : Nat → Nat → Int32} {J : Nat → Nat → Int64} {Y : Nat → Int64} {P : Nat → Nat} {t : zT} {l : List zI} (hz : zOK t) (hit : mtm I J l) (h10 : l.length ≤ 10) (hok : vIs t l) {i : Nat} (hin : i < l.length) (hz4 : z < 4) (hk : kro (X 206) kn) : gTM (d + 7) 250 [.ref 171, .int (nI i), .int kd, .int (nI z)] (gST (nM I X) (m1 J 205 Y) P) (gB (gST (nM I X) (m1 J 205 Y) P) (((ig l i).1 = kd ∧ (ig l i).2.1 = z) ∧ rt (ig l i) kn)) := by
  have hI := hit i hin
  have hq := hok _ (ig_mem hin)
  have hq4 := hq.2.2.2.1
  have hq1 := hq.1
  have h4 := hz.2.1
  refine gT_n 6 ?_
  refine ⟨rfl, rfl, (pk_in i 10 (by omega) (rfl)), px_ne (X := (ig l i).1) (Y := kd) ((rdI (rfl) (by omega) hI.1.1)) (rfl) (fun κ1 => ?_) (fun κ1 => ?_)⟩
  · refine gT_n 2 ?_
    refine ⟨(Or.inl rfl), ?_⟩
    exact ⟨rfl, Or.inr ⟨rfl, fun c => κ1 c.1.1⟩⟩
  · refine gT_n 6 ?_
    refine ⟨rfl, rfl, (pk_in i 10 (by omega) (rfl)), pk_ne ((ig l i).2.1) z (fun κ2 => ?_) (fun κ2 => ?_) ((rdI (rfl) (by omega) hI.1.2.1)) (rfl) (by have := hq.1; omega) (by omega)⟩
    · refine gT_n 2 ?_
      refine ⟨(Or.inl rfl), ?_⟩
      exact ⟨rfl, Or.inr ⟨rfl, fun c => κ2 c.1.2⟩⟩
    · refine gT_n 5 ?_
      refine ⟨rfl, rfl, rfl, gTM.use (m_isRight206 hit h10 hok hin hk) (Nat.le_refl _) (fun r u hq => ?_)⟩
      obtain ⟨rfl, ⟨rfl, β3⟩ | ⟨rfl, β3⟩⟩ := hq  -- X12_isRight[R171, nI i, R206]
      · refine gT_n 1 ?_
        refine ⟨fun c => absurd c (by decide), fun _ => ?_⟩
        refine gT_n 3 ?_
        refine ⟨(Or.inr rfl), ?_⟩
        exact ⟨rfl, Or.inl ⟨rfl, ⟨κ1, κ2⟩, β3⟩⟩
      · refine gT_n 1 ?_
        refine ⟨fun _ => ?_, fun c => absurd (by decide) c⟩
        refine gT_n 2 ?_
        refine ⟨(Or.inl rfl), ?_⟩
        exact ⟨rfl, Or.inr ⟨rfl, fun c => β3 c.2⟩⟩
theorem m_coversR {d o : Nat} {I X : Nat → Nat → Int32} {J : Nat → Nat → Int64} {Y : Nat → Int64} {P : Nat → Nat} {t : zT} {l : List zI} (hz : zOK t) (hit : mtm I J l) (h10 : l.length ≤ 10) (hok : vIs t l) {i : Nat} (hin : i < l.length) (hT : mT (I 171 2) (J 172) (I 173) t) (ho : vn o) : gTM d 251 [.ref 171, .int (nI i), .long (lN (mo o))] (gST (nM I X) (m1 J 205 Y) P) (gB (gST (nM I X) (m1 J 205 Y) P) (cvr (t.2.1 (ig l i).2.1) o (ig l i))) := by
  have hI := hit i hin
  have hq := hok _ (ig_mem hin)
  have hq4 := hq.2.2.2.1
  have hq1 := hq.1
  have h4 := hz.2.1
  refine gT_n 7 ?_
  refine ⟨rfl, rfl, (pk_in i 10 (by omega) (rfl)), pm_ge ((ig l i).2.2.1) o (fun κ1 => ?_) (fun κ1 => ?_) ((rdJ (rfl) (by omega) hI.2.1.1)) (rfl) (hq.2.1) (ho)⟩
  · refine gT_n 2 ?_
    refine ⟨(Or.inl rfl), ?_⟩
    exact ⟨rfl, Or.inr ⟨rfl, fun c => absurd c.1 (by omega)⟩⟩
  · refine gT_n 7 ?_
    refine ⟨rfl, rfl, (pk_in i 10 (by omega) (rfl)), pm_lt o ((ig l i).2.2.2.1) (fun κ2 => ?_) (fun κ2 => ?_) (rfl) ((rdJ (rfl) (by omega) hI.2.1.2)) (ho) (hq.2.2.1)⟩
    · refine gT_n 3 ?_
      refine ⟨(Or.inr rfl), ?_⟩
      exact ⟨rfl, Or.inl ⟨rfl, by omega, Or.inl κ2⟩⟩
    · refine gT_n 13 ?_
      refine ⟨rfl, rfl, (pk_in i 10 (by omega) (rfl)), rfl, rfl, rfl, (pk_in i 10 (by omega) (rfl)), rfl, (pk_in ((ig l i).2.1) 4 (by omega) ((rdI (rfl) (by omega) hI.1.2.1))), pm_ne ((ig l i).2.2.2.1) ((t.2.1 (ig l i).2.1)) (fun κ3 => ?_) (fun κ3 => ?_) ((rdJ (rfl) (by omega) hI.2.1.2)) ((rdJ ((rdI (rfl) (by omega) hI.1.2.1)) (by omega) (hT.2.1 _ hq.1))) (hq.2.2.1) ((hz.2.2.2.2.1 _ hq.1))⟩
      · refine gT_n 2 ?_
        refine ⟨(Or.inl rfl), ?_⟩
        exact ⟨rfl, Or.inr ⟨rfl, fun c => c.2.elim (fun c => absurd c (by omega)) κ3⟩⟩
      · refine gT_n 3 ?_
        refine ⟨(Or.inr rfl), ?_⟩
        exact ⟨rfl, Or.inl ⟨rfl, by omega, Or.inr κ3⟩⟩
theorem m_recItem {d : Nat} {I X : Nat → Nat → Int32} {J : Nat → Nat → Int64} {Y : Nat → Int64} {P : Nat → Nat} {t : zT} {D : zK} {ck pk : Int32} {l : List zI} (hz : zOK t) (hS : nS t D ck pk l I J) {kn : Int32 → Prop} {so pz o : Nat} (hk : kro (X 206) kn) (h3 : so < 3) (hpz : pz < t.1) (hso : I 171 49 = nI so) (ho : vn o) : gTM (d + 8) 252 [.ref 171, .int (nI pz), .long (lN (mo o))] (gST (nM I X) (m1 J 205 Y) P) (fun r u => u = (gST (nM I X) (m1 J 205 Y) P) ∧ ((∃ i, isF l (recP pz so kn o) (some i) ∧ r = some (.int (nI i))) ∨ (isF l (recP pz so kn o) none ∧ r = some (.int (-4))))) := by
  obtain ⟨hT, hD, hck, hpk, hcn, hit, h10, hok, hsp⟩ := hS
  have h4 := hz.2.1
  have loop : ∀ i, i ≤ l.length → (∀ j, j < i → ¬ recP pz so kn o (ig l j)) → gT (d + 8) 252 3 [(4, .int (nI i)), (0, .ref 171), (1, .int (nI pz)), (2, .long (lN (mo o)))] [] (0, 0) (gST (nM I X) (m1 J 205 Y) P) (fun r u => u = (gST (nM I X) (m1 J 205 Y) P) ∧ ((∃ i, isF l (recP pz so kn o) (some i) ∧ r = some (.int (nI i))) ∨ (isF l (recP pz so kn o) none ∧ r = some (.int (-4))))) := by
    refine loopU l.length (fun i hi ih => ?_)
    intro hno
    by_cases hin : i < l.length
    · have hI := hit i hin
      have hq := hok _ (ig_mem hin)
      have hq4 := hq.2.2.2.1
      have hq1 := hq.1
      refine gT_n 4 ?_
      refine ⟨rfl, pk_le l.length i (fun κ1 => ?_) (fun κ1 => ?_) (hcn) (rfl) (by omega) (by omega)⟩
      · exact absurd hin (by omega)
      · refine gT_n 5 ?_
        refine ⟨rfl, rfl, gTM.use (m_isOfR (kn := kn) hz hit h10 hok hin (by omega) hk) (Nat.le_refl _) (fun r u hq => ?_)⟩
        obtain ⟨rfl, ⟨rfl, β2⟩ | ⟨rfl, β2⟩⟩ := hq  -- X12_isOf[R171, nI i, K2, nI pz]
        · refine gT_n 1 ?_
          refine ⟨fun c => absurd c (by decide), fun _ => ?_⟩
          refine gT_n 7 ?_
          refine ⟨rfl, rfl, (pk_in i 10 (by omega) (rfl)), pm_ne ((ig l i).2.2.1) o (fun κ3 => ?_) (fun κ3 => ?_) ((rdJ (rfl) (by omega) hI.2.1.1)) (rfl) (hq.2.1) (ho)⟩
          · refine gT_n 2 ?_
            have e := ih (i + 1) (by omega) (by omega) (fun j hj => by
              rcases Nat.lt_or_ge j i with g | g
              · exact hno j g
              · obtain rfl : j = i := by omega
                intro c
                obtain ⟨⟨c1, c2⟩, c3, c4⟩ := c
                first | exact absurd c1 (by assumption) | exact absurd c2 (by assumption) | exact absurd (And.intro c3 c4) (by assumption))
            rw [← nI_1 i] at e
            exact gT_k e ⟨rfl, rfl, rfl, rfl, trivial⟩ rfl
          · refine gT_n 7 ?_
            refine ⟨rfl, rfl, (pk_in i 10 (by omega) (rfl)), rfl, pk_ne ((ig l i).2.2.2.2.1) so (fun κ4 => ?_) (fun κ4 => ?_) ((rdI (rfl) (by omega) hI.1.2.2.1)) (hso) (by omega) (by omega)⟩
            · refine gT_n 2 ?_
              have e := ih (i + 1) (by omega) (by omega) (fun j hj => by
                rcases Nat.lt_or_ge j i with g | g
                · exact hno j g
                · obtain rfl : j = i := by omega
                  intro c
                  obtain ⟨⟨c1, c2⟩, c3, c4⟩ := c
                  first | exact absurd c1 (by assumption) | exact absurd c2 (by assumption) | exact absurd (And.intro c3 c4) (by assumption))
              rw [← nI_1 i] at e
              exact gT_k e ⟨rfl, rfl, rfl, rfl, trivial⟩ rfl
            · refine gT_n 2 ?_
              exact ⟨rfl, Or.inl ⟨i, ⟨hin, ⟨⟨κ3, κ4⟩, β2.1, β2.2⟩, hno⟩, rfl⟩⟩
        · refine gT_n 1 ?_
          refine ⟨fun _ => ?_, fun c => absurd (by decide) c⟩
          refine gT_n 2 ?_
          have e := ih (i + 1) (by omega) (by omega) (fun j hj => by
            rcases Nat.lt_or_ge j i with g | g
            · exact hno j g
            · obtain rfl : j = i := by omega
              intro c
              obtain ⟨⟨c1, c2⟩, c3, c4⟩ := c
              first | exact absurd c1 (by assumption) | exact absurd c2 (by assumption) | exact absurd (And.intro c3 c4) (by assumption))
          rw [← nI_1 i] at e
          exact gT_k e ⟨rfl, rfl, rfl, rfl, trivial⟩ rfl
    · refine gT_n 4 ?_
      refine ⟨rfl, pk_le l.length i (fun κ1 => ?_) (fun κ1 => ?_) (hcn) (rfl) (by omega) (by omega)⟩
      · refine gT_n 2 ?_
        exact ⟨rfl, Or.inr ⟨fun j hj => hno j (by omega), rfl⟩⟩
      · exact absurd (show i < l.length by omega) hin
  refine gT_n 2 ?_
  exact gT_k (loop 0 (by omega) (fun j hj => absurd hj (Nat.not_lt_zero j))) ⟨rfl, rfl, rfl, rfl, trivial⟩ rfl
theorem m_covItem0 {d : Nat} {I X : Nat → Nat → Int32} {J : Nat → Nat → Int64} {Y : Nat → Int64} {P : Nat → Nat} {t : zT} {D : zK} {ck pk : Int32} {l : List zI} (hz : zOK t) (hS : nS t D ck pk l I J) {kn : Int32 → Prop} {so pz o : Nat} (hk : kro (X 206) kn) (h3 : so < 3) (hpz : pz < t.1) (hso : I 171 49 = nI so) (ho : vn o) : gTM (d + 8) 254 [.ref 171, .int (nI pz), .long (lN (mo o)), .int 0] (gST (nM I X) (m1 J 205 Y) P) (fun r u => u = (gST (nM I X) (m1 J 205 Y) P) ∧ ((∃ i, isF l (cvP (t.2.1 pz) pz kn o) (some i) ∧ r = some (.int (nI i))) ∨ (isF l (cvP (t.2.1 pz) pz kn o) none ∧ r = some (.int (-4))))) := by
  obtain ⟨hT, hD, hck, hpk, hcn, hit, h10, hok, hsp⟩ := hS
  have h4 := hz.2.1
  have loop : ∀ i, i ≤ l.length → (∀ j, j < i → ¬ cvP (t.2.1 pz) pz kn o (ig l j)) → gT (d + 8) 254 3 [(5, .int (nI i)), (0, .ref 171), (1, .int (nI pz)), (2, .long (lN (mo o))), (4, .int 0)] [] (0, 0) (gST (nM I X) (m1 J 205 Y) P) (fun r u => u = (gST (nM I X) (m1 J 205 Y) P) ∧ ((∃ i, isF l (cvP (t.2.1 pz) pz kn o) (some i) ∧ r = some (.int (nI i))) ∨ (isF l (cvP (t.2.1 pz) pz kn o) none ∧ r = some (.int (-4))))) := by
    refine loopU l.length (fun i hi ih => ?_)
    intro hno
    by_cases hin : i < l.length
    · have hI := hit i hin
      have hq := hok _ (ig_mem hin)
      have hq4 := hq.2.2.2.1
      have hq1 := hq.1
      refine gT_n 4 ?_
      refine ⟨rfl, pk_le l.length i (fun κ1 => ?_) (fun κ1 => ?_) (hcn) (rfl) (by omega) (by omega)⟩
      · exact absurd hin (by omega)
      · refine gT_n 5 ?_
        refine ⟨rfl, rfl, gTM.use (m_isOfR (kn := kn) hz hit h10 hok hin (by omega) hk) (Nat.le_refl _) (fun r u hq => ?_)⟩
        obtain ⟨rfl, ⟨rfl, β2⟩ | ⟨rfl, β2⟩⟩ := hq  -- X12_isOf[R171, nI i, K3, nI pz]
        · refine gT_n 1 ?_
          refine ⟨fun c => absurd c (by decide), fun _ => ?_⟩
          refine gT_n 4 ?_
          refine ⟨rfl, rfl, gTM.use (m_coversR hz hit h10 hok hin hT ho) (Nat.le_refl _) (fun r u hq => ?_)⟩
          obtain ⟨rfl, ⟨rfl, β3⟩ | ⟨rfl, β3⟩⟩ := hq  -- X12_covers[R171, nI i, lN o]
          · refine gT_n 1 ?_
            refine ⟨fun c => absurd c (by decide), fun _ => ?_⟩
            refine gT_n 2 ?_
            refine ⟨fun _ => ?_, fun c => absurd (by decide) c⟩
            refine gT_n 2 ?_
            exact ⟨rfl, Or.inl ⟨i, ⟨hin, ⟨(by have h := β3; rw [β2.1.2] at h; exact h), β2.1, β2.2⟩, hno⟩, rfl⟩⟩
          · refine gT_n 1 ?_
            refine ⟨fun _ => ?_, fun c => absurd (by decide) c⟩
            refine gT_n 2 ?_
            have e := ih (i + 1) (by omega) (by omega) (fun j hj => by
              rcases Nat.lt_or_ge j i with g | g
              · exact hno j g
              · obtain rfl : j = i := by omega
                intro c
                obtain ⟨c1, c3, c4⟩ := c
                have e3 := c3.2
                first | exact absurd (And.intro c3 c4) (by assumption) | exact absurd (show cvr (t.2.1 (ig l j).2.1) o (ig l j) by rw [e3]; exact c1) (by assumption))
            rw [← nI_1 i] at e
            exact gT_k e ⟨rfl, rfl, rfl, rfl, rfl, trivial⟩ rfl
        · refine gT_n 1 ?_
          refine ⟨fun _ => ?_, fun c => absurd (by decide) c⟩
          refine gT_n 2 ?_
          have e := ih (i + 1) (by omega) (by omega) (fun j hj => by
            rcases Nat.lt_or_ge j i with g | g
            · exact hno j g
            · obtain rfl : j = i := by omega
              intro c
              obtain ⟨c1, c3, c4⟩ := c
              have e3 := c3.2
              first | exact absurd (And.intro c3 c4) (by assumption) | exact absurd (show cvr (t.2.1 (ig l j).2.1) o (ig l j) by rw [e3]; exact c1) (by assumption))
          rw [← nI_1 i] at e
          exact gT_k e ⟨rfl, rfl, rfl, rfl, rfl, trivial⟩ rfl
    · refine gT_n 4 ?_
      refine ⟨rfl, pk_le l.length i (fun κ1 => ?_) (fun κ1 => ?_) (hcn) (rfl) (by omega) (by omega)⟩
      · refine gT_n 2 ?_
        exact ⟨rfl, Or.inr ⟨fun j hj => hno j (by omega), rfl⟩⟩
      · exact absurd (show i < l.length by omega) hin
  refine gT_n 2 ?_
  exact gT_k (loop 0 (by omega) (fun j hj => absurd hj (Nat.not_lt_zero j))) ⟨rfl, rfl, rfl, rfl, rfl, trivial⟩ rfl
theorem m_covItem1 {d : Nat} {I X : Nat → Nat → Int32} {J : Nat → Nat → Int64} {Y : Nat → Int64} {P : Nat → Nat} {t : zT} {D : zK} {ck pk : Int32} {l : List zI} (hz : zOK t) (hS : nS t D ck pk l I J) {kn : Int32 → Prop} {so pz o : Nat} (hk : kro (X 206) kn) (h3 : so < 3) (hpz : pz < t.1) (hso : I 171 49 = nI so) (ho : vn o) : gTM (d + 8) 254 [.ref 171, .int (nI pz), .long (lN (mo o)), .int 1] (gST (nM I X) (m1 J 205 Y) P) (fun r u => u = (gST (nM I X) (m1 J 205 Y) P) ∧ ((∃ i, isF l (ltP (t.2.1 pz) pz kn o) (some i) ∧ r = some (.int (nI i))) ∨ (isF l (ltP (t.2.1 pz) pz kn o) none ∧ r = some (.int (-4))))) := by
  obtain ⟨hT, hD, hck, hpk, hcn, hit, h10, hok, hsp⟩ := hS
  have h4 := hz.2.1
  have loop : ∀ i, i ≤ l.length → (∀ j, j < i → ¬ ltP (t.2.1 pz) pz kn o (ig l j)) → gT (d + 8) 254 3 [(5, .int (nI i)), (0, .ref 171), (1, .int (nI pz)), (2, .long (lN (mo o))), (4, .int 1)] [] (0, 0) (gST (nM I X) (m1 J 205 Y) P) (fun r u => u = (gST (nM I X) (m1 J 205 Y) P) ∧ ((∃ i, isF l (ltP (t.2.1 pz) pz kn o) (some i) ∧ r = some (.int (nI i))) ∨ (isF l (ltP (t.2.1 pz) pz kn o) none ∧ r = some (.int (-4))))) := by
    refine loopU l.length (fun i hi ih => ?_)
    intro hno
    by_cases hin : i < l.length
    · have hI := hit i hin
      have hq := hok _ (ig_mem hin)
      have hq4 := hq.2.2.2.1
      have hq1 := hq.1
      refine gT_n 4 ?_
      refine ⟨rfl, pk_le l.length i (fun κ1 => ?_) (fun κ1 => ?_) (hcn) (rfl) (by omega) (by omega)⟩
      · exact absurd hin (by omega)
      · refine gT_n 5 ?_
        refine ⟨rfl, rfl, gTM.use (m_isOfR (kn := kn) hz hit h10 hok hin (by omega) hk) (Nat.le_refl _) (fun r u hq => ?_)⟩
        obtain ⟨rfl, ⟨rfl, β2⟩ | ⟨rfl, β2⟩⟩ := hq  -- X12_isOf[R171, nI i, K3, nI pz]
        · refine gT_n 1 ?_
          refine ⟨fun c => absurd c (by decide), fun _ => ?_⟩
          refine gT_n 4 ?_
          refine ⟨rfl, rfl, gTM.use (m_coversR hz hit h10 hok hin hT ho) (Nat.le_refl _) (fun r u hq => ?_)⟩
          obtain ⟨rfl, ⟨rfl, β3⟩ | ⟨rfl, β3⟩⟩ := hq  -- X12_covers[R171, nI i, lN o]
          · refine gT_n 1 ?_
            refine ⟨fun c => absurd c (by decide), fun _ => ?_⟩
            refine gT_n 2 ?_
            refine ⟨fun c => absurd c (by decide), fun _ => ?_⟩
            refine gT_n 6 ?_
            refine ⟨rfl, rfl, (pk_in i 10 (by omega) (rfl)), rfl, gTM.useA (n_isAbove ho hq.2.2.1) (Nat.le_refl _) (aL (rfl) (aL ((rdJ (rfl) (by omega) hI.2.1.2)) (rfl))) (fun r u hq => ?_)⟩
            obtain ⟨rfl, ⟨rfl, β4⟩ | ⟨rfl, β4⟩⟩ := hq  -- X12_isAbove[lN o, lN ((ig l i).2.2.2.1)]
            · refine gT_n 1 ?_
              refine ⟨fun c => absurd c (by decide), fun _ => ?_⟩
              refine gT_n 2 ?_
              exact ⟨rfl, Or.inl ⟨i, ⟨hin, ⟨⟨(by have h := β3; rw [β2.1.2] at h; exact h), (nab_v ho.1 hq.2.2.1.1).mpr β4⟩, β2.1, β2.2⟩, hno⟩, rfl⟩⟩
            · refine gT_n 1 ?_
              refine ⟨fun _ => ?_, fun c => absurd (by decide) c⟩
              refine gT_n 2 ?_
              have e := ih (i + 1) (by omega) (by omega) (fun j hj => by
                rcases Nat.lt_or_ge j i with g | g
                · exact hno j g
                · obtain rfl : j = i := by omega
                  intro c
                  obtain ⟨c1, c3, c4⟩ := c
                  have e3 := c3.2
                  obtain ⟨c1, c5⟩ := c1
                  first | exact absurd (And.intro c3 c4) (by assumption) | exact absurd (show cvr (t.2.1 (ig l j).2.1) o (ig l j) by rw [e3]; exact c1) (by assumption) | exact absurd ((nab_v ho.1 hq.2.2.1.1).mp c5) (by assumption))
              rw [← nI_1 i] at e
              exact gT_k e ⟨rfl, rfl, rfl, rfl, rfl, trivial⟩ rfl
          · refine gT_n 1 ?_
            refine ⟨fun _ => ?_, fun c => absurd (by decide) c⟩
            refine gT_n 2 ?_
            have e := ih (i + 1) (by omega) (by omega) (fun j hj => by
              rcases Nat.lt_or_ge j i with g | g
              · exact hno j g
              · obtain rfl : j = i := by omega
                intro c
                obtain ⟨c1, c3, c4⟩ := c
                have e3 := c3.2
                obtain ⟨c1, c5⟩ := c1
                first | exact absurd (And.intro c3 c4) (by assumption) | exact absurd (show cvr (t.2.1 (ig l j).2.1) o (ig l j) by rw [e3]; exact c1) (by assumption) | exact absurd ((nab_v ho.1 hq.2.2.1.1).mp c5) (by assumption))
            rw [← nI_1 i] at e
            exact gT_k e ⟨rfl, rfl, rfl, rfl, rfl, trivial⟩ rfl
        · refine gT_n 1 ?_
          refine ⟨fun _ => ?_, fun c => absurd (by decide) c⟩
          refine gT_n 2 ?_
          have e := ih (i + 1) (by omega) (by omega) (fun j hj => by
            rcases Nat.lt_or_ge j i with g | g
            · exact hno j g
            · obtain rfl : j = i := by omega
              intro c
              obtain ⟨c1, c3, c4⟩ := c
              have e3 := c3.2
              obtain ⟨c1, c5⟩ := c1
              first | exact absurd (And.intro c3 c4) (by assumption) | exact absurd (show cvr (t.2.1 (ig l j).2.1) o (ig l j) by rw [e3]; exact c1) (by assumption) | exact absurd ((nab_v ho.1 hq.2.2.1.1).mp c5) (by assumption))
          rw [← nI_1 i] at e
          exact gT_k e ⟨rfl, rfl, rfl, rfl, rfl, trivial⟩ rfl
    · refine gT_n 4 ?_
      refine ⟨rfl, pk_le l.length i (fun κ1 => ?_) (fun κ1 => ?_) (hcn) (rfl) (by omega) (by omega)⟩
      · refine gT_n 2 ?_
        exact ⟨rfl, Or.inr ⟨fun j hj => hno j (by omega), rfl⟩⟩
      · exact absurd (show i < l.length by omega) hin
  refine gT_n 2 ?_
  exact gT_k (loop 0 (by omega) (fun j hj => absurd hj (Nat.not_lt_zero j))) ⟨rfl, rfl, rfl, rfl, rfl, trivial⟩ rfl
theorem m_without {d : Nat} {I X : Nat → Nat → Int32} {J : Nat → Nat → Int64} {Y : Nat → Int64} {P : Nat → Nat} {t : zT} {D : zK} {ck pk : Int32} {l : List zI} (hz : zOK t) (hS : nS t D ck pk l I J) {kn : Int32 → Prop} {so pz o : Nat} (hk : kro (X 206) kn) (h3 : so < 3) (hpz : pz < t.1) (hso : I 171 49 = nI so) (ho : vn o) : gTM (d + 8) 253 [.ref 171, .int (nI pz), .long (lN (mo o))] (gST (nM I X) (m1 J 205 Y) P) (gB (gST (nM I X) (m1 J 205 Y) P) (∃ i, i < l.length ∧ woP pz so kn o (ig l i))) := by
  obtain ⟨hT, hD, hck, hpk, hcn, hit, h10, hok, hsp⟩ := hS
  have h4 := hz.2.1
  have loop : ∀ i, i ≤ l.length → ((∃ j, j < i ∧ woP pz so kn o (ig l j)) → gT (d + 8) 253 6 [(5, .int (nI i)), (4, .int 1), (0, .ref 171), (1, .int (nI pz)), (2, .long (lN (mo o)))] [] (0, 0) (gST (nM I X) (m1 J 205 Y) P) (gB (gST (nM I X) (m1 J 205 Y) P) (∃ i, i < l.length ∧ woP pz so kn o (ig l i)))) ∧ (¬ (∃ j, j < i ∧ woP pz so kn o (ig l j)) → gT (d + 8) 253 6 [(5, .int (nI i)), (4, .int 0), (0, .ref 171), (1, .int (nI pz)), (2, .long (lN (mo o)))] [] (0, 0) (gST (nM I X) (m1 J 205 Y) P) (gB (gST (nM I X) (m1 J 205 Y) P) (∃ i, i < l.length ∧ woP pz so kn o (ig l i)))) := by
    refine loopU l.length (fun i hi ih => ⟨?_, ?_⟩)
    · intro hno
      by_cases hin : i < l.length
      · have hI := hit i hin
        have hq := hok _ (ig_mem hin)
        have hq4 := hq.2.2.2.1
        have hq1 := hq.1
        refine gT_n 4 ?_
        refine ⟨rfl, pk_le l.length i (fun κ1 => ?_) (fun κ1 => ?_) (hcn) (rfl) (by omega) (by omega)⟩
        · exact absurd hin (by omega)
        · refine gT_n 2 ?_
          refine ⟨fun _ => ?_, fun c => absurd c (by decide)⟩
          refine gT_n 5 ?_
          have e := (ih (i + 1) (by omega) (by omega)).1 (by obtain ⟨j, hj, h⟩ := hno; exact ⟨j, by omega, h⟩)
          rw [← nI_1 i] at e
          exact gT_k e ⟨rfl, rfl, rfl, rfl, rfl, trivial⟩ rfl
      · refine gT_n 4 ?_
        refine ⟨rfl, pk_le l.length i (fun κ1 => ?_) (fun κ1 => ?_) (hcn) (rfl) (by omega) (by omega)⟩
        · refine gT_n 2 ?_
          refine ⟨(Or.inr rfl), ?_⟩
          exact ⟨rfl, Or.inl ⟨rfl, by obtain ⟨j, hj, h⟩ := hno; exact ⟨j, by omega, h⟩⟩⟩
        · exact absurd (show i < l.length by omega) hin
    · intro hno
      by_cases hin : i < l.length
      · have hI := hit i hin
        have hq := hok _ (ig_mem hin)
        have hq4 := hq.2.2.2.1
        have hq1 := hq.1
        refine gT_n 4 ?_
        refine ⟨rfl, pk_le l.length i (fun κ1 => ?_) (fun κ1 => ?_) (hcn) (rfl) (by omega) (by omega)⟩
        · exact absurd hin (by omega)
        · refine gT_n 2 ?_
          refine ⟨fun c => absurd (by decide) c, fun _ => ?_⟩
          refine gT_n 5 ?_
          refine ⟨rfl, rfl, gTM.use (m_isOfR (kn := kn) hz hit h10 hok hin (by omega) hk) (Nat.le_refl _) (fun r u hq => ?_)⟩
          obtain ⟨rfl, ⟨rfl, β2⟩ | ⟨rfl, β2⟩⟩ := hq  -- X12_isOf[R171, nI i, K3, nI pz]
          · refine gT_n 1 ?_
            refine ⟨fun c => absurd c (by decide), fun _ => ?_⟩
            refine gT_n 7 ?_
            refine ⟨rfl, rfl, (pk_in i 10 (by omega) (rfl)), pm_ne ((ig l i).2.2.1) o (fun κ3 => ?_) (fun κ3 => ?_) ((rdJ (rfl) (by omega) hI.2.1.1)) (rfl) (hq.2.1) (ho)⟩
            · refine gT_n 4 ?_
              have e := (ih (i + 1) (by omega) (by omega)).2 (fun c => by
                obtain ⟨j, hj, c⟩ := c
                rcases Nat.lt_or_ge j i with g | g
                · exact hno ⟨j, g, c⟩
                · obtain rfl : j = i := by omega
                  obtain ⟨⟨c1, c2⟩, c3, c4⟩ := c
                  first | exact absurd c1 (by assumption) | exact absurd ((srb hq4 h3).mpr c2) (by assumption) | exact absurd (And.intro c3 c4) (by assumption))
              rw [← nI_1 i] at e
              exact gT_k e ⟨rfl, rfl, rfl, rfl, rfl, trivial⟩ rfl
            · refine gT_n 10 ?_
              refine ⟨rfl, rfl, (pk_in i 10 (by omega) (rfl)), rfl, pk_ne ((((ig l i).2.2.2.2.1) >>> so) &&& 1) 0 (fun κ4 => ?_) (fun κ4 => ?_) (pk_ndE (n := (((ig l i).2.2.2.2.1) >>> so)) (k := 1) (pk_srE (n := ((ig l i).2.2.2.2.1)) (k := so) ((rdI (rfl) (by omega) hI.1.2.2.1)) (hso) (by omega) (h3)) (rfl) ((sr_64 (by omega))) (by omega)) (rfl) (Nat.lt_trans (Nat.lt_of_le_of_lt Nat.and_le_left ((sr_64 (by omega)))) (by decide)) (by omega)⟩
              · refine gT_n 4 ?_
                have e := (ih (i + 1) (by omega) (by omega)).2 (fun c => by
                  obtain ⟨j, hj, c⟩ := c
                  rcases Nat.lt_or_ge j i with g | g
                  · exact hno ⟨j, g, c⟩
                  · obtain rfl : j = i := by omega
                    obtain ⟨⟨c1, c2⟩, c3, c4⟩ := c
                    first | exact absurd c1 (by assumption) | exact absurd ((srb hq4 h3).mpr c2) (by assumption) | exact absurd (And.intro c3 c4) (by assumption))
                rw [← nI_1 i] at e
                exact gT_k e ⟨rfl, rfl, rfl, rfl, rfl, trivial⟩ rfl
              · refine gT_n 5 ?_
                have e := (ih (i + 1) (by omega) (by omega)).1 ⟨i, by omega, ⟨κ3, (srb hq4 h3).mp κ4⟩, β2.1, β2.2⟩
                rw [← nI_1 i] at e
                exact gT_k e ⟨rfl, rfl, rfl, rfl, rfl, trivial⟩ rfl
          · refine gT_n 1 ?_
            refine ⟨fun _ => ?_, fun c => absurd (by decide) c⟩
            refine gT_n 4 ?_
            have e := (ih (i + 1) (by omega) (by omega)).2 (fun c => by
              obtain ⟨j, hj, c⟩ := c
              rcases Nat.lt_or_ge j i with g | g
              · exact hno ⟨j, g, c⟩
              · obtain rfl : j = i := by omega
                obtain ⟨⟨c1, c2⟩, c3, c4⟩ := c
                first | exact absurd c1 (by assumption) | exact absurd ((srb hq4 h3).mpr c2) (by assumption) | exact absurd (And.intro c3 c4) (by assumption))
            rw [← nI_1 i] at e
            exact gT_k e ⟨rfl, rfl, rfl, rfl, rfl, trivial⟩ rfl
      · refine gT_n 4 ?_
        refine ⟨rfl, pk_le l.length i (fun κ1 => ?_) (fun κ1 => ?_) (hcn) (rfl) (by omega) (by omega)⟩
        · refine gT_n 2 ?_
          refine ⟨(Or.inl rfl), ?_⟩
          exact ⟨rfl, Or.inr ⟨rfl, fun c => hno (by obtain ⟨j, hj, h⟩ := c; exact ⟨j, by omega, h⟩)⟩⟩
        · exact absurd (show i < l.length by omega) hin
  refine gT_n 4 ?_
  exact gT_k ((loop 0 (by omega)).2 (fun c => by obtain ⟨j, hj, -⟩ := c; exact absurd hj (Nat.not_lt_zero j))) ⟨rfl, rfl, rfl, rfl, rfl, trivial⟩ rfl
theorem m_starByR {d nm : Nat} {I X : Nat → Nat → Int32} {J : Nat → Nat → Int64} {Y : Nat → Int64} {P : Nat → Nat} {t : zT} {l : List zI} (hz : zOK t) (hit : mtm I J l) (h10 : l.length ≤ 10) (hok : vIs t l) {i : Nat} (hin : i < l.length) (hn : vn nm) (hn0 : ¬ nm = 0) : gTM (d + 4) 255 [.ref 171, .long (lN (mo nm)), .int (nI i)] (gST (nM I X) (m1 J 205 Y) P) (fun r u => u = (gST (nM I X) (m1 J 205 Y) P) ∧ ∃ k, isG nm (ig l i).2.2.1 (ig l i).2.2.2.1 k ∧ r = some (.long (lN (mo (nlon (nfst nm k) 1))))) := by
  have hI := hit i hin
  have hq := hok _ (ig_mem hin)
  have hq4 := hq.2.2.2.1
  have hq1 := hq.1
  have h4 := hz.2.1
  have c4 := cnt_le nm
  have c1 := cnt_pos hn hn0
  have loop : ∀ k, k + 1 ≤ cnt nm → (∀ j, k < j → j + 1 ≤ cnt nm → ¬ rcG nm (ig l i).2.2.1 (ig l i).2.2.2.1 j) → gT (d + 4) 255 11 [(4, .int (nI k)), (5, .int 0), (0, .ref 171), (1, .long (lN (mo nm))), (3, .int (nI i))] [] (0, 0) (gST (nM I X) (m1 J 205 Y) P) (fun r u => u = (gST (nM I X) (m1 J 205 Y) P) ∧ ∃ k, isG nm (ig l i).2.2.1 (ig l i).2.2.2.1 k ∧ r = some (.long (lN (mo (nlon (nfst nm k) 1))))) := by
    intro k
    induction k using Nat.strongRecOn with
    | ind k ih =>
    intro hk1 hno
    by_cases hk0 : k = 0
    · refine gT_n 2 ?_
      refine ⟨fun c => absurd (by decide) c, fun _ => ?_⟩
      refine gT_n 3 ?_
      refine ⟨rfl, gTM.use (n_firstOf (k := k) hn.lt (by omega)) (Nat.le_refl _) (fun r u hq => ?_)⟩
      obtain ⟨rfl, rfl⟩ := hq  -- X12_firstOf[lN nm, nI k]
      refine gT_n 8 ?_
      refine ⟨rfl, rfl, (pk_in i 10 (by omega) (rfl)), pm_eq ((nfst nm k)) ((ig l i).2.2.1) (fun κ1 => ?_) (fun κ1 => ?_) (rfl) ((rdJ (rfl) (by omega) hI.2.1.1)) ((vn_fst hn (by omega))) (hq.2.1)⟩
      · refine gT_n 6 ?_
        refine ⟨fun c => absurd c (by decide), fun _ => ?_⟩
        refine gT_n 4 ?_
        refine gT_k (L := [(4, .int (nI (k - 0))), (5, .int 1), (6, .long (lN (mo ((nfst nm k))))), (0, .ref 171), (1, .long (lN (mo nm))), (3, .int (nI i))]) ?_ ⟨(viI (pk_subE (n := k) (k := 0) (rfl) (rfl) (by omega))), rfl, rfl, rfl, rfl, rfl, trivial⟩ rfl
        refine gT_n 1 ?_
        refine gT_k (L := [(4, .int (nI k)), (5, .int 1), (0, .ref 171), (1, .long (lN (mo nm)))]) ?_ ⟨rfl, rfl, rfl, rfl, trivial⟩ rfl
        refine gT_n 2 ?_
        refine ⟨fun _ => ?_, fun c => absurd c (by decide)⟩
        refine gT_n 3 ?_
        refine ⟨rfl, gTM.use (n_firstOf (k := k) hn.lt (by omega)) (Nat.le_refl _) (fun r u hq => ?_)⟩
        obtain ⟨rfl, rfl⟩ := hq  -- X12_firstOf[lN nm, nI k]
        refine gT_n 2 ?_
        refine ⟨rfl, gTM.use (n_withLabel (x := 1) (nfst_wf hn.1 (by omega)) (by rw [cnt_fk hn (by omega)]; omega) (by decide)) (Nat.le_refl _) (fun r u hq => ?_)⟩
        obtain ⟨rfl, rfl⟩ := hq  -- X12_withLabel[lN ((nfst nm k)), K1]
        refine gT_n 1 ?_
        refine ⟨rfl, ?_⟩
        have hcn2 := cnt_fk hn (k := k) (by omega)
        exact ⟨rfl, k, ⟨by omega, Or.inr (by first | exact Or.inl ((rch_n hq.2.1 (by omega) hcn2).mp (Or.inl κ1)) | exact Or.inr ((rch_n hq.2.2.1 (by omega) hcn2).mp (Or.inl κ1)) | exact Or.inl ((rch_n hq.2.1 (by omega) hcn2).mp (Or.inr κ1)) | exact Or.inr ((rch_n hq.2.2.1 (by omega) hcn2).mp (Or.inr κ1))), hno⟩, rfl⟩
      · refine gT_n 7 ?_
        refine ⟨rfl, rfl, (pk_in i 10 (by omega) (rfl)), pm_eq ((nfst nm k)) ((ig l i).2.2.2.1) (fun κ2 => ?_) (fun κ2 => ?_) (rfl) ((rdJ (rfl) (by omega) hI.2.1.2)) ((vn_fst hn (by omega))) (hq.2.2.1)⟩
        · refine gT_n 6 ?_
          refine ⟨fun c => absurd c (by decide), fun _ => ?_⟩
          refine gT_n 4 ?_
          refine gT_k (L := [(4, .int (nI (k - 0))), (5, .int 1), (6, .long (lN (mo ((nfst nm k))))), (0, .ref 171), (1, .long (lN (mo nm))), (3, .int (nI i))]) ?_ ⟨(viI (pk_subE (n := k) (k := 0) (rfl) (rfl) (by omega))), rfl, rfl, rfl, rfl, rfl, trivial⟩ rfl
          refine gT_n 1 ?_
          refine gT_k (L := [(4, .int (nI k)), (5, .int 1), (0, .ref 171), (1, .long (lN (mo nm)))]) ?_ ⟨rfl, rfl, rfl, rfl, trivial⟩ rfl
          refine gT_n 2 ?_
          refine ⟨fun _ => ?_, fun c => absurd c (by decide)⟩
          refine gT_n 3 ?_
          refine ⟨rfl, gTM.use (n_firstOf (k := k) hn.lt (by omega)) (Nat.le_refl _) (fun r u hq => ?_)⟩
          obtain ⟨rfl, rfl⟩ := hq  -- X12_firstOf[lN nm, nI k]
          refine gT_n 2 ?_
          refine ⟨rfl, gTM.use (n_withLabel (x := 1) (nfst_wf hn.1 (by omega)) (by rw [cnt_fk hn (by omega)]; omega) (by decide)) (Nat.le_refl _) (fun r u hq => ?_)⟩
          obtain ⟨rfl, rfl⟩ := hq  -- X12_withLabel[lN ((nfst nm k)), K1]
          refine gT_n 1 ?_
          refine ⟨rfl, ?_⟩
          have hcn2 := cnt_fk hn (k := k) (by omega)
          exact ⟨rfl, k, ⟨by omega, Or.inr (by first | exact Or.inl ((rch_n hq.2.1 (by omega) hcn2).mp (Or.inl κ2)) | exact Or.inr ((rch_n hq.2.2.1 (by omega) hcn2).mp (Or.inl κ2)) | exact Or.inl ((rch_n hq.2.1 (by omega) hcn2).mp (Or.inr κ2)) | exact Or.inr ((rch_n hq.2.2.1 (by omega) hcn2).mp (Or.inr κ2))), hno⟩, rfl⟩
        · refine gT_n 6 ?_
          refine ⟨rfl, rfl, (pk_in i 10 (by omega) (rfl)), rfl, gTM.useA (n_isAbove (vn_fst hn (by omega)) hq.2.1) (Nat.le_refl _) (aL (rfl) (aL ((rdJ (rfl) (by omega) hI.2.1.1)) (rfl))) (fun r u hq => ?_)⟩
          obtain ⟨rfl, ⟨rfl, β3⟩ | ⟨rfl, β3⟩⟩ := hq  -- X12_isAbove[lN ((nfst nm k)), lN ((ig l i).2.2.1)]
          · refine gT_n 1 ?_
            refine ⟨fun _ => ?_, fun c => absurd c (by decide)⟩
            refine gT_n 6 ?_
            refine ⟨fun c => absurd c (by decide), fun _ => ?_⟩
            refine gT_n 4 ?_
            refine gT_k (L := [(4, .int (nI (k - 0))), (5, .int 1), (6, .long (lN (mo ((nfst nm k))))), (0, .ref 171), (1, .long (lN (mo nm))), (3, .int (nI i))]) ?_ ⟨(viI (pk_subE (n := k) (k := 0) (rfl) (rfl) (by omega))), rfl, rfl, rfl, rfl, rfl, trivial⟩ rfl
            refine gT_n 1 ?_
            refine gT_k (L := [(4, .int (nI k)), (5, .int 1), (0, .ref 171), (1, .long (lN (mo nm)))]) ?_ ⟨rfl, rfl, rfl, rfl, trivial⟩ rfl
            refine gT_n 2 ?_
            refine ⟨fun _ => ?_, fun c => absurd c (by decide)⟩
            refine gT_n 3 ?_
            refine ⟨rfl, gTM.use (n_firstOf (k := k) hn.lt (by omega)) (Nat.le_refl _) (fun r u hq => ?_)⟩
            obtain ⟨rfl, rfl⟩ := hq  -- X12_firstOf[lN nm, nI k]
            refine gT_n 2 ?_
            refine ⟨rfl, gTM.use (n_withLabel (x := 1) (nfst_wf hn.1 (by omega)) (by rw [cnt_fk hn (by omega)]; omega) (by decide)) (Nat.le_refl _) (fun r u hq => ?_)⟩
            obtain ⟨rfl, rfl⟩ := hq  -- X12_withLabel[lN ((nfst nm k)), K1]
            refine gT_n 1 ?_
            refine ⟨rfl, ?_⟩
            have hcn2 := cnt_fk hn (k := k) (by omega)
            exact ⟨rfl, k, ⟨by omega, Or.inr (by first | exact Or.inl ((rch_n hq.2.1 (by omega) hcn2).mp (Or.inl β3)) | exact Or.inr ((rch_n hq.2.2.1 (by omega) hcn2).mp (Or.inl β3)) | exact Or.inl ((rch_n hq.2.1 (by omega) hcn2).mp (Or.inr β3)) | exact Or.inr ((rch_n hq.2.2.1 (by omega) hcn2).mp (Or.inr β3))), hno⟩, rfl⟩
          · refine gT_n 1 ?_
            refine ⟨fun c => absurd (by decide) c, fun _ => ?_⟩
            refine gT_n 6 ?_
            refine ⟨rfl, rfl, (pk_in i 10 (by omega) (rfl)), rfl, gTM.useA (n_isAbove (vn_fst hn (by omega)) hq.2.2.1) (Nat.le_refl _) (aL (rfl) (aL ((rdJ (rfl) (by omega) hI.2.1.2)) (rfl))) (fun r u hq => ?_)⟩
            obtain ⟨rfl, ⟨rfl, β4⟩ | ⟨rfl, β4⟩⟩ := hq  -- X12_isAbove[lN ((nfst nm k)), lN ((ig l i).2.2.2.1)]
            · refine gT_n 1 ?_
              refine ⟨fun c => absurd c (by decide), fun _ => ?_⟩
              refine gT_n 6 ?_
              refine ⟨fun c => absurd c (by decide), fun _ => ?_⟩
              refine gT_n 4 ?_
              refine gT_k (L := [(4, .int (nI (k - 0))), (5, .int 1), (6, .long (lN (mo ((nfst nm k))))), (0, .ref 171), (1, .long (lN (mo nm))), (3, .int (nI i))]) ?_ ⟨(viI (pk_subE (n := k) (k := 0) (rfl) (rfl) (by omega))), rfl, rfl, rfl, rfl, rfl, trivial⟩ rfl
              refine gT_n 1 ?_
              refine gT_k (L := [(4, .int (nI k)), (5, .int 1), (0, .ref 171), (1, .long (lN (mo nm)))]) ?_ ⟨rfl, rfl, rfl, rfl, trivial⟩ rfl
              refine gT_n 2 ?_
              refine ⟨fun _ => ?_, fun c => absurd c (by decide)⟩
              refine gT_n 3 ?_
              refine ⟨rfl, gTM.use (n_firstOf (k := k) hn.lt (by omega)) (Nat.le_refl _) (fun r u hq => ?_)⟩
              obtain ⟨rfl, rfl⟩ := hq  -- X12_firstOf[lN nm, nI k]
              refine gT_n 2 ?_
              refine ⟨rfl, gTM.use (n_withLabel (x := 1) (nfst_wf hn.1 (by omega)) (by rw [cnt_fk hn (by omega)]; omega) (by decide)) (Nat.le_refl _) (fun r u hq => ?_)⟩
              obtain ⟨rfl, rfl⟩ := hq  -- X12_withLabel[lN ((nfst nm k)), K1]
              refine gT_n 1 ?_
              refine ⟨rfl, ?_⟩
              have hcn2 := cnt_fk hn (k := k) (by omega)
              exact ⟨rfl, k, ⟨by omega, Or.inr (by first | exact Or.inl ((rch_n hq.2.1 (by omega) hcn2).mp (Or.inl β4)) | exact Or.inr ((rch_n hq.2.2.1 (by omega) hcn2).mp (Or.inl β4)) | exact Or.inl ((rch_n hq.2.1 (by omega) hcn2).mp (Or.inr β4)) | exact Or.inr ((rch_n hq.2.2.1 (by omega) hcn2).mp (Or.inr β4))), hno⟩, rfl⟩
            · refine gT_n 1 ?_
              refine ⟨fun _ => ?_, fun c => absurd (by decide) c⟩
              have hcn2 := cnt_fk hn (k := k) (by omega)
              rcases (rch_n hq.2.1 (by omega) hcn2).mpr (by rw [hk0, nfst_0 hq.2.1.lt, nfst_0 hn.lt]) with c | c <;> exact absurd c (by assumption)
    · refine gT_n 2 ?_
      refine ⟨fun c => absurd (by decide) c, fun _ => ?_⟩
      refine gT_n 3 ?_
      refine ⟨rfl, gTM.use (n_firstOf (k := k) hn.lt (by omega)) (Nat.le_refl _) (fun r u hq => ?_)⟩
      obtain ⟨rfl, rfl⟩ := hq  -- X12_firstOf[lN nm, nI k]
      refine gT_n 8 ?_
      refine ⟨rfl, rfl, (pk_in i 10 (by omega) (rfl)), pm_eq ((nfst nm k)) ((ig l i).2.2.1) (fun κ1 => ?_) (fun κ1 => ?_) (rfl) ((rdJ (rfl) (by omega) hI.2.1.1)) ((vn_fst hn (by omega))) (hq.2.1)⟩
      · refine gT_n 6 ?_
        refine ⟨fun c => absurd c (by decide), fun _ => ?_⟩
        refine gT_n 4 ?_
        refine gT_k (L := [(4, .int (nI (k - 0))), (5, .int 1), (6, .long (lN (mo ((nfst nm k))))), (0, .ref 171), (1, .long (lN (mo nm))), (3, .int (nI i))]) ?_ ⟨(viI (pk_subE (n := k) (k := 0) (rfl) (rfl) (by omega))), rfl, rfl, rfl, rfl, rfl, trivial⟩ rfl
        refine gT_n 1 ?_
        refine gT_k (L := [(4, .int (nI k)), (5, .int 1), (0, .ref 171), (1, .long (lN (mo nm)))]) ?_ ⟨rfl, rfl, rfl, rfl, trivial⟩ rfl
        refine gT_n 2 ?_
        refine ⟨fun _ => ?_, fun c => absurd c (by decide)⟩
        refine gT_n 3 ?_
        refine ⟨rfl, gTM.use (n_firstOf (k := k) hn.lt (by omega)) (Nat.le_refl _) (fun r u hq => ?_)⟩
        obtain ⟨rfl, rfl⟩ := hq  -- X12_firstOf[lN nm, nI k]
        refine gT_n 2 ?_
        refine ⟨rfl, gTM.use (n_withLabel (x := 1) (nfst_wf hn.1 (by omega)) (by rw [cnt_fk hn (by omega)]; omega) (by decide)) (Nat.le_refl _) (fun r u hq => ?_)⟩
        obtain ⟨rfl, rfl⟩ := hq  -- X12_withLabel[lN ((nfst nm k)), K1]
        refine gT_n 1 ?_
        refine ⟨rfl, ?_⟩
        have hcn2 := cnt_fk hn (k := k) (by omega)
        exact ⟨rfl, k, ⟨by omega, Or.inr (by first | exact Or.inl ((rch_n hq.2.1 (by omega) hcn2).mp (Or.inl κ1)) | exact Or.inr ((rch_n hq.2.2.1 (by omega) hcn2).mp (Or.inl κ1)) | exact Or.inl ((rch_n hq.2.1 (by omega) hcn2).mp (Or.inr κ1)) | exact Or.inr ((rch_n hq.2.2.1 (by omega) hcn2).mp (Or.inr κ1))), hno⟩, rfl⟩
      · refine gT_n 7 ?_
        refine ⟨rfl, rfl, (pk_in i 10 (by omega) (rfl)), pm_eq ((nfst nm k)) ((ig l i).2.2.2.1) (fun κ2 => ?_) (fun κ2 => ?_) (rfl) ((rdJ (rfl) (by omega) hI.2.1.2)) ((vn_fst hn (by omega))) (hq.2.2.1)⟩
        · refine gT_n 6 ?_
          refine ⟨fun c => absurd c (by decide), fun _ => ?_⟩
          refine gT_n 4 ?_
          refine gT_k (L := [(4, .int (nI (k - 0))), (5, .int 1), (6, .long (lN (mo ((nfst nm k))))), (0, .ref 171), (1, .long (lN (mo nm))), (3, .int (nI i))]) ?_ ⟨(viI (pk_subE (n := k) (k := 0) (rfl) (rfl) (by omega))), rfl, rfl, rfl, rfl, rfl, trivial⟩ rfl
          refine gT_n 1 ?_
          refine gT_k (L := [(4, .int (nI k)), (5, .int 1), (0, .ref 171), (1, .long (lN (mo nm)))]) ?_ ⟨rfl, rfl, rfl, rfl, trivial⟩ rfl
          refine gT_n 2 ?_
          refine ⟨fun _ => ?_, fun c => absurd c (by decide)⟩
          refine gT_n 3 ?_
          refine ⟨rfl, gTM.use (n_firstOf (k := k) hn.lt (by omega)) (Nat.le_refl _) (fun r u hq => ?_)⟩
          obtain ⟨rfl, rfl⟩ := hq  -- X12_firstOf[lN nm, nI k]
          refine gT_n 2 ?_
          refine ⟨rfl, gTM.use (n_withLabel (x := 1) (nfst_wf hn.1 (by omega)) (by rw [cnt_fk hn (by omega)]; omega) (by decide)) (Nat.le_refl _) (fun r u hq => ?_)⟩
          obtain ⟨rfl, rfl⟩ := hq  -- X12_withLabel[lN ((nfst nm k)), K1]
          refine gT_n 1 ?_
          refine ⟨rfl, ?_⟩
          have hcn2 := cnt_fk hn (k := k) (by omega)
          exact ⟨rfl, k, ⟨by omega, Or.inr (by first | exact Or.inl ((rch_n hq.2.1 (by omega) hcn2).mp (Or.inl κ2)) | exact Or.inr ((rch_n hq.2.2.1 (by omega) hcn2).mp (Or.inl κ2)) | exact Or.inl ((rch_n hq.2.1 (by omega) hcn2).mp (Or.inr κ2)) | exact Or.inr ((rch_n hq.2.2.1 (by omega) hcn2).mp (Or.inr κ2))), hno⟩, rfl⟩
        · refine gT_n 6 ?_
          refine ⟨rfl, rfl, (pk_in i 10 (by omega) (rfl)), rfl, gTM.useA (n_isAbove (vn_fst hn (by omega)) hq.2.1) (Nat.le_refl _) (aL (rfl) (aL ((rdJ (rfl) (by omega) hI.2.1.1)) (rfl))) (fun r u hq => ?_)⟩
          obtain ⟨rfl, ⟨rfl, β3⟩ | ⟨rfl, β3⟩⟩ := hq  -- X12_isAbove[lN ((nfst nm k)), lN ((ig l i).2.2.1)]
          · refine gT_n 1 ?_
            refine ⟨fun _ => ?_, fun c => absurd c (by decide)⟩
            refine gT_n 6 ?_
            refine ⟨fun c => absurd c (by decide), fun _ => ?_⟩
            refine gT_n 4 ?_
            refine gT_k (L := [(4, .int (nI (k - 0))), (5, .int 1), (6, .long (lN (mo ((nfst nm k))))), (0, .ref 171), (1, .long (lN (mo nm))), (3, .int (nI i))]) ?_ ⟨(viI (pk_subE (n := k) (k := 0) (rfl) (rfl) (by omega))), rfl, rfl, rfl, rfl, rfl, trivial⟩ rfl
            refine gT_n 1 ?_
            refine gT_k (L := [(4, .int (nI k)), (5, .int 1), (0, .ref 171), (1, .long (lN (mo nm)))]) ?_ ⟨rfl, rfl, rfl, rfl, trivial⟩ rfl
            refine gT_n 2 ?_
            refine ⟨fun _ => ?_, fun c => absurd c (by decide)⟩
            refine gT_n 3 ?_
            refine ⟨rfl, gTM.use (n_firstOf (k := k) hn.lt (by omega)) (Nat.le_refl _) (fun r u hq => ?_)⟩
            obtain ⟨rfl, rfl⟩ := hq  -- X12_firstOf[lN nm, nI k]
            refine gT_n 2 ?_
            refine ⟨rfl, gTM.use (n_withLabel (x := 1) (nfst_wf hn.1 (by omega)) (by rw [cnt_fk hn (by omega)]; omega) (by decide)) (Nat.le_refl _) (fun r u hq => ?_)⟩
            obtain ⟨rfl, rfl⟩ := hq  -- X12_withLabel[lN ((nfst nm k)), K1]
            refine gT_n 1 ?_
            refine ⟨rfl, ?_⟩
            have hcn2 := cnt_fk hn (k := k) (by omega)
            exact ⟨rfl, k, ⟨by omega, Or.inr (by first | exact Or.inl ((rch_n hq.2.1 (by omega) hcn2).mp (Or.inl β3)) | exact Or.inr ((rch_n hq.2.2.1 (by omega) hcn2).mp (Or.inl β3)) | exact Or.inl ((rch_n hq.2.1 (by omega) hcn2).mp (Or.inr β3)) | exact Or.inr ((rch_n hq.2.2.1 (by omega) hcn2).mp (Or.inr β3))), hno⟩, rfl⟩
          · refine gT_n 1 ?_
            refine ⟨fun c => absurd (by decide) c, fun _ => ?_⟩
            refine gT_n 6 ?_
            refine ⟨rfl, rfl, (pk_in i 10 (by omega) (rfl)), rfl, gTM.useA (n_isAbove (vn_fst hn (by omega)) hq.2.2.1) (Nat.le_refl _) (aL (rfl) (aL ((rdJ (rfl) (by omega) hI.2.1.2)) (rfl))) (fun r u hq => ?_)⟩
            obtain ⟨rfl, ⟨rfl, β4⟩ | ⟨rfl, β4⟩⟩ := hq  -- X12_isAbove[lN ((nfst nm k)), lN ((ig l i).2.2.2.1)]
            · refine gT_n 1 ?_
              refine ⟨fun c => absurd c (by decide), fun _ => ?_⟩
              refine gT_n 6 ?_
              refine ⟨fun c => absurd c (by decide), fun _ => ?_⟩
              refine gT_n 4 ?_
              refine gT_k (L := [(4, .int (nI (k - 0))), (5, .int 1), (6, .long (lN (mo ((nfst nm k))))), (0, .ref 171), (1, .long (lN (mo nm))), (3, .int (nI i))]) ?_ ⟨(viI (pk_subE (n := k) (k := 0) (rfl) (rfl) (by omega))), rfl, rfl, rfl, rfl, rfl, trivial⟩ rfl
              refine gT_n 1 ?_
              refine gT_k (L := [(4, .int (nI k)), (5, .int 1), (0, .ref 171), (1, .long (lN (mo nm)))]) ?_ ⟨rfl, rfl, rfl, rfl, trivial⟩ rfl
              refine gT_n 2 ?_
              refine ⟨fun _ => ?_, fun c => absurd c (by decide)⟩
              refine gT_n 3 ?_
              refine ⟨rfl, gTM.use (n_firstOf (k := k) hn.lt (by omega)) (Nat.le_refl _) (fun r u hq => ?_)⟩
              obtain ⟨rfl, rfl⟩ := hq  -- X12_firstOf[lN nm, nI k]
              refine gT_n 2 ?_
              refine ⟨rfl, gTM.use (n_withLabel (x := 1) (nfst_wf hn.1 (by omega)) (by rw [cnt_fk hn (by omega)]; omega) (by decide)) (Nat.le_refl _) (fun r u hq => ?_)⟩
              obtain ⟨rfl, rfl⟩ := hq  -- X12_withLabel[lN ((nfst nm k)), K1]
              refine gT_n 1 ?_
              refine ⟨rfl, ?_⟩
              have hcn2 := cnt_fk hn (k := k) (by omega)
              exact ⟨rfl, k, ⟨by omega, Or.inr (by first | exact Or.inl ((rch_n hq.2.1 (by omega) hcn2).mp (Or.inl β4)) | exact Or.inr ((rch_n hq.2.2.1 (by omega) hcn2).mp (Or.inl β4)) | exact Or.inl ((rch_n hq.2.1 (by omega) hcn2).mp (Or.inr β4)) | exact Or.inr ((rch_n hq.2.2.1 (by omega) hcn2).mp (Or.inr β4))), hno⟩, rfl⟩
            · refine gT_n 1 ?_
              refine ⟨fun _ => ?_, fun c => absurd (by decide) c⟩
              refine gT_n 5 ?_
              refine ⟨fun _ => ?_, fun c => absurd (by decide) c⟩
              refine gT_n 3 ?_
              refine gT_k (L := [(4, .int (nI (k - 1))), (5, .int 0), (6, .long (lN (mo ((nfst nm k))))), (0, .ref 171), (1, .long (lN (mo nm))), (3, .int (nI i))]) ?_ ⟨(viI (pk_subE (n := k) (k := 1) (rfl) (rfl) (by omega))), rfl, rfl, rfl, rfl, rfl, trivial⟩ rfl
              refine gT_n 1 ?_
              have e := ih (k - 1) (by omega) (by omega) (fun j h1 h2 => by
                rcases Nat.lt_or_ge k j with g | g
                · exact hno j g h2
                · obtain rfl : j = k := by omega
                  intro c
                  have hcn2 := cnt_fk hn (k := j) (by omega)
                  rcases c with c | c
                  · rcases (rch_n hq.2.1 (by omega) hcn2).mpr c with c | c <;> exact absurd c (by assumption)
                  · rcases (rch_n hq.2.2.1 (by omega) hcn2).mpr c with c | c <;> exact absurd c (by assumption))
              refine gT_k e ⟨rfl, rfl, rfl, rfl, rfl, trivial⟩ rfl
  refine gT_n 2 ?_
  refine ⟨rfl, gTM.use (n_labelsOf (n := nm)) (Nat.le_refl _) (fun r u hq => ?_)⟩
  obtain ⟨rfl, rfl⟩ := hq  -- X12_labelsOf[lN nm]
  refine gT_n 3 ?_
  refine gT_k (L := [(4, .int (nI (((cnt nm)) - 1))), (0, .ref 171), (1, .long (lN (mo nm))), (3, .int (nI i))]) ?_ ⟨(viI (pk_subE (n := ((cnt nm))) (k := 1) (rfl) (rfl) (by omega))), rfl, rfl, rfl, trivial⟩ rfl
  refine gT_n 2 ?_
  exact gT_k (loop (cnt nm - 1) (by omega) (fun j h1 h2 => absurd h1 (by omega))) ⟨rfl, rfl, rfl, rfl, rfl, trivial⟩ rfl
