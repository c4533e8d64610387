/-! digests and keys found: the reference -/
def rz (x : Int32) : Int32 := if x = 100 then 0 else x
theorem rz_y : 0 = rz 100 := (if_pos rfl).symm
theorem rz_n {x : Int32} (h : ¬ x = 100) : x = rz x := (if_neg h).symm
theorem b24 {n : Nat} (h : n < 64) : n &&& 24 = 8 ↔ (¬ n &&& 8 = 0 ∧ n &&& 16 = 0) := (by decide : ∀ n : Fin 64, n.1 &&& 24 = 8 ↔ (¬ n.1 &&& 8 = 0 ∧ n.1 &&& 16 = 0)) ⟨n, h⟩
def nS (t : zT) (D : zK) (ck pk : Int32) (l : List zI) (I : Nat → Nat → Int32) (J : Nat → Nat → Int64) : Prop := mT (I 171 2) (J 172) (I 173) t ∧ (I 183 0 = nI D.length ∧ D.length ≤ 2 ∧ ∀ i, i < D.length → I 181 i = (kg D i).1) ∧ I 171 15 = ck ∧ I 171 47 = pk ∧ I 171 45 = nI l.length ∧ mtm I J l ∧ l.length ≤ 10 ∧ vIs t l ∧ I 171 3 = nI t.2.2.2
theorem m_plainL {d z : Nat} {kn : Int32 → Prop} {I X : Nat → Nat → Int32} {J : Nat → Nat → Int64} {Y : Nat → Int64} {P : Nat → Nat} {t : zT} {D : zK} {ck pk : Int32} {l : List zI} (hz : zOK t) (hS : nS t D ck pk l I J) {Q : Option Value → gW → Prop} (hk : kro (X 207) kn) (hzz : z < t.1) (hz0 : ¬ z = 0) (tl5 : (t.2.2.1 z = false ∧ ∃ i, i < l.length ∧ pln t z kn (ig l i)) → Q (some (.int 5)) (gST (nM I X) (m1 J 205 Y) P)) (tl21 : ¬ (t.2.2.1 z = false ∧ ∃ i, i < l.length ∧ pln t z kn (ig l i)) → Q (some (.int (-21))) (gST (nM I X) (m1 J 205 Y) P)) : ∀ i, i ≤ l.length → ((∃ j, j < i ∧ pln t z kn (ig l j)) → gT (d + 7) 248 147 [(5, .int (nI i)), (4, .int 1), (0, .ref 171), (1, .int (nI z)), (2, .int (nI ((zpa t z))))] [] (0, 0) (gST (nM I X) (m1 J 205 Y) P) Q) ∧ (¬ (∃ j, j < i ∧ pln t z kn (ig l j)) → gT (d + 7) 248 147 [(5, .int (nI i)), (4, .int 0), (0, .ref 171), (1, .int (nI z)), (2, .int (nI ((zpa t z))))] [] (0, 0) (gST (nM I X) (m1 J 205 Y) P) Q) := by
  obtain ⟨hT, hD, hck, hpk, hcn, hit, h10, hok, hsp⟩ := hS
  have h4 := hz.2.1
  have hpz : zpa t z < t.1 := zof_lt hz _
  refine loopU l.length (fun i hi ih => ⟨?_, ?_⟩)
  · intro hno
    by_cases hin : i < l.length
    · have hI := hit i hin
      have hq := hok _ (ig_mem hin)
      have hq4 := hq.2.2.2.1
      refine gT_n 4 ?_
      refine ⟨rfl, pk_le l.length i (fun κ1 => ?_) (fun κ1 => ?_) (hcn) (rfl) (by omega) (by omega)⟩
      · exact absurd hin (by omega)
      · refine gT_n 2 ?_
        refine ⟨fun _ => ?_, fun c => absurd c (by decide)⟩
        refine gT_n 5 ?_
        have e := (ih (i + 1) (by omega) (by omega)).1 (by obtain ⟨j, hj, h⟩ := hno; exact ⟨j, by omega, h⟩)
        rw [← nI_1 i] at e
        exact gT_k e ⟨rfl, rfl, rfl, rfl, rfl, trivial⟩ rfl
    · refine gT_n 4 ?_
      refine ⟨rfl, pk_le l.length i (fun κ1 => ?_) (fun κ1 => ?_) (hcn) (rfl) (by omega) (by omega)⟩
      · cases hs : t.2.2.1 z
        · have hs1 : I 173 z = 0 := by rw [hT.2.2.1 _ hzz, hs]; rfl
          refine gT_n 2 ?_
          refine ⟨fun c => absurd c (by decide), fun _ => ?_⟩
          refine gT_n 5 ?_
          refine ⟨rfl, (Or.inr rfl), (pk_in z 4 (by omega) (rfl)), fun c => absurd c (kpT (p := fun z : Int32 => ¬ (¬ z = 0)) (show _ = (0 : Int32) from (rdI (rfl) (by omega) hs1)) (by decide)), fun _ => ?_⟩
          refine gT_n 3 ?_
          exact tl5 ⟨hs, by obtain ⟨j, hj, h⟩ := hno; exact ⟨j, by omega, h⟩⟩
        · have hs1 : I 173 z = 1 := by rw [hT.2.2.1 _ hzz, hs]; rfl
          refine gT_n 2 ?_
          refine ⟨fun c => absurd c (by decide), fun _ => ?_⟩
          refine gT_n 5 ?_
          refine ⟨rfl, (Or.inr rfl), (pk_in z 4 (by omega) (rfl)), fun _ => ?_, fun c => absurd c (kpT (p := fun z : Int32 => ¬ z = 0) (show _ = (1 : Int32) from (rdI (rfl) (by omega) hs1)) (by decide))⟩
          refine gT_n 2 ?_
          exact tl21 (fun c => by rw [hs] at c; exact absurd c.1 (by decide))
      · exact absurd (show i < l.length by omega) hin
  · intro hno
    by_cases hin : i < l.length
    · have hI := hit i hin
      have hq := hok _ (ig_mem hin)
      have hq4 := hq.2.2.2.1
      refine gT_n 4 ?_
      refine ⟨rfl, pk_le l.length i (fun κ1 => ?_) (fun κ1 => ?_) (hcn) (rfl) (by omega) (by omega)⟩
      · exact absurd hin (by omega)
      · refine gT_n 2 ?_
        refine ⟨fun c => absurd (by decide) c, fun _ => ?_⟩
        refine gT_n 6 ?_
        refine ⟨rfl, rfl, (pk_in i 10 (by omega) (rfl)), px_ne (X := (ig l i).1) (Y := (3)) ((rdI (rfl) (by omega) hI.1.1)) (rfl) (fun κ2 => ?_) (fun κ2 => ?_)⟩
        · refine gT_n 4 ?_
          have e := (ih (i + 1) (by omega) (by omega)).2 (fun c => by
            obtain ⟨j, hj, c⟩ := c
            rcases Nat.lt_or_ge j i with g | g
            · exact hno ⟨j, g, c⟩
            · obtain rfl : j = i := by omega
              obtain ⟨⟨⟨c1, c2⟩, c3⟩, c4, c5⟩ := c
              first | exact absurd c1 (by assumption) | exact absurd c2 (by assumption) | exact absurd c3 (by assumption) | exact absurd ((b24 hq4).mpr c4) (by assumption) | exact absurd c5 (by assumption))
          rw [← nI_1 i] at e
          exact gT_k e ⟨rfl, rfl, rfl, rfl, rfl, trivial⟩ rfl
        · refine gT_n 6 ?_
          refine ⟨rfl, rfl, (pk_in i 10 (by omega) (rfl)), pk_ne ((ig l i).2.1) ((zpa t z)) (fun κ3 => ?_) (fun κ3 => ?_) ((rdI (rfl) (by omega) hI.1.2.1)) (rfl) (by have := hq.1; omega) (by omega)⟩
          · refine gT_n 4 ?_
            have e := (ih (i + 1) (by omega) (by omega)).2 (fun c => by
              obtain ⟨j, hj, c⟩ := c
              rcases Nat.lt_or_ge j i with g | g
              · exact hno ⟨j, g, c⟩
              · obtain rfl : j = i := by omega
                obtain ⟨⟨⟨c1, c2⟩, c3⟩, c4, c5⟩ := c
                first | exact absurd c1 (by assumption) | exact absurd c2 (by assumption) | exact absurd c3 (by assumption) | exact absurd ((b24 hq4).mpr c4) (by assumption) | exact absurd c5 (by assumption))
            rw [← nI_1 i] at e
            exact gT_k e ⟨rfl, rfl, rfl, rfl, rfl, trivial⟩ rfl
          · refine gT_n 10 ?_
            refine ⟨rfl, rfl, (pk_in i 10 (by omega) (rfl)), rfl, rfl, (pk_in z 4 (by omega) (rfl)), pm_ne ((ig l i).2.2.1) ((t.2.1 z)) (fun κ4 => ?_) (fun κ4 => ?_) ((rdJ (rfl) (by omega) hI.2.1.1)) ((rdJ (rfl) (by omega) (hT.2.1 z hzz))) (hq.2.1) ((hz.2.2.2.2.1 z hzz))⟩
            · refine gT_n 4 ?_
              have e := (ih (i + 1) (by omega) (by omega)).2 (fun c => by
                obtain ⟨j, hj, c⟩ := c
                rcases Nat.lt_or_ge j i with g | g
                · exact hno ⟨j, g, c⟩
                · obtain rfl : j = i := by omega
                  obtain ⟨⟨⟨c1, c2⟩, c3⟩, c4, c5⟩ := c
                  first | exact absurd c1 (by assumption) | exact absurd c2 (by assumption) | exact absurd c3 (by assumption) | exact absurd ((b24 hq4).mpr c4) (by assumption) | exact absurd c5 (by assumption))
              rw [← nI_1 i] at e
              exact gT_k e ⟨rfl, rfl, rfl, rfl, rfl, trivial⟩ rfl
            · refine gT_n 8 ?_
              refine ⟨rfl, rfl, (pk_in i 10 (by omega) (rfl)), pk_ne (((ig l i).2.2.2.2.1) &&& 24) 8 (fun κ5 => ?_) (fun κ5 => ?_) (pk_ndE (n := ((ig l i).2.2.2.2.1)) (k := 24) ((rdI (rfl) (by omega) hI.1.2.2.1)) (rfl) (by omega) (by omega)) (rfl) (Nat.lt_trans (Nat.lt_of_le_of_lt Nat.and_le_left (by omega)) (by decide)) (by omega)⟩
              · refine gT_n 4 ?_
                have e := (ih (i + 1) (by omega) (by omega)).2 (fun c => by
                  obtain ⟨j, hj, c⟩ := c
                  rcases Nat.lt_or_ge j i with g | g
                  · exact hno ⟨j, g, c⟩
                  · obtain rfl : j = i := by omega
                    obtain ⟨⟨⟨c1, c2⟩, c3⟩, c4, c5⟩ := c
                    first | exact absurd c1 (by assumption) | exact absurd c2 (by assumption) | exact absurd c3 (by assumption) | exact absurd ((b24 hq4).mpr c4) (by assumption) | exact absurd c5 (by assumption))
                rw [← nI_1 i] at e
                exact gT_k e ⟨rfl, rfl, rfl, rfl, rfl, trivial⟩ rfl
              · refine gT_n 5 ?_
                refine ⟨rfl, rfl, rfl, gTM.use (m_isRight207 hit h10 hok hin hk) (Nat.le_refl _) (fun r u hq => ?_)⟩
                obtain ⟨rfl, ⟨rfl, β6⟩ | ⟨rfl, β6⟩⟩ := hq  -- X12_isRight[R171, nI i, R207]
                · refine gT_n 1 ?_
                  refine ⟨fun c => absurd c (by decide), fun _ => ?_⟩
                  refine gT_n 5 ?_
                  have e := (ih (i + 1) (by omega) (by omega)).1 ⟨i, by omega, ⟨⟨κ2, κ3⟩, κ4⟩, (b24 hq4).mp κ5, β6⟩
                  rw [← nI_1 i] at e
                  exact gT_k e ⟨rfl, rfl, rfl, rfl, rfl, trivial⟩ rfl
                · refine gT_n 1 ?_
                  refine ⟨fun _ => ?_, fun c => absurd (by decide) c⟩
                  refine gT_n 4 ?_
                  have e := (ih (i + 1) (by omega) (by omega)).2 (fun c => by
                    obtain ⟨j, hj, c⟩ := c
                    rcases Nat.lt_or_ge j i with g | g
                    · exact hno ⟨j, g, c⟩
                    · obtain rfl : j = i := by omega
                      obtain ⟨⟨⟨c1, c2⟩, c3⟩, c4, c5⟩ := c
                      first | exact absurd c1 (by assumption) | exact absurd c2 (by assumption) | exact absurd c3 (by assumption) | exact absurd ((b24 hq4).mpr c4) (by assumption) | exact absurd c5 (by assumption))
                  rw [← nI_1 i] at e
                  exact gT_k e ⟨rfl, rfl, rfl, rfl, rfl, trivial⟩ rfl
    · refine gT_n 4 ?_
      refine ⟨rfl, pk_le l.length i (fun κ1 => ?_) (fun κ1 => ?_) (hcn) (rfl) (by omega) (by omega)⟩
      · cases hs : t.2.2.1 z
        · have hs1 : I 173 z = 0 := by rw [hT.2.2.1 _ hzz, hs]; rfl
          refine gT_n 2 ?_
          refine ⟨fun _ => ?_, fun c => absurd (by decide) c⟩
          refine gT_n 2 ?_
          exact tl21 (fun c => hno (by obtain ⟨j, hj, h⟩ := c.2; exact ⟨j, by omega, h⟩))
        · have hs1 : I 173 z = 1 := by rw [hT.2.2.1 _ hzz, hs]; rfl
          refine gT_n 2 ?_
          refine ⟨fun _ => ?_, fun c => absurd (by decide) c⟩
          refine gT_n 2 ?_
          exact tl21 (fun c => hno (by obtain ⟨j, hj, h⟩ := c.2; exact ⟨j, by omega, h⟩))
      · exact absurd (show i < l.length by omega) hin
theorem nH_fr {X X' : Nat → Nat → Int32} {Y : Nat → Int64} {C : List zE} (hf : ∀ j, j < 206 → X' j = X j) (h : nH X Y C) : nH X' Y C := by
  unfold nH at h ⊢
  rw [hf 171 (by omega), hf 202 (by omega), hf 203 (by omega), hf 204 (by omega)]
  exact h
theorem m_findsD0 {d z : Nat} {pa : Int32} {I X : Nat → Nat → Int32} {J : Nat → Nat → Int64} {Y : Nat → Int64} {P : Nat → Nat} {t : zT} {D : zK} {ck pk : Int32} {l : List zI} (hz : zOK t) (hS : nS t D ck pk l I J) {C C' : List zE} {kn : Int32 → Prop} {x : Int32} {n : Nat} (hH : nH X Y C) (hE : eOK t C) (hzz : z < t.1) {dg : Int32 → Prop} (hz0 : z = 0) (hS1 : fDg t D ck pk l z kn C x dg C' n) : gTM (d + 7) 248 [.ref 171, .int (nI z), .int pa] (gST (nM I X) (m1 J 205 Y) P) (fun r u => ∃ X' Y', u = gST (nM I X') (m1 J 205 Y') P ∧ r = some (.int (rz x)) ∧ nH X' Y' C' ∧ (x = 100 → kro (X' 208) dg) ∧ X' 206 = X 206 ∧ X' 207 = X 207 ∧ X' 201 = X 201 ∧ X' 171 60 = X 171 60 + nI n ∧ (∀ f, ¬ f = 56 → ¬ f = 60 → X' 171 f = X 171 f)) := by
  obtain ⟨hT, hD, hck, hpk, hcn, hit, h10, hok, hsp⟩ := hS
  have h4 := hz.2.1
  obtain ⟨rfl, rfl, rfl, rfl⟩ := (pif_pos hz0).mp hS1
  have hcs : D.length = 0 ∨ D.length = 1 ∨ D.length = 2 := by have := hD.2.1; omega
  rcases hcs with hn | hn | hn
  · refine gT_n 2 ?_
    refine pk_ne z 0 (fun κ1 => ?_) (fun κ1 => ?_) (rfl) (rfl) (by omega) (by omega)
    · exact absurd hz0 (by omega)
    · refine gT_n 2 ?_
      refine gT_k (L := [(3, .int 0), (0, .ref 171), (1, .int (nI z)), (2, .int pa)]) ?_ ⟨rfl, rfl, rfl, rfl, trivial⟩ rfl
      refine gT_n 3 ?_
      refine ⟨fun c => absurd c (by decide), fun _ => ?_⟩
      refine gT_n 9 ?_
      refine ⟨rfl, rfl, rfl, (pk_in 0 4 (by decide) rfl), fun _ => ?_, fun c => absurd (kpT (p := fun z : Int32 => z ≤ 0) (show _ = (0 : Int32) from (rdI (k := 0) (rfl) (by omega) (hD.1.trans (congrArg nI hn)))) (by decide)) c⟩
      refine gT_n 2 ?_
      refine ⟨rfl, (pk_inS (m := 3) (k := 0) (rfl) (by decide) (rfl)), ?_⟩
      refine gT_nA (b := 208) rfl (n := 0) (X := 0) (rfl) (by omega) (rfl) ?_
      refine gT_n 2 ?_
      refine gT_k (L := [(3, .int 1), (0, .ref 171), (1, .int (nI z)), (2, .int pa)]) ?_ ⟨rfl, rfl, rfl, rfl, trivial⟩ rfl
      refine gT_n 3 ?_
      refine ⟨fun c => absurd c (by decide), fun _ => ?_⟩
      refine gT_n 9 ?_
      refine ⟨rfl, rfl, rfl, (pk_in 0 4 (by decide) rfl), fun _ => ?_, fun c => absurd (kpT (p := fun z : Int32 => z ≤ 1) (show _ = (0 : Int32) from (rdI (k := 0) (rfl) (by omega) (hD.1.trans (congrArg nI hn)))) (by decide)) c⟩
      refine gT_n 2 ?_
      refine ⟨rfl, (pk_inS (m := 3) (k := 1) (rfl) (by decide) (rfl)), ?_⟩
      refine gT_nA (b := 208) rfl (n := 1) (X := 0) (rfl) (by omega) (rfl) ?_
      refine gT_n 2 ?_
      refine gT_k (L := [(3, .int 2), (0, .ref 171), (1, .int (nI z)), (2, .int pa)]) ?_ ⟨rfl, rfl, rfl, rfl, trivial⟩ rfl
      refine gT_n 3 ?_
      refine ⟨fun c => absurd c (by decide), fun _ => ?_⟩
      refine gT_n 9 ?_
      refine ⟨rfl, rfl, rfl, (pk_in 0 4 (by decide) rfl), fun _ => ?_, fun c => absurd (kpT (p := fun z : Int32 => z ≤ 2) (show _ = (0 : Int32) from (rdI (k := 0) (rfl) (by omega) (hD.1.trans (congrArg nI hn)))) (by decide)) c⟩
      refine gT_n 2 ?_
      refine ⟨rfl, (pk_inS (m := 3) (k := 2) (rfl) (by decide) (rfl)), ?_⟩
      refine gT_nA (b := 208) rfl (n := 2) (X := 0) (rfl) (by omega) (rfl) ?_
      refine gT_n 2 ?_
      refine gT_k (L := [(3, .int 3), (0, .ref 171), (1, .int (nI z)), (2, .int pa)]) ?_ ⟨rfl, rfl, rfl, rfl, trivial⟩ rfl
      refine gT_n 3 ?_
      refine ⟨fun _ => ?_, fun c => absurd (by decide) c⟩
      refine gT_n 2 ?_
      exact ⟨_, Y, rfl, ri rz_y, nH_fr (fun j hj => by rw [gupI_n (by omega), gupI_n (by omega), gupI_n (by omega)]) hH, fun _ => kro_eq (q := ((kg D 0).1, (kg D 1).1, (kg D 2).1)) (show (0 : Int32) = (kg D 0).1 by rw [kg_out (by omega)]) (show (0 : Int32) = (kg D 1).1 by rw [kg_out (by omega)]) (show (0 : Int32) = (kg D 2).1 by rw [kg_out (by omega)]), rfl, rfl, rfl, a0 _, fun _ _ _ => rfl⟩
  · refine gT_n 2 ?_
    refine pk_ne z 0 (fun κ1 => ?_) (fun κ1 => ?_) (rfl) (rfl) (by omega) (by omega)
    · exact absurd hz0 (by omega)
    · refine gT_n 2 ?_
      refine gT_k (L := [(3, .int 0), (0, .ref 171), (1, .int (nI z)), (2, .int pa)]) ?_ ⟨rfl, rfl, rfl, rfl, trivial⟩ rfl
      refine gT_n 3 ?_
      refine ⟨fun c => absurd c (by decide), fun _ => ?_⟩
      refine gT_n 9 ?_
      refine ⟨rfl, rfl, rfl, (pk_in 0 4 (by decide) rfl), fun c => absurd c (kpT (p := fun z : Int32 => ¬ (z ≤ 0)) (show _ = (1 : Int32) from (rdI (k := 0) (rfl) (by omega) (hD.1.trans (congrArg nI hn)))) (by decide)), fun _ => ?_⟩
      refine gT_n 6 ?_
      refine ⟨rfl, rfl, (pk_in 0 8 (by decide) rfl), rfl, (pk_inS (m := 3) (k := 0) (rfl) (by decide) (rfl)), ?_⟩
      refine gT_nA (b := 208) rfl (n := 0) (X := (kg D 0).1) (rfl) (by omega) ((rdI (k := 0) (rfl) (by omega) (hD.2.2 0 (by omega)))) ?_
      refine gT_n 2 ?_
      refine gT_k (L := [(3, .int 1), (0, .ref 171), (1, .int (nI z)), (2, .int pa)]) ?_ ⟨rfl, rfl, rfl, rfl, trivial⟩ rfl
      refine gT_n 3 ?_
      refine ⟨fun c => absurd c (by decide), fun _ => ?_⟩
      refine gT_n 9 ?_
      refine ⟨rfl, rfl, rfl, (pk_in 0 4 (by decide) rfl), fun _ => ?_, fun c => absurd (kpT (p := fun z : Int32 => z ≤ 1) (show _ = (1 : Int32) from (rdI (k := 0) (rfl) (by omega) (hD.1.trans (congrArg nI hn)))) (by decide)) c⟩
      refine gT_n 2 ?_
      refine ⟨rfl, (pk_inS (m := 3) (k := 1) (rfl) (by decide) (rfl)), ?_⟩
      refine gT_nA (b := 208) rfl (n := 1) (X := 0) (rfl) (by omega) (rfl) ?_
      refine gT_n 2 ?_
      refine gT_k (L := [(3, .int 2), (0, .ref 171), (1, .int (nI z)), (2, .int pa)]) ?_ ⟨rfl, rfl, rfl, rfl, trivial⟩ rfl
      refine gT_n 3 ?_
      refine ⟨fun c => absurd c (by decide), fun _ => ?_⟩
      refine gT_n 9 ?_
      refine ⟨rfl, rfl, rfl, (pk_in 0 4 (by decide) rfl), fun _ => ?_, fun c => absurd (kpT (p := fun z : Int32 => z ≤ 2) (show _ = (1 : Int32) from (rdI (k := 0) (rfl) (by omega) (hD.1.trans (congrArg nI hn)))) (by decide)) c⟩
      refine gT_n 2 ?_
      refine ⟨rfl, (pk_inS (m := 3) (k := 2) (rfl) (by decide) (rfl)), ?_⟩
      refine gT_nA (b := 208) rfl (n := 2) (X := 0) (rfl) (by omega) (rfl) ?_
      refine gT_n 2 ?_
      refine gT_k (L := [(3, .int 3), (0, .ref 171), (1, .int (nI z)), (2, .int pa)]) ?_ ⟨rfl, rfl, rfl, rfl, trivial⟩ rfl
      refine gT_n 3 ?_
      refine ⟨fun _ => ?_, fun c => absurd (by decide) c⟩
      refine gT_n 2 ?_
      exact ⟨_, Y, rfl, ri rz_y, nH_fr (fun j hj => by rw [gupI_n (by omega), gupI_n (by omega), gupI_n (by omega)]) hH, fun _ => kro_eq (q := ((kg D 0).1, (kg D 1).1, (kg D 2).1)) rfl (show (0 : Int32) = (kg D 1).1 by rw [kg_out (by omega)]) (show (0 : Int32) = (kg D 2).1 by rw [kg_out (by omega)]), rfl, rfl, rfl, a0 _, fun _ _ _ => rfl⟩
  · refine gT_n 2 ?_
    refine pk_ne z 0 (fun κ1 => ?_) (fun κ1 => ?_) (rfl) (rfl) (by omega) (by omega)
    · exact absurd hz0 (by omega)
    · refine gT_n 2 ?_
      refine gT_k (L := [(3, .int 0), (0, .ref 171), (1, .int (nI z)), (2, .int pa)]) ?_ ⟨rfl, rfl, rfl, rfl, trivial⟩ rfl
      refine gT_n 3 ?_
      refine ⟨fun c => absurd c (by decide), fun _ => ?_⟩
      refine gT_n 9 ?_
      refine ⟨rfl, rfl, rfl, (pk_in 0 4 (by decide) rfl), fun c => absurd c (kpT (p := fun z : Int32 => ¬ (z ≤ 0)) (show _ = (2 : Int32) from (rdI (k := 0) (rfl) (by omega) (hD.1.trans (congrArg nI hn)))) (by decide)), fun _ => ?_⟩
      refine gT_n 6 ?_
      refine ⟨rfl, rfl, (pk_in 0 8 (by decide) rfl), rfl, (pk_inS (m := 3) (k := 0) (rfl) (by decide) (rfl)), ?_⟩
      refine gT_nA (b := 208) rfl (n := 0) (X := (kg D 0).1) (rfl) (by omega) ((rdI (k := 0) (rfl) (by omega) (hD.2.2 0 (by omega)))) ?_
      refine gT_n 2 ?_
      refine gT_k (L := [(3, .int 1), (0, .ref 171), (1, .int (nI z)), (2, .int pa)]) ?_ ⟨rfl, rfl, rfl, rfl, trivial⟩ rfl
      refine gT_n 3 ?_
      refine ⟨fun c => absurd c (by decide), fun _ => ?_⟩
      refine gT_n 9 ?_
      refine ⟨rfl, rfl, rfl, (pk_in 0 4 (by decide) rfl), fun c => absurd c (kpT (p := fun z : Int32 => ¬ (z ≤ 1)) (show _ = (2 : Int32) from (rdI (k := 0) (rfl) (by omega) (hD.1.trans (congrArg nI hn)))) (by decide)), fun _ => ?_⟩
      refine gT_n 6 ?_
      refine ⟨rfl, rfl, (pk_in 1 8 (by decide) rfl), rfl, (pk_inS (m := 3) (k := 1) (rfl) (by decide) (rfl)), ?_⟩
      refine gT_nA (b := 208) rfl (n := 1) (X := (kg D 1).1) (rfl) (by omega) ((rdI (k := 1) (rfl) (by omega) (hD.2.2 1 (by omega)))) ?_
      refine gT_n 2 ?_
      refine gT_k (L := [(3, .int 2), (0, .ref 171), (1, .int (nI z)), (2, .int pa)]) ?_ ⟨rfl, rfl, rfl, rfl, trivial⟩ rfl
      refine gT_n 3 ?_
      refine ⟨fun c => absurd c (by decide), fun _ => ?_⟩
      refine gT_n 9 ?_
      refine ⟨rfl, rfl, rfl, (pk_in 0 4 (by decide) rfl), fun _ => ?_, fun c => absurd (kpT (p := fun z : Int32 => z ≤ 2) (show _ = (2 : Int32) from (rdI (k := 0) (rfl) (by omega) (hD.1.trans (congrArg nI hn)))) (by decide)) c⟩
      refine gT_n 2 ?_
      refine ⟨rfl, (pk_inS (m := 3) (k := 2) (rfl) (by decide) (rfl)), ?_⟩
      refine gT_nA (b := 208) rfl (n := 2) (X := 0) (rfl) (by omega) (rfl) ?_
      refine gT_n 2 ?_
      refine gT_k (L := [(3, .int 3), (0, .ref 171), (1, .int (nI z)), (2, .int pa)]) ?_ ⟨rfl, rfl, rfl, rfl, trivial⟩ rfl
      refine gT_n 3 ?_
      refine ⟨fun _ => ?_, fun c => absurd (by decide) c⟩
      refine gT_n 2 ?_
      exact ⟨_, Y, rfl, ri rz_y, nH_fr (fun j hj => by rw [gupI_n (by omega), gupI_n (by omega), gupI_n (by omega)]) hH, fun _ => kro_eq (q := ((kg D 0).1, (kg D 1).1, (kg D 2).1)) rfl rfl (show (0 : Int32) = (kg D 2).1 by rw [kg_out (by omega)]), rfl, rfl, rfl, a0 _, fun _ _ _ => rfl⟩
theorem m_findsD {d z : Nat} {I X : Nat → Nat → Int32} {J : Nat → Nat → Int64} {Y : Nat → Int64} {P : Nat → Nat} {t : zT} {D : zK} {ck pk : Int32} {l : List zI} (hz : zOK t) (hS : nS t D ck pk l I J) {C C' : List zE} {kn : Int32 → Prop} {x : Int32} {n : Nat} (hH : nH X Y C) (hE : eOK t C) (hzz : z < t.1) {dg : Int32 → Prop} (hk : kro (X 207) kn) (hz0 : ¬ z = 0) (hS1 : fDg t D ck pk l z kn C x dg C' n) : gTM (d + 7) 248 [.ref 171, .int (nI z), .int (nI (zpa t z))] (gST (nM I X) (m1 J 205 Y) P) (fun r u => ∃ X' Y', u = gST (nM I X') (m1 J 205 Y') P ∧ r = some (.int (rz x)) ∧ nH X' Y' C' ∧ (x = 100 → kro (X' 208) dg) ∧ X' 206 = X 206 ∧ X' 207 = X 207 ∧ X' 201 = X 201 ∧ X' 171 60 = X 171 60 + nI n ∧ (∀ f, ¬ f = 56 → ¬ f = 60 → X' 171 f = X 171 f)) := by
  have hS0 := hS
  obtain ⟨hT, hD, hck, hpk, hcn, hit, h10, hok, hsp⟩ := hS
  have h4 := hz.2.1
  have hpz : zpa t z < t.1 := zof_lt hz _
  have hC4 := hE.1
  obtain ⟨r, hr, hsp1⟩ := (pif_neg hz0).mp hS1
  refine gT_n 2 ?_
  refine pk_ne z 0 (fun κ1 => ?_) (fun κ1 => ?_) (rfl) (rfl) (by omega) (by omega)
  · refine gT_n 4 ?_
    refine ⟨rfl, rfl, gTM.use (m_aliveE hH hE.1 (eOK_4 hz hE) (by omega) hck) (Nat.le_refl _) (fun r u hq => ?_)⟩
    obtain ⟨rfl, r0, hr0, ⟨a, rfl, ha, hal, rfl⟩ | ⟨hal, rfl⟩⟩ := hq  -- X12_aliveEntry[R171, nI z, K0]
    · refine gT_n 4 ?_
      refine ⟨fun c => absurd c (nI_neg (rfl) (by omega)), fun _ => ?_⟩
      refine gT_n 5 ?_
      refine ⟨rfl, rfl, rfl, gTM.use (m_takesE208 hH hE.1 (eOK_4 hz hE) ha) (Nat.le_refl _) (fun r u hq => ?_)⟩
      obtain ⟨rfl, X1, rfl, hfr1, hrow⟩ := hq  -- X12_takesEntry[R171, nI a, R208]
      refine gT_n 2 ?_
      obtain rfl := isE_one hr hr0
      obtain ⟨rfl, ⟨e, he, rfl⟩, rfl, rfl⟩ := (pif_pos hal).mp hsp1
      cases he
      exact ⟨X1, Y, rfl, ri rz_y, nH_fr (fun j hj => hfr1 j (by omega)) hH, fun _ => kro_eq hrow.1 hrow.2.1 hrow.2.2, hfr1 206 (by decide), hfr1 207 (by decide), hfr1 201 (by decide), (by rw [hfr1 171 (by decide)]; exact a0 _), fun f _ _ => by rw [hfr1 171 (by decide)]⟩
    · refine gT_n 4 ?_
      refine ⟨fun _ => ?_, fun c => absurd (by decide) c⟩
      refine gT_n 2 ?_
      obtain rfl := isE_one hr hr0
      obtain ⟨r2, hr2, hsp2⟩ := (pif_neg hal).mp hsp1
      have loop : ∀ i, i ≤ l.length → (∀ j, j < i → ¬ (((ig l j).1 = 0 ∧ (ig l j).2.1 = z) ∧ rt (ig l j) kn)) → gT (d + 7) 248 72 [(4, .int (nI i)), (0, .ref 171), (1, .int (nI z)), (2, .int (nI ((zpa t z))))] [] (0, 0) (gST (nM I X) (m1 J 205 Y) P) (fun r u => ∃ X' Y', u = gST (nM I X') (m1 J 205 Y') P ∧ r = some (.int (rz x)) ∧ nH X' Y' C' ∧ (x = 100 → kro (X' 208) dg) ∧ X' 206 = X 206 ∧ X' 207 = X 207 ∧ X' 201 = X 201 ∧ X' 171 60 = X 171 60 + nI n ∧ (∀ f, ¬ f = 56 → ¬ f = 60 → X' 171 f = X 171 f)) := by
        refine loopU l.length (fun i hi ih => ?_)
        intro hno
        by_cases hin : i < l.length
        · have hI := hit i hin
          have hq := hok _ (ig_mem hin)
          have hq4 := hq.2.2.2.1
          refine gT_n 4 ?_
          refine ⟨rfl, pk_le l.length i (fun κ1 => ?_) (fun κ1 => ?_) (hcn) (rfl) (by omega) (by omega)⟩
          · exact absurd hin (by omega)
          · refine gT_n 5 ?_
            refine ⟨rfl, rfl, (pk_in i 10 (by omega) (rfl)), px_ne (X := (ig l i).1) (Y := (0)) ((rdI (rfl) (by omega) hI.1.1)) (rfl) (fun κ2 => ?_) (fun κ2 => ?_)⟩
            · refine gT_n 2 ?_
              have e := ih (i + 1) (by omega) (by omega) (fun j hj => by
                rcases Nat.lt_or_ge j i with g | g
                · exact hno j g
                · obtain rfl : j = i := by omega
                  intro c
                  obtain ⟨⟨c1, c2⟩, c3⟩ := c
                  first | exact absurd c1 (by assumption) | exact absurd c2 (by assumption) | exact absurd c3 (by assumption))
              rw [← nI_1 i] at e
              exact gT_k e ⟨rfl, rfl, rfl, rfl, trivial⟩ rfl
            · refine gT_n 6 ?_
              refine ⟨rfl, rfl, (pk_in i 10 (by omega) (rfl)), pk_ne ((ig l i).2.1) z (fun κ3 => ?_) (fun κ3 => ?_) ((rdI (rfl) (by omega) hI.1.2.1)) (rfl) (by have := hq.1; omega) (by omega)⟩
              · refine gT_n 2 ?_
                have e := ih (i + 1) (by omega) (by omega) (fun j hj => by
                  rcases Nat.lt_or_ge j i with g | g
                  · exact hno j g
                  · obtain rfl : j = i := by omega
                    intro c
                    obtain ⟨⟨c1, c2⟩, c3⟩ := c
                    first | exact absurd c1 (by assumption) | exact absurd c2 (by assumption) | exact absurd c3 (by assumption))
                rw [← nI_1 i] at e
                exact gT_k e ⟨rfl, rfl, rfl, rfl, trivial⟩ rfl
              · refine gT_n 5 ?_
                refine ⟨rfl, rfl, rfl, gTM.use (m_isRight207 hit h10 hok hin hk) (Nat.le_refl _) (fun r u hq => ?_)⟩
                obtain ⟨rfl, ⟨rfl, β4⟩ | ⟨rfl, β4⟩⟩ := hq  -- X12_isRight[R171, nI i, R207]
                · refine gT_n 1 ?_
                  refine ⟨fun c => absurd c (by decide), fun _ => ?_⟩
                  refine gT_n 5 ?_
                  refine ⟨rfl, rfl, rfl, gTM.use (m_takesI208 hit h10 hin) (Nat.le_refl _) (fun r u hq => ?_)⟩
                  obtain ⟨rfl, X1, rfl, hfr1, hrow⟩ := hq  -- X12_takesItem[R171, nI i, R208]
                  refine gT_n 5 ?_
                  refine ⟨rfl, rfl, gTM.use (m_entryComes (X := X1) (k := 0) hit h10 hok hin hpk hsp (nH_fr (fun j hj => hfr1 j (by omega)) hH) hE.1 (eOK_4 hz hE) (by omega)) (Nat.le_refl _) (fun r u hq => ?_)⟩
                  obtain ⟨rfl, X2, Y2, r0, hr0, rfl, hH2, hca, hf, hfr2, h201⟩ := hq  -- X12_entryComes[R171, nI z, K0, nI i]
                  refine gT_n 2 ?_
                  obtain rfl := isF_one hr2 (show isF l _ (some i) from ⟨hin, ⟨⟨κ2, κ3⟩, β4⟩, hno⟩)
                  obtain ⟨i', hii, rfl, rfl, rfl, rfl⟩ := (pif_neg (by simp)).mp hsp2
                  cases hii
                  obtain rfl := isE_one hr hr0
                  exact ⟨X2, Y2, rfl, ri rz_y, hH2, fun _ => (by rw [hfr2 208 (by decide)]; exact kro_eq hrow.1 hrow.2.1 hrow.2.2), (hfr2 206 (by decide)).trans (hfr1 206 (by decide)), (hfr2 207 (by decide)).trans (hfr1 207 (by decide)), h201.trans (hfr1 201 (by decide)), hca.trans (by rw [hfr1 171 (by decide)]; rfl), fun f a b => (hf f a b).trans (by rw [hfr1 171 (by decide)])⟩
                · refine gT_n 1 ?_
                  refine ⟨fun _ => ?_, fun c => absurd (by decide) c⟩
                  refine gT_n 2 ?_
                  have e := ih (i + 1) (by omega) (by omega) (fun j hj => by
                    rcases Nat.lt_or_ge j i with g | g
                    · exact hno j g
                    · obtain rfl : j = i := by omega
                      intro c
                      obtain ⟨⟨c1, c2⟩, c3⟩ := c
                      first | exact absurd c1 (by assumption) | exact absurd c2 (by assumption) | exact absurd c3 (by assumption))
                  rw [← nI_1 i] at e
                  exact gT_k e ⟨rfl, rfl, rfl, rfl, trivial⟩ rfl
        · refine gT_n 4 ?_
          refine ⟨rfl, pk_le l.length i (fun κ1 => ?_) (fun κ1 => ?_) (hcn) (rfl) (by omega) (by omega)⟩
          · refine gT_n 4 ?_
            have hr2n : isF l (fun q => (q.1 = 0 ∧ q.2.1 = z) ∧ rt q kn) none := fun j hj => hno j (by omega)
            obtain rfl := isF_one hr2 hr2n
            obtain ⟨rfl, rfl, hx⟩ := (pif_pos rfl).mp hsp2
            refine gT_k ((m_plainL (d := d) (Y := Y) hz hS0 hk hzz hz0 (fun c => ?_) (fun c => ?_) 0 (by omega)).2 (fun c => by obtain ⟨j, hj, -⟩ := c; exact absurd hj (Nat.not_lt_zero j))) ⟨rfl, rfl, rfl, rfl, rfl, trivial⟩ rfl
            · obtain rfl := (pif_pos c).mp hx
              exact ⟨X, Y, rfl, ri (rz_n (by decide)), hH, fun c => absurd c (by decide), rfl, rfl, rfl, a0 _, fun _ _ _ => rfl⟩
            · obtain rfl := (pif_neg c).mp hx
              exact ⟨X, Y, rfl, ri (rz_n (by decide)), hH, fun c => absurd c (by decide), rfl, rfl, rfl, a0 _, fun _ _ _ => rfl⟩
          · exact absurd (show i < l.length by omega) hin
      exact gT_k (loop 0 (by omega) (fun j hj => absurd hj (Nat.not_lt_zero j))) ⟨rfl, rfl, rfl, rfl, trivial⟩ rfl
  · exact absurd (by omega) hz0
