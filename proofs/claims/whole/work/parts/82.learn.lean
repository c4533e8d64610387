/-! digests and keys learned: the class -/
def isF (l : List zI) (p : zI → Prop) : Option Nat → Prop
  | some i => i < l.length ∧ p (ig l i) ∧ ∀ j, j < i → ¬ p (ig l j)
  | none => ∀ j, j < l.length → ¬ p (ig l j)
theorem isF_one {l : List zI} {p : zI → Prop} {r r' : Option Nat} (h : isF l p r) (g : isF l p r') : r = r' := by
  cases r with
  | none => cases r' with
    | none => rfl
    | some b => exact absurd g.2.1 (h b g.1)
  | some a => cases r' with
    | none => exact absurd h.2.1 (g a h.1)
    | some b =>
      rcases Nat.lt_trichotomy a b with c | c | c
      · exact absurd h.2.1 (g.2.2 a c)
      · rw [c]
      · exact absurd g.2.1 (h.2.2 b c)
def pln (t : zT) (z : Nat) (kn : Int32 → Prop) (q : zI) : Prop := ((q.1 = 3 ∧ q.2.1 = zpa t z) ∧ q.2.2.1 = t.2.1 z) ∧ (¬ q.2.2.2.2.1 &&& 8 = 0 ∧ q.2.2.2.2.1 &&& 16 = 0) ∧ rt q kn
def fDg (t : zT) (D : zK) (ck pk : Int32) (l : List zI) (z : Nat) (kn : Int32 → Prop) (C : List zE) (x : Int32) (dg : Int32 → Prop) (C' : List zE) (n : Nat) : Prop :=
  pif (z = 0) (x = 100 ∧ dg = amo ((kg D 0).1, (kg D 1).1, (kg D 2).1) ∧ C' = C ∧ n = 0)
  (∃ r, isE C z 0 r ∧ pif (aliv C ck r) (x = 100 ∧ (∃ e, r = some e ∧ dg = amo (eg C e).2.2.1) ∧ C' = C ∧ n = 0)
    (∃ r2, isF l (fun q => (q.1 = 0 ∧ q.2.1 = z) ∧ rt q kn) r2 ∧ pif (r2 = none)
      (C' = C ∧ n = 0 ∧ pif (t.2.2.1 z = false ∧ ∃ i, i < l.length ∧ pln t z kn (ig l i)) (x = 5) (x = -21))
      (∃ i, r2 = some i ∧ x = 100 ∧ dg = amo (ig l i).2.2.2.2.2.1 ∧ C' = sE C r ++ [(z, 0, cm3 (ig l i).2.2.2.2.2.1, tll t pk)] ∧ n = 1)))
def fLk (t : zT) (pk : Int32) (l : List zI) (z : Nat) (dg : Int32 → Prop) (C : List zE) (x : Int32) (kn : Int32 → Prop) (C' : List zE) (n : Nat) : Prop :=
  ∃ r2, isF l (fun q => (q.1 = 1 ∧ q.2.1 = z) ∧ (gen q ∧ amo q.2.2.2.2.2.1 q.2.2.2.2.2.2.1) ∧ dg q.2.2.2.2.2.2.1) r2 ∧ pif (r2 = none) (x = -22 ∧ C' = C ∧ n = 0)
    (∃ i, r2 = some i ∧ x = 100 ∧ kn = amo (ig l i).2.2.2.2.2.1 ∧ (∃ r3, isE C z 1 r3 ∧ C' = sE C r3 ++ [(z, 1, cm3 (ig l i).2.2.2.2.2.1, tll t pk)]) ∧ n = 1)
def fKy (t : zT) (D : zK) (ck pk : Int32) (l : List zI) (z : Nat) (kn : Int32 → Prop) (C : List zE) (x : Int32) (kn' : Int32 → Prop) (C' : List zE) (n : Nat) : Prop :=
  ∃ r, isE C z 1 r ∧ pif (aliv C ck r) (x = 100 ∧ (∃ e, r = some e ∧ kn' = amo (eg C e).2.2.1) ∧ C' = C ∧ n = 0)
    (∃ x1 dg C1 n1, fDg t D ck pk l z kn C x1 dg C1 n1 ∧ pif (x1 = 100) (∃ n2, fLk t pk l z dg C1 x kn' C' n2 ∧ n = n1 + n2) (x = x1 ∧ C' = C1 ∧ n = n1))
theorem kro_eq {r : Nat → Int32} {q : Int32 × Int32 × Int32} (h0 : r 0 = q.1) (h1 : r 1 = q.2.1) (h2 : r 2 = q.2.2) : kro r (amo q) := fun k hk => by
  rw [h0, h1, h2]; exact ⟨fun h => ⟨hk, h⟩, fun h => h.2⟩
theorem kro_cm {r : Nat → Int32} {q : Int32 × Int32 × Int32} (h : r 0 = (cm3 q).1 ∧ r 1 = (cm3 q).2.1 ∧ r 2 = (cm3 q).2.2) : kro r (amo q) := fun k hk => by
  rw [h.1, h.2.1, h.2.2]; exact cm3_amo hk
theorem a0 (x : Int32) : x = x + nI 0 := (Int32.add_zero x).symm
/-- what stands throughout a check -/
def kS (t : zT) (D : zK) (ck pk : Int32) (l : List zI) (I : Nat → Nat → Int32) (J : Nat → Nat → Int64) (P : Nat → Nat) : Prop := cTr I J t ∧ cK (I 37 2) (I 38) (I 39) D ∧ I 17 5 = ck ∧ I 145 6 = pk ∧ I 145 1 = nI l.length ∧ itm I J P l ∧ l.length ≤ 10 ∧ vIs t l
theorem c_plain {d z : Nat} {kn : Int32 → Prop} {I X : Nat → Nat → Int32} {J : Nat → Nat → Int64} {Y : Nat → Int64} {P : Nat → Nat} {t : zT} {D : zK} {ck pk : Int32} {l : List zI} (hz : zOK t) (hS : kS t D ck pk l I J P) (hk : kro (X 169) kn) (hgn : genF X l) (hzz : z < t.1) (hz0 : ¬ z = 0) : gTM (d + 2) 98 [.ref 167, .int (nI z)] (gST (kM I X) (m1 J 28 Y) P) (gB (gST (kM I X) (m1 J 28 Y) P) (∃ i, i < l.length ∧ pln t z kn (ig l i))) := by
  obtain ⟨hT, hD, hck, hpk, hcn, hit, h10, hok⟩ := hS
  have h4 := hz.2.1
  have hpz : zpa t z < t.1 := zof_lt hz _
  have hp4 : zpa t z < 4 := by omega
  have loop : ∀ i, i ≤ l.length → (∀ j, j < i → ¬ pln t z kn (ig l j)) → gT (d + 2) 98 2 [(2, .int (nI i)), (0, .ref 167), (1, .int (nI z))] [] (0, 0) (gST (kM I X) (m1 J 28 Y) P) (gB (gST (kM I X) (m1 J 28 Y) P) (∃ i, i < l.length ∧ pln t z kn (ig l i))) := by
    refine loopU l.length (fun i hi ih => ?_)
    intro hno
    by_cases hin : i < l.length
    · obtain ⟨hrr, hb, hI⟩ := hit i hin
      have hbb : 147 ≤ P i ∧ P i ≤ 166 := by omega
      have hbb1 : 147 ≤ P i + 1 ∧ P i + 1 ≤ 166 := by omega
      have hq := hok _ (ig_mem hin)
      have hq4 := hq.2.2.2.1
      refine gT_n 5 ?_
      refine ⟨rfl, rfl, pk_le l.length i (fun κ1 => ?_) (fun κ1 => ?_) (hcn) (rfl) (by omega) (by omega)⟩
      · exact absurd hin (by omega)
      · refine gT_n 5 ?_
        refine ⟨rfl, rfl, rfl, (pk_in i 10 (by omega) (rfl)), ?_⟩
        refine gT_top (aa_ref (b := P i) (rfl) (by omega) rfl) ?_
        refine gT_n 10 ?_
        refine ⟨rfl, rfl, rfl, (pk_in z 4 (by omega) (rfl)), rfl, rfl, gTM.useA (c_isOf hz hp4 hit h10 hok hin) (Nat.le_refl _) (aR (aI (rfl) (aI (rfl) (aI ((rdI (rfl) (by omega) ((hT.2.2 z hzz).trans (if_neg hz0)))) (rfl))))) (fun r u hq => ?_)⟩
        obtain ⟨rfl, ⟨rfl, β2⟩ | ⟨rfl, β2⟩⟩ := hq  -- X9_isOf[R167, nI i, K3, nI ((zpa t z))]
        · refine gT_n 1 ?_
          refine ⟨fun c => absurd c (by decide), fun _ => ?_⟩
          refine gT_n 9 ?_
          refine ⟨hb.ob, rfl, rfl, rfl, (pk_in z 4 (by omega) (rfl)), pl_ne ((ig l i).2.2.1) ((t.2.1 z)) (fun κ3 => ?_) (fun κ3 => ?_) ((Eq.trans (mJ_r hbb) (hI.2.1.1))) ((rdJ (rfl) (by omega) (hT.1.2.1 z hzz))) (hq.2.1.lt) ((hz.2.2.2.2.1 z hzz).lt)⟩
          · refine gT_n 7 ?_
            refine ⟨hb.ob, pk_eq (((ig l i).2.2.2.2.1) &&& 8) 0 (fun κ4 => ?_) (fun κ4 => ?_) (pk_ndE (n := ((ig l i).2.2.2.2.1)) (k := 8) ((Eq.trans (kM_r hbb) (hI.1.2.2.1))) (rfl) (by omega) (by omega)) (rfl) (Nat.lt_trans (Nat.lt_of_le_of_lt Nat.and_le_left (by omega)) (by decide)) (by omega)⟩
            · refine gT_n 4 ?_
              refine ⟨fun _ => ?_, fun c => absurd (by decide) c⟩
              refine gT_n 2 ?_
              have e := ih (i + 1) (by omega) (by omega) (fun j hj => by
                rcases Nat.lt_or_ge j i with g | g
                · exact hno j g
                · obtain rfl : j = i := by omega
                  intro c
                  obtain ⟨⟨c1, c2⟩, ⟨c3, c4⟩, c5⟩ := c
                  first | exact absurd c1 (by assumption) | exact absurd c2 (by assumption) | exact absurd (by assumption) c3 | exact absurd c4 (by assumption) | exact absurd c5 (by assumption))
              rw [← nI_1 i] at e
              exact gT_k e ⟨rfl, rfl, rfl, trivial⟩ rfl
            · refine gT_n 5 ?_
              refine ⟨hb.ob, pk_ne (((ig l i).2.2.2.2.1) &&& 16) 0 (fun κ5 => ?_) (fun κ5 => ?_) (pk_ndE (n := ((ig l i).2.2.2.2.1)) (k := 16) ((Eq.trans (kM_r hbb) (hI.1.2.2.1))) (rfl) (by omega) (by omega)) (rfl) (Nat.lt_trans (Nat.lt_of_le_of_lt Nat.and_le_left (by omega)) (by decide)) (by omega)⟩
              · refine gT_n 4 ?_
                refine ⟨fun _ => ?_, fun c => absurd (by decide) c⟩
                refine gT_n 2 ?_
                have e := ih (i + 1) (by omega) (by omega) (fun j hj => by
                  rcases Nat.lt_or_ge j i with g | g
                  · exact hno j g
                  · obtain rfl : j = i := by omega
                    intro c
                    obtain ⟨⟨c1, c2⟩, ⟨c3, c4⟩, c5⟩ := c
                    first | exact absurd c1 (by assumption) | exact absurd c2 (by assumption) | exact absurd (by assumption) c3 | exact absurd c4 (by assumption) | exact absurd c5 (by assumption))
                rw [← nI_1 i] at e
                exact gT_k e ⟨rfl, rfl, rfl, trivial⟩ rfl
              · refine gT_n 5 ?_
                refine ⟨fun _ => ?_, fun c => absurd (by decide) c⟩
                refine gT_n 2 ?_
                have e := ih (i + 1) (by omega) (by omega) (fun j hj => by
                  rcases Nat.lt_or_ge j i with g | g
                  · exact hno j g
                  · obtain rfl : j = i := by omega
                    intro c
                    obtain ⟨⟨c1, c2⟩, ⟨c3, c4⟩, c5⟩ := c
                    first | exact absurd c1 (by assumption) | exact absurd c2 (by assumption) | exact absurd (by assumption) c3 | exact absurd c4 (by assumption) | exact absurd c5 (by assumption))
                rw [← nI_1 i] at e
                exact gT_k e ⟨rfl, rfl, rfl, trivial⟩ rfl
          · refine gT_n 8 ?_
            refine ⟨hb.ob, pk_eq (((ig l i).2.2.2.2.1) &&& 8) 0 (fun κ6 => ?_) (fun κ6 => ?_) (pk_ndE (n := ((ig l i).2.2.2.2.1)) (k := 8) ((Eq.trans (kM_r hbb) (hI.1.2.2.1))) (rfl) (by omega) (by omega)) (rfl) (Nat.lt_trans (Nat.lt_of_le_of_lt Nat.and_le_left (by omega)) (by decide)) (by omega)⟩
            · refine gT_n 4 ?_
              refine ⟨fun c => absurd c (by decide), fun _ => ?_⟩
              refine gT_n 2 ?_
              refine ⟨fun _ => ?_, fun c => absurd (by decide) c⟩
              refine gT_n 2 ?_
              have e := ih (i + 1) (by omega) (by omega) (fun j hj => by
                rcases Nat.lt_or_ge j i with g | g
                · exact hno j g
                · obtain rfl : j = i := by omega
                  intro c
                  obtain ⟨⟨c1, c2⟩, ⟨c3, c4⟩, c5⟩ := c
                  first | exact absurd c1 (by assumption) | exact absurd c2 (by assumption) | exact absurd (by assumption) c3 | exact absurd c4 (by assumption) | exact absurd c5 (by assumption))
              rw [← nI_1 i] at e
              exact gT_k e ⟨rfl, rfl, rfl, trivial⟩ rfl
            · refine gT_n 5 ?_
              refine ⟨hb.ob, pk_ne (((ig l i).2.2.2.2.1) &&& 16) 0 (fun κ7 => ?_) (fun κ7 => ?_) (pk_ndE (n := ((ig l i).2.2.2.2.1)) (k := 16) ((Eq.trans (kM_r hbb) (hI.1.2.2.1))) (rfl) (by omega) (by omega)) (rfl) (Nat.lt_trans (Nat.lt_of_le_of_lt Nat.and_le_left (by omega)) (by decide)) (by omega)⟩
              · refine gT_n 4 ?_
                refine ⟨fun c => absurd c (by decide), fun _ => ?_⟩
                refine gT_n 2 ?_
                refine ⟨fun _ => ?_, fun c => absurd (by decide) c⟩
                refine gT_n 2 ?_
                have e := ih (i + 1) (by omega) (by omega) (fun j hj => by
                  rcases Nat.lt_or_ge j i with g | g
                  · exact hno j g
                  · obtain rfl : j = i := by omega
                    intro c
                    obtain ⟨⟨c1, c2⟩, ⟨c3, c4⟩, c5⟩ := c
                    first | exact absurd c1 (by assumption) | exact absurd c2 (by assumption) | exact absurd (by assumption) c3 | exact absurd c4 (by assumption) | exact absurd c5 (by assumption))
                rw [← nI_1 i] at e
                exact gT_k e ⟨rfl, rfl, rfl, trivial⟩ rfl
              · refine gT_n 5 ?_
                refine ⟨fun c => absurd c (by decide), fun _ => ?_⟩
                refine gT_n 2 ?_
                refine ⟨fun c => absurd c (by decide), fun _ => ?_⟩
                refine gT_n 5 ?_
                refine ⟨rfl, rfl, rfl, gTM.use (c_isRight169 hz hit h10 hok hin hgn hk) (Nat.le_refl _) (fun r u hq => ?_)⟩
                obtain ⟨rfl, ⟨rfl, β8⟩ | ⟨rfl, β8⟩⟩ := hq  -- X9_isRight[R167, nI i, R169]
                · refine gT_n 1 ?_
                  refine ⟨fun c => absurd c (by decide), fun _ => ?_⟩
                  refine gT_n 2 ?_
                  refine ⟨(Or.inr rfl), ?_⟩
                  exact ⟨rfl, Or.inl ⟨rfl, i, hin, ⟨β2, κ3⟩, ⟨κ6, κ7⟩, β8⟩⟩
                · refine gT_n 1 ?_
                  refine ⟨fun _ => ?_, fun c => absurd (by decide) c⟩
                  refine gT_n 2 ?_
                  have e := ih (i + 1) (by omega) (by omega) (fun j hj => by
                    rcases Nat.lt_or_ge j i with g | g
                    · exact hno j g
                    · obtain rfl : j = i := by omega
                      intro c
                      obtain ⟨⟨c1, c2⟩, ⟨c3, c4⟩, c5⟩ := c
                      first | exact absurd c1 (by assumption) | exact absurd c2 (by assumption) | exact absurd (by assumption) c3 | exact absurd c4 (by assumption) | exact absurd c5 (by assumption))
                  rw [← nI_1 i] at e
                  exact gT_k e ⟨rfl, rfl, rfl, trivial⟩ rfl
        · refine gT_n 1 ?_
          refine ⟨fun _ => ?_, fun c => absurd (by decide) c⟩
          refine gT_n 7 ?_
          refine ⟨hb.ob, pk_eq (((ig l i).2.2.2.2.1) &&& 8) 0 (fun κ9 => ?_) (fun κ9 => ?_) (pk_ndE (n := ((ig l i).2.2.2.2.1)) (k := 8) ((Eq.trans (kM_r hbb) (hI.1.2.2.1))) (rfl) (by omega) (by omega)) (rfl) (Nat.lt_trans (Nat.lt_of_le_of_lt Nat.and_le_left (by omega)) (by decide)) (by omega)⟩
          · refine gT_n 4 ?_
            refine ⟨fun _ => ?_, fun c => absurd (by decide) c⟩
            refine gT_n 2 ?_
            have e := ih (i + 1) (by omega) (by omega) (fun j hj => by
              rcases Nat.lt_or_ge j i with g | g
              · exact hno j g
              · obtain rfl : j = i := by omega
                intro c
                obtain ⟨⟨c1, c2⟩, ⟨c3, c4⟩, c5⟩ := c
                first | exact absurd c1 (by assumption) | exact absurd c2 (by assumption) | exact absurd (by assumption) c3 | exact absurd c4 (by assumption) | exact absurd c5 (by assumption))
            rw [← nI_1 i] at e
            exact gT_k e ⟨rfl, rfl, rfl, trivial⟩ rfl
          · refine gT_n 5 ?_
            refine ⟨hb.ob, pk_ne (((ig l i).2.2.2.2.1) &&& 16) 0 (fun κ10 => ?_) (fun κ10 => ?_) (pk_ndE (n := ((ig l i).2.2.2.2.1)) (k := 16) ((Eq.trans (kM_r hbb) (hI.1.2.2.1))) (rfl) (by omega) (by omega)) (rfl) (Nat.lt_trans (Nat.lt_of_le_of_lt Nat.and_le_left (by omega)) (by decide)) (by omega)⟩
            · refine gT_n 4 ?_
              refine ⟨fun _ => ?_, fun c => absurd (by decide) c⟩
              refine gT_n 2 ?_
              have e := ih (i + 1) (by omega) (by omega) (fun j hj => by
                rcases Nat.lt_or_ge j i with g | g
                · exact hno j g
                · obtain rfl : j = i := by omega
                  intro c
                  obtain ⟨⟨c1, c2⟩, ⟨c3, c4⟩, c5⟩ := c
                  first | exact absurd c1 (by assumption) | exact absurd c2 (by assumption) | exact absurd (by assumption) c3 | exact absurd c4 (by assumption) | exact absurd c5 (by assumption))
              rw [← nI_1 i] at e
              exact gT_k e ⟨rfl, rfl, rfl, trivial⟩ rfl
            · refine gT_n 5 ?_
              refine ⟨fun _ => ?_, fun c => absurd (by decide) c⟩
              refine gT_n 2 ?_
              have e := ih (i + 1) (by omega) (by omega) (fun j hj => by
                rcases Nat.lt_or_ge j i with g | g
                · exact hno j g
                · obtain rfl : j = i := by omega
                  intro c
                  obtain ⟨⟨c1, c2⟩, ⟨c3, c4⟩, c5⟩ := c
                  first | exact absurd c1 (by assumption) | exact absurd c2 (by assumption) | exact absurd (by assumption) c3 | exact absurd c4 (by assumption) | exact absurd c5 (by assumption))
              rw [← nI_1 i] at e
              exact gT_k e ⟨rfl, rfl, rfl, trivial⟩ rfl
    · refine gT_n 5 ?_
      refine ⟨rfl, rfl, pk_le l.length i (fun κ1 => ?_) (fun κ1 => ?_) (hcn) (rfl) (by omega) (by omega)⟩
      · refine gT_n 2 ?_
        refine ⟨Or.inl rfl, ?_⟩
        exact ⟨rfl, Or.inr ⟨rfl, fun c => by obtain ⟨j, hj, h⟩ := c; exact hno j (by omega) h⟩⟩
      · exact absurd (show i < l.length by omega) hin
  refine gT_n 2 ?_
  exact gT_k (loop 0 (by omega) (fun j hj => absurd hj (Nat.not_lt_zero j))) ⟨rfl, rfl, rfl, trivial⟩ rfl
theorem c_learnD {d z : Nat} {I X : Nat → Nat → Int32} {J : Nat → Nat → Int64} {Y : Nat → Int64} {P : Nat → Nat} {t : zT} {D : zK} {ck pk : Int32} {l : List zI} (hz : zOK t) (hS : kS t D ck pk l I J P) {C : List zE} {kn : Int32 → Prop} (hH : cH X Y C) (hE : eOK t C) (hk : kro (X 169) kn) (hgn : genF X l) (hzz : z < t.1) : gTM (d + 3) 97 [.ref 167, .int (nI z)] (gST (kM I X) (m1 J 28 Y) P) (fun r u => ∃ x dg C' n X' Y', u = gST (kM I X') (m1 J 28 Y') P ∧ r = some (.int x) ∧ fDg t D ck pk l z kn C x dg C' n ∧ cH X' Y' C' ∧ eOK t C' ∧ (x = 100 → kro (X' 168) dg) ∧ (X' 169 = X 169 ∧ X' 170 = X 170) ∧ (X' 167 3 = X 167 3 + nI n ∧ ∀ f, ¬ f = 3 → X' 167 f = X 167 f)) := by
  have hS0 := hS
  obtain ⟨hT, hD, hck, hpk, hcn, hit, h10, hok⟩ := hS
  have h4 := hz.2.1
  by_cases hz0 : z = 0
  · refine gT_n 2 ?_
    refine pk_ne z 0 (fun κ1 => ?_) (fun κ1 => ?_) (rfl) (rfl) (by omega) (by omega)
    · exact absurd hz0 κ1
    · refine gT_n 12 ?_
      refine ⟨rfl, rfl, rfl, (pk_in 0 4 (by decide) rfl), rfl, rfl, rfl, rfl, rfl, ⟨by decide, by decide, by decide, by show 0 + 3 ≤ 3; decide, by show 0 + 3 ≤ 3; decide⟩, ?_⟩
      refine gT_kD (b := 168) (c := 38) rfl rfl ?_
      refine gT_n 2 ?_
      exact ⟨_, _, C, 0, _, Y, rfl, rfl, (pif_pos hz0).mpr ⟨rfl, rfl, rfl, rfl⟩, cH_fr hE.1 (fun j hj => vu_n (by omega)) hH, hE, fun _ => kro_eq (by rw [vu_b]; exact hD.2.1.1) (by rw [vu_b]; exact hD.2.1.2.1) (by rw [vu_b]; exact hD.2.1.2.2), ⟨vu_n (by decide), vu_n (by decide)⟩, by rw [vu_n (by decide)]; exact a0 _, fun f _ => by rw [vu_n (by decide)]⟩
  · refine gT_n 2 ?_
    refine pk_ne z 0 (fun κ1 => ?_) (fun κ1 => ?_) (rfl) (rfl) (by omega) (by omega)
    · refine gT_n 11 ?_
      refine ⟨rfl, rfl, rfl, rfl, rfl, rfl, rfl, gTM.useA (c_recall168 hH hE.1 (eOK_4 hz hE) (by omega)) (Nat.le_refl _) (aR (aI (rfl) (aI (rfl) (aI (hck) (aR rfl))))) (fun r u hq => ?_)⟩
      obtain ⟨r, hr, ⟨hal, rfl, X1, rfl, hfr, hrow⟩ | ⟨hal, rfl, rfl⟩⟩ := hq  -- X0_recall[R25, nI z, K0, ck, R168]
      · refine gT_n 1 ?_
        refine ⟨fun c => absurd c (by decide), fun _ => ?_⟩
        refine gT_n 2 ?_
        obtain ⟨e, rfl, k0, k1, k2⟩ := hrow
        exact ⟨_, _, C, 0, X1, Y, rfl, rfl, (pif_neg hz0).mpr ⟨_, hr, (pif_pos hal).mpr ⟨rfl, ⟨e, rfl, rfl⟩, rfl, rfl⟩⟩, cH_fr hE.1 (fun j hj => hfr j (by omega)) hH, hE, fun _ => kro_eq k0 k1 k2, ⟨hfr 169 (by decide), hfr 170 (by decide)⟩, by rw [hfr 167 (by decide)]; exact a0 _, fun f _ => by rw [hfr 167 (by decide)]⟩
      · refine gT_n 1 ?_
        refine ⟨fun _ => ?_, fun c => absurd (by decide) c⟩
        refine gT_n 2 ?_
        have tail : (∀ j, j < l.length → ¬ (((ig l j).1 = 0 ∧ (ig l j).2.1 = z) ∧ rt (ig l j) kn)) → gT (d + 3) 97 111 [(0, .ref 167), (1, .int (nI z))] [] (0, 0) (gST (kM I X) (m1 J 28 Y) P) (fun r u => ∃ x dg C' n X' Y', u = gST (kM I X') (m1 J 28 Y') P ∧ r = some (.int x) ∧ fDg t D ck pk l z kn C x dg C' n ∧ cH X' Y' C' ∧ eOK t C' ∧ (x = 100 → kro (X' 168) dg) ∧ (X' 169 = X 169 ∧ X' 170 = X 170) ∧ (X' 167 3 = X 167 3 + nI n ∧ ∀ f, ¬ f = 3 → X' 167 f = X 167 f)) := by
          intro hnn
          cases hs : t.2.2.1 z
          · have hs1 : I 15 z = 0 := by rw [hT.1.2.2.2.1 _ hzz, hs]; rfl
            refine gT_n 6 ?_
            refine ⟨rfl, rfl, (Or.inr rfl), (pk_in z 4 (by omega) (rfl)), fun c => absurd c (kpT (p := fun z : Int32 => ¬ (¬ z = 0)) (show _ = (0 : Int32) from (rdI (rfl) (by omega) hs1)) (by decide)), fun _ => ?_⟩
            refine gT_n 3 ?_
            refine ⟨rfl, rfl, gTM.use (c_plain hz hS0 hk hgn hzz hz0) (Nat.le_refl _) (fun r u hq => ?_)⟩
            obtain ⟨rfl, ⟨rfl, β1⟩ | ⟨rfl, β1⟩⟩ := hq  -- X9_isShownPlain[R167, nI z]
            · refine gT_n 1 ?_
              refine ⟨fun c => absurd c (by decide), fun _ => ?_⟩
              refine gT_n 3 ?_
              exact ⟨_, fun _ => False, C, 0, X, Y, rfl, rfl, (pif_neg hz0).mpr ⟨r, hr, (pif_neg hal).mpr ⟨none, hnn, (pif_pos rfl).mpr ⟨rfl, rfl, (pif_pos ⟨hs, β1⟩).mpr rfl⟩⟩⟩, hH, hE, fun c => absurd c (by decide), ⟨rfl, rfl⟩, a0 _, fun _ _ => rfl⟩
            · refine gT_n 1 ?_
              refine ⟨fun _ => ?_, fun c => absurd (by decide) c⟩
              refine gT_n 2 ?_
              refine ⟨rfl, ?_⟩
              refine gT_n 4 ?_
              show gT _ 97 139 _ _ _ _ _
              refine gT_n 1 ?_
              exact ⟨_, fun _ => False, C, 0, X, Y, rfl, rfl, (pif_neg hz0).mpr ⟨r, hr, (pif_neg hal).mpr ⟨none, hnn, (pif_pos rfl).mpr ⟨rfl, rfl, (pif_neg (fun c => β1 c.2)).mpr rfl⟩⟩⟩, hH, hE, fun c => absurd c (by decide), ⟨rfl, rfl⟩, a0 _, fun _ _ => rfl⟩
          · have hs1 : I 15 z = 1 := by rw [hT.1.2.2.2.1 _ hzz, hs]; rfl
            refine gT_n 6 ?_
            refine ⟨rfl, rfl, (Or.inr rfl), (pk_in z 4 (by omega) (rfl)), fun _ => ?_, fun c => absurd c (kpT (p := fun z : Int32 => ¬ z = 0) (show _ = (1 : Int32) from (rdI (rfl) (by omega) hs1)) (by decide))⟩
            refine gT_n 2 ?_
            refine ⟨rfl, ?_⟩
            refine gT_n 4 ?_
            show gT _ 97 139 _ _ _ _ _
            refine gT_n 1 ?_
            exact ⟨_, fun _ => False, C, 0, X, Y, rfl, rfl, (pif_neg hz0).mpr ⟨r, hr, (pif_neg hal).mpr ⟨none, hnn, (pif_pos rfl).mpr ⟨rfl, rfl, (pif_neg (fun c => by rw [hs] at c; exact absurd c.1 (by decide))).mpr rfl⟩⟩⟩, hH, hE, fun c => absurd c (by decide), ⟨rfl, rfl⟩, a0 _, fun _ _ => rfl⟩
        have loop : ∀ i, i ≤ l.length → (∀ j, j < i → ¬ (((ig l j).1 = 0 ∧ (ig l j).2.1 = z) ∧ rt (ig l j) kn)) → gT (d + 3) 97 60 [(2, .int (nI i)), (0, .ref 167), (1, .int (nI z))] [] (0, 0) (gST (kM I X) (m1 J 28 Y) P) (fun r u => ∃ x dg C' n X' Y', u = gST (kM I X') (m1 J 28 Y') P ∧ r = some (.int x) ∧ fDg t D ck pk l z kn C x dg C' n ∧ cH X' Y' C' ∧ eOK t C' ∧ (x = 100 → kro (X' 168) dg) ∧ (X' 169 = X 169 ∧ X' 170 = X 170) ∧ (X' 167 3 = X 167 3 + nI n ∧ ∀ f, ¬ f = 3 → X' 167 f = X 167 f)) := by
          refine loopU l.length (fun i hi ih => ?_)
          intro hno
          by_cases hin : i < l.length
          · obtain ⟨hrr, hb, hI⟩ := hit i hin
            have hbb : 147 ≤ P i ∧ P i ≤ 166 := by omega
            have hbb1 : 147 ≤ P i + 1 ∧ P i + 1 ≤ 166 := by omega
            have hq := hok _ (ig_mem hin)
            have hq4 := hq.2.2.2.1
            refine gT_n 5 ?_
            refine ⟨rfl, rfl, pk_le l.length i (fun κ1 => ?_) (fun κ1 => ?_) (hcn) (rfl) (by omega) (by omega)⟩
            · exact absurd hin (by omega)
            · refine gT_n 5 ?_
              refine ⟨rfl, rfl, gTM.use (c_isOf hz (by omega) hit h10 hok hin) (Nat.le_refl _) (fun r u hq => ?_)⟩
              obtain ⟨rfl, ⟨rfl, β2⟩ | ⟨rfl, β2⟩⟩ := hq  -- X9_isOf[R167, nI i, K0, nI z]
              · refine gT_n 1 ?_
                refine ⟨fun c => absurd c (by decide), fun _ => ?_⟩
                refine gT_n 5 ?_
                refine ⟨rfl, rfl, rfl, gTM.use (c_isRight169 hz hit h10 hok hin hgn hk) (Nat.le_refl _) (fun r u hq => ?_)⟩
                obtain ⟨rfl, ⟨rfl, β3⟩ | ⟨rfl, β3⟩⟩ := hq  -- X9_isRight[R167, nI i, R169]
                · refine gT_n 1 ?_
                  refine ⟨fun c => absurd c (by decide), fun _ => ?_⟩
                  refine gT_n 5 ?_
                  refine ⟨rfl, rfl, rfl, gTM.use (c_take168 hz hit h10 hok hin hH hE hpk hT.2.1) (Nat.le_refl _) (fun r u hq => ?_)⟩
                  obtain ⟨rfl, X1, Y1, r0, hr0, rfl, hH1, hrow, hca, hf, hfr⟩ := hq  -- X9_takeNumbers[R167, nI i, R168]
                  refine gT_n 2 ?_
                  obtain ⟨e1, e2⟩ := β2
                  rw [e1, e2] at hr0 hH1
                  obtain rfl := isE_one hr hr0
                  refine ⟨100, amo (ig l i).2.2.2.2.2.1, _, 1, X1, Y1, rfl, rfl, (pif_neg hz0).mpr ⟨r, hr, (pif_neg hal).mpr ⟨some i, ⟨hin, ⟨⟨e1, e2⟩, β3⟩, hno⟩, (pif_neg (by simp)).mpr ⟨i, rfl, rfl, rfl, rfl, rfl⟩⟩⟩, hH1, eOK_app hE hr hzz, fun _ => kro_cm hrow, ⟨hfr 169 (by decide) (by decide), hfr 170 (by decide) (by decide)⟩, hca, hf⟩
                · refine gT_n 1 ?_
                  refine ⟨fun _ => ?_, fun c => absurd (by decide) c⟩
                  refine gT_n 2 ?_
                  have e := ih (i + 1) (by omega) (by omega) (fun j hj => by
                    rcases Nat.lt_or_ge j i with g | g
                    · exact hno j g
                    · obtain rfl : j = i := by omega
                      intro c
                      first | exact absurd c.1 (by assumption) | exact absurd c.2 (by assumption))
                  rw [← nI_1 i] at e
                  exact gT_k e ⟨rfl, rfl, rfl, trivial⟩ rfl
              · refine gT_n 1 ?_
                refine ⟨fun _ => ?_, fun c => absurd (by decide) c⟩
                refine gT_n 2 ?_
                have e := ih (i + 1) (by omega) (by omega) (fun j hj => by
                  rcases Nat.lt_or_ge j i with g | g
                  · exact hno j g
                  · obtain rfl : j = i := by omega
                    intro c
                    first | exact absurd c.1 (by assumption) | exact absurd c.2 (by assumption))
                rw [← nI_1 i] at e
                exact gT_k e ⟨rfl, rfl, rfl, trivial⟩ rfl
          · refine gT_n 5 ?_
            refine ⟨rfl, rfl, pk_le l.length i (fun κ1 => ?_) (fun κ1 => ?_) (hcn) (rfl) (by omega) (by omega)⟩
            · exact gT_k (tail (fun j hj => hno j (by omega))) ⟨rfl, rfl, trivial⟩ rfl
            · exact absurd (show i < l.length by omega) hin
        exact gT_k (loop 0 (by omega) (fun j hj => absurd hj (Nat.not_lt_zero j))) ⟨rfl, rfl, rfl, trivial⟩ rfl
    · exact absurd (by omega) hz0
