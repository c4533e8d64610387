/-! the draft, zones read: the reference -/
def b8 (X : Nat → Nat → Int32) : Prop := ∀ z, z < 4 → X 188 z = 0 ∨ X 188 z = 1
def dfm (X : Nat → Nat → Int32) (Y : Nat → Nat → Int64) (D : zD) : Prop := X 171 29 = nI D.1.1 ∧ (∀ z, 1 ≤ z → z < D.1.1 → Y 187 z = lN (mo (D.1.2.1 z)) ∧ X 188 z = bI (D.1.2.2.1 z)) ∧ b8 X ∧ mR (X 171 33) (Y 189) (X 190) (X 191) D.2.1 ∧ X 171 34 = nI D.1.2.2.2 ∧ X 171 35 = bI D.2.2
theorem dfm_fr {X X' : Nat → Nat → Int32} {Y : Nat → Nat → Int64} {D : zD} (h : fr2 X X') (hd : dfm X Y D) : dfm X' Y D := by
  unfold dfm b8 at hd ⊢
  rw [h.1 188 (by decide) (by decide), h.1 190 (by decide) (by decide), h.1 191 (by decide) (by decide), h.2.1, h.2.2.1, h.2.2.2.1, h.2.2.2.2]
  exact hd
def mOut (n : Nat) (X' : Nat → Nat → Int32) (Y' : Nat → Nat → Int64) : zF ⊕ (zD × Nat) → Prop
  | .inl f => fT X' f ∧ b8 X'
  | .inr g => dfm X' Y' g.1 ∧ dOK g.1 ∧ X' 171 19 = 0 ∧ X' 171 21 = nI g.2 ∧ g.2 ≤ n
theorem m_endsF {d : Nat} {f : Int32} {I X : Nat → Nat → Int32} {J Y : Nat → Nat → Int64} {P : Nat → Nat} (h0 : X 171 19 = f) (hf : 0 < f) : gTM (d + 1) 190 [.ref 171] (gST (xM I X) (xJ J Y) P) (fun r u => r = none ∧ u = (gST (xM I X) (xJ J Y) P)) := by
  refine gT_n 4 ?_
  refine ⟨rfl, px_gt (X := f) (Y := (0)) (h0) (rfl) (fun κ1 => ?_) (fun κ1 => ?_)⟩
  · refine gT_n 4 ?_
    refine ⟨rfl, rfl, gTM.use (m_mustF h0 hf) (Nat.le_refl _) (fun r u hq => ?_)⟩
    obtain ⟨xx, rfl, rfl⟩ := hq  -- X12_must[R171, K1, K2]
    refine gT_n 2 ?_
    refine ⟨rfl, ?_⟩
    exact ⟨rfl, rfl⟩
  · exact absurd hf (by assumption)
theorem m_ends {d : Nat} {I X : Nat → Nat → Int32} {J Y : Nat → Nat → Int64} {P : Nat → Nat} {n : Nat} {b : Nat → Nat} (hT : tpm I n b) {q : tk3} (hta : tIs n b q) (hq : okT n b X q) : gTM (d + 1) 190 [.ref 171] (gST (xM I X) (xJ J Y) P) (fun r u => r = none ∧ ((q.2.2 = 5 ∧ u = (gST (xM I X) (xJ J Y) P)) ∨ (¬ q.2.2 = 5 ∧ u = gST (xM I (gupI (gupI X 171 19 2) 171 20 (nI q.1))) (xJ J Y) P))) := by
  have hta0 := hta
  refine gT_n 4 ?_
  refine ⟨rfl, fun c => absurd c (kpT (p := fun z : Int32 => ¬ (0 < z)) (show _ = (0 : Int32) from hq.1) (by decide)), fun _ => ?_⟩
  refine gT_n 3 ?_
  refine ⟨rfl, rfl, gTM.use (m_isSign5 hT hta0 hq) (Nat.le_refl _) (fun r u hq => ?_)⟩
  obtain ⟨rfl, ⟨rfl, β1⟩ | ⟨rfl, β1⟩⟩ := hq  -- X12_isSign[R171, K59]
  · refine gT_n 1 ?_
    refine ⟨fun c => absurd c (by decide), fun _ => ?_⟩
    refine gT_n 4 ?_
    refine ⟨rfl, rfl, gTM.use (m_must1 (c := 2)) (Nat.le_refl _) (fun r u hq => ?_)⟩
    obtain ⟨xx, rfl, rfl⟩ := hq  -- X12_must[R171, K1, K2]
    refine gT_n 2 ?_
    refine ⟨rfl, ?_⟩
    exact ⟨rfl, Or.inl ⟨β1, rfl⟩⟩
  · refine gT_n 1 ?_
    refine ⟨fun _ => ?_, fun c => absurd (by decide) c⟩
    refine gT_n 3 ?_
    refine ⟨rfl, rfl, gTM.use (m_must0 (c := 2) (h := nI q.1) hq.1 hq.2.2.1) (Nat.le_refl _) (fun r u hq => ?_)⟩
    obtain ⟨xx, rfl, rfl⟩ := hq  -- X12_must[R171, K0, K2]
    refine gT_n 2 ?_
    refine ⟨rfl, ?_⟩
    exact ⟨rfl, Or.inr ⟨β1, rfl⟩⟩
def zNw (t : zT) (m i : Nat) : Prop := ¬ m = 0 ∧ ∀ z, 1 ≤ z → z < i → ¬ t.2.1 z = m
def zNc (t : zT) (m i : Nat) (c : Int32) : Prop := (c = 1 ∧ zNw t m i) ∨ (c = 0 ∧ ¬ zNw t m i)
theorem zNc_0 {t : zT} {m i : Nat} {c : Int32} (h : zNc t m i c) (e : c = 0) : ¬ zNw t m i := by
  rcases h with g | g
  · exact absurd (g.1.symm.trans e) (by decide)
  · exact g.2
theorem zNw_all {t : zT} {m : Nat} (hz : zOK t) : zNw t m t.1 ↔ ¬ ∃ z, z < t.1 ∧ t.2.1 z = m := by
  constructor
  · intro h ⟨z, h1, h2⟩
    by_cases c : z = 0
    · subst c
      exact h.1 (h2.symm.trans hz.2.2.1)
    · exact h.2 z (by omega) h1 h2
  · intro h
    exact ⟨fun e => h ⟨0, hz.1, hz.2.2.1.trans e.symm⟩, fun z _ h2 e => h ⟨z, h2, e⟩⟩
theorem m_zoneL {d m : Nat} {t : zT} {sg : Int32} {Q : Option Value → gW → Prop} {I X : Nat → Nat → Int32} {J Y : Nat → Nat → Int64} {P : Nat → Nat} (hz : zOK t) (hD : X 171 29 = nI t.1) (hA : ∀ z, 1 ≤ z → z < t.1 → Y 187 z = lN (mo (t.2.1 z))) (hm : vn m) (hK : ∀ c, zNc t m t.1 c → gT d 191 64 [(5, .int (nI t.1)), (4, .int c), (0, .ref 171), (1, .int sg), (2, .long (lN (mo m)))] [] (0, 0) (gST (xM I X) (xJ J Y) P) Q) : ∀ i, i ≤ t.1 → ∀ c, 1 ≤ i → zNc t m i c → gT d 191 25 [(5, .int (nI i)), (4, .int c), (0, .ref 171), (1, .int sg), (2, .long (lN (mo m)))] [] (0, 0) (gST (xM I X) (xJ J Y) P) Q := by
  have h4 := hz.2.1
  refine loopU t.1 (fun i hi ih => ?_)
  intro c h1i hc
  refine gT_n 4 ?_
  refine ⟨rfl, pk_le t.1 i (fun κ1 => ?_) (fun κ1 => ?_) (hD) (rfl) (by omega) (by omega)⟩
  · obtain rfl : i = t.1 := by omega
    exact gT_k (hK c hc) ⟨rfl, rfl, rfl, rfl, rfl, trivial⟩ rfl
  · refine gT_n 2 ?_
    refine px_eq (X := c) (Y := (0)) (rfl) (rfl) (fun κ2 => ?_) (fun κ2 => ?_)
    · refine gT_n 4 ?_
      have e' := ih (i + 1) (by omega) (by omega) 0 (by omega) (Or.inr ⟨rfl, fun h => zNc_0 hc κ2 ⟨h.1, fun z h1 h2 => h.2 z h1 (by omega)⟩⟩)
      exact gT_k e' ⟨viI (nI_1 i), rfl, rfl, rfl, rfl, trivial⟩ rfl
    · refine gT_n 7 ?_
      refine ⟨rfl, rfl, (pk_in i 4 (by omega) (rfl)), pm_eq ((t.2.1 i)) m (fun κ3 => ?_) (fun κ3 => ?_) ((rdJ (rfl) (by omega) (hA i (by omega) (by omega)))) (rfl) ((hz.2.2.2.2.1 i (by omega))) (hm)⟩
      · refine gT_n 4 ?_
        have e' := ih (i + 1) (by omega) (by omega) 0 (by omega) (Or.inr ⟨rfl, fun h => h.2 i h1i (by omega) κ3⟩)
        exact gT_k e' ⟨viI (nI_1 i), rfl, rfl, rfl, rfl, trivial⟩ rfl
      · refine gT_n 5 ?_
        have e' := ih (i + 1) (by omega) (by omega) 1 (by omega) (Or.inl ⟨rfl, by
          rcases hc with g | g
          · exact ⟨g.2.1, fun z h1 h2 => by
              rcases Nat.lt_or_ge z i with e | e
              · exact g.2.2 z h1 e
              · obtain rfl : z = i := by omega
                exact κ3⟩
          · exact absurd g.1 κ2⟩)
        exact gT_k e' ⟨viI (nI_1 i), rfl, rfl, rfl, rfl, trivial⟩ rfl
