/-! names read: the reference -/
def fr2 (X X' : Nat → Nat → Int32) : Prop := (∀ a, ¬ a = 171 → ¬ a = 192 → X' a = X a) ∧ xFd X X'
theorem fr2_T {X X' X2 : Nat → Nat → Int32} (h : fr2 X X') (g : fr2 X' X2) : fr2 X X2 := ⟨fun a h1 h2 => (g.1 a h1 h2).trans (h.1 a h1 h2), g.2.1.trans h.2.1, g.2.2.1.trans h.2.2.1, g.2.2.2.1.trans h.2.2.2.1, g.2.2.2.2.trans h.2.2.2.2⟩
theorem fr2_s {X : Nat → Nat → Int32} : fr2 X X := ⟨fun _ _ _ => rfl, rfl, rfl, rfl, rfl⟩
theorem fr2_x {X X' : Nat → Nat → Int32} (h : xFr X X') : fr2 X X' := ⟨fun a h1 _ => h.1 a h1, h.2⟩
/-- a name from its first token on -/
def rNa (n : Nat) (b : Nat → Nat) (q0 : tk3) (r : zF ⊕ (Nat × tk3)) : Prop := pif (q0.2.2 = 3) (∃ r2, adv n b q0.2.1 r2 ∧ match r2 with
    | .inl f => r = .inl f
    | .inr q2 => r = .inr (0, q2)) (rNm n b 4 [] q0 r)
theorem m_nameF {d m : Nat} {f : zF} {I X0 X1 : Nat → Nat → Int32} {J Y : Nat → Nat → Int64} {P : Nat → Nat} {n : Nat} {b : Nat → Nat} {Z : zF ⊕ (Nat × tk3) → Prop} (hm : 1 ≤ m) (hm9 : m ≤ 9) (hrr : Z (.inl f)) (hfx : fr2 X0 X1) (ho : fT X1 f) : gT (d + 4) 189 71 [(1, .int (nI m)), (0, .ref 171)] [] (0, 0) (gST (xM I X1) (xJ J Y) P) (fun r u => (∃ f X', Z (.inl f) ∧ (∃ x, r = some (.long (lN (mo x))) ∧ vn x) ∧ u = gST (xM I X') (xJ J Y) P ∧ fr2 X0 X' ∧ fT X' f) ∨ (∃ m q' X', Z (.inr (m, q')) ∧ r = some (.long (lN (mo m))) ∧ u = gST (xM I X') (xJ J Y) P ∧ fr2 X0 X' ∧ okT n b X' q' ∧ tIs n b q' ∧ vn m)) := by
  refine gT_n 6 ?_
  refine gT_k (L := [(5, .int (nI (m - 1))), (3, .long (lN 0)), (1, .int (nI m)), (0, .ref 171)]) ?_ ⟨(viI (pk_subE (n := m) (k := 1) (rfl) (rfl) (by omega))), rfl, rfl, rfl, trivial⟩ rfl
  refine gT_n 2 ?_
  refine ⟨fun c => absurd c (nI_pos (by omega)), fun _ => ?_⟩
  refine gT_n 3 ?_
  refine ⟨rfl, px_ne (X := f.1) (Y := (0)) (ho.1) (rfl) (fun κ1 => ?_) (fun κ1 => ?_)⟩
  · refine gT_n 2 ?_
    refine ⟨rfl, ?_⟩
    exact Or.inl ⟨f, X1, hrr, ⟨0, rfl, vn_0⟩, rfl, hfx, ho⟩
  · exact absurd (by assumption) (fun e : f.1 = 0 => absurd ho.2.2 (by rw [e]; decide))
theorem rLb_r {n : Nat} {b : Nat → Nat} {k : Nat} {q q1 : tk3} (h : rLb n b k q (.inr q1)) : (q.2.2 = 1 ∨ q.2.2 = 4) ∧ ¬ (4 ≤ k ∨ 3 < q.2.1 - q.1) ∧ adv n b q.2.1 (.inr q1) := by
  by_cases c : q.2.2 = 1 ∨ q.2.2 = 4
  · have h := (pif_pos c).mp h
    by_cases c2 : 4 ≤ k ∨ 3 < q.2.1 - q.1
    · exact inr_l ((pif_pos c2).mp h)
    · exact ⟨c, c2, (pif_neg c2).mp h⟩
  · exact inr_l ((pif_neg c).mp h)
theorem inl_c {α β : Type} {f g : zF} (h : (Sum.inl f : zF ⊕ α) = .inl g) : (Sum.inl f : zF ⊕ β) = .inl g := by
  cases h; rfl
theorem rNm_l {n : Nat} {b : Nat → Nat} {k j : Nat} {ws : List Nat} {q : tk3} {f : zF} (hj : k + j = 4) (h : rLb n b k q (.inl f)) : rNm n b j ws q (.inl f) := by
  cases j with
  | zero =>
    by_cases c : q.2.2 = 1 ∨ q.2.2 = 4
    · exact (pif_pos c).mpr (inl_c ((pif_pos (by omega)).mp ((pif_pos c).mp h)))
    · exact (pif_neg c).mpr (inl_c ((pif_neg c).mp h))
  | succ j =>
    by_cases c : q.2.2 = 1 ∨ q.2.2 = 4
    · have h := (pif_pos c).mp h
      by_cases c2 : 3 < q.2.1 - q.1
      · exact (pif_pos c).mpr ((pif_pos c2).mpr (inl_c ((pif_pos (Or.inr c2)).mp h)))
      · exact (pif_pos c).mpr ((pif_neg c2).mpr ⟨_, (pif_neg (by omega)).mp h, rfl⟩)
    · exact (pif_neg c).mpr (inl_c ((pif_neg c).mp h))
theorem wr_fr3 {X X' : Nat → Nat → Int32} (h : xFr X X') : ∀ {l}, wr X l → wr X' l
  | [], _ => trivial
  | a :: l, hw => ⟨by rw [h.1 192 (by decide)]; exact hw.1, wr_fr3 h hw.2⟩
theorem m_nameW {d k : Nat} {ws : List Nat} {I X : Nat → Nat → Int32} {J Y : Nat → Nat → Int64} {P : Nat → Nat} {Q : Option Value → gW → Prop} (hwl : ws.length = k ∧ 1 ≤ ws.length ∧ ws.length ≤ 4) (h19 : X 171 19 = 0) (hw : wr X ws) (hv : vws ws) (hq : Q (some (.long (lN (mo (nOf ws))))) (gST (xM I X) (xJ J Y) P)) : gT (d + 4) 189 71 [(1, .int (nI k)), (0, .ref 171)] [] (0, 0) (gST (xM I X) (xJ J Y) P) Q := by
  obtain ⟨rfl, h1, h4⟩ := hwl
  have go : ∀ {m : Nat} {w : gW} {v : Value} {k : Int32}, gT (d + 4) 189 71 [(1, .int k), (0, .ref 171)] [] (0, 0) w (fun r u => u = w ∧ r = some v) → Q (some v) w → gT (d + 4) 189 71 [(1, .int k), (0, .ref 171)] [] (0, 0) w Q := fun h g => gT_mono _ _ _ _ _ _ _ _ _ (fun r u h => by obtain ⟨rfl, rfl⟩ := h; exact g) h
  rcases ws with _ | ⟨a, _ | ⟨b, _ | ⟨c, _ | ⟨e, _ | ⟨g, l⟩⟩⟩⟩⟩
  · exact absurd h1 (by simp)
  · exact go (m := 0) (m_nameB1 h19 hw hv) hq
  · exact go (m := 0) (m_nameB2 h19 hw hv) hq
  · exact go (m := 0) (m_nameB3 h19 hw hv) hq
  · exact go (m := 0) (m_nameB4 h19 hw hv) hq
  · exact absurd h4 (by simp)
theorem m_nameL {d : Nat} {I X0 : Nat → Nat → Int32} {J Y : Nat → Nat → Int64} {P : Nat → Nat} {n : Nat} {b : Nat → Nat} (hT : tpm I n b) {Z : zF ⊕ (Nat × tk3) → Prop} : ∀ j ws q k, ws.length = k → k + j = 4 → ∀ X : Nat → Nat → Int32, okT n b X q → tIs n b q → wr X ws → vws ws → fr2 X0 X → (∀ r, rNm n b j ws q r → Z r) → gT (d + 4) 189 26 [(1, .int (nI k)), (2, .int 1), (0, .ref 171)] [] (0, 0) (gST (xM I X) (xJ J Y) P) (fun r u => (∃ f X', Z (.inl f) ∧ (∃ x, r = some (.long (lN (mo x))) ∧ vn x) ∧ u = gST (xM I X') (xJ J Y) P ∧ fr2 X0 X' ∧ fT X' f) ∨ (∃ m q' X', Z (.inr (m, q')) ∧ r = some (.long (lN (mo m))) ∧ u = gST (xM I X') (xJ J Y) P ∧ fr2 X0 X' ∧ okT n b X' q' ∧ tIs n b q' ∧ vn m)) := by
  have hn2 := hT.2.1
  intro j
  induction j with
  | zero =>
    intro ws q k hlw hkj X hq hta hwr hvw hfx hZ
    have ihj : False → True := fun _ => trivial
    refine gT_n 2 ?_
    refine ⟨fun c => absurd c (by decide), fun _ => ?_⟩
    refine gT_n 3 ?_
    refine ⟨rfl, rfl, gTM.use (m_readsLabel hT hta hq (by omega)) (Nat.le_refl _) (fun r u hq => ?_)⟩
    obtain ⟨rfl, ⟨f, X1, hra, rfl, hf1, hd1, ho⟩ | ⟨q1, X1, hra, rfl, hf1, hd1, hrow, ho⟩⟩ := hq  -- X12_readsLabel[R171, nI k]
    · refine gT_n 4 ?_
      refine ⟨rfl, px_ne (X := f.1) (Y := (0)) (ho.1) (rfl) (fun κ1 => ?_) (fun κ1 => ?_)⟩
      · refine gT_n 4 ?_
        refine ⟨fun _ => ?_, fun c => absurd (by decide) c⟩
        refine gT_k (L := [(1, .int (nI ((k + 1)))), (2, .int 0), (0, .ref 171)]) ?_ ⟨viI (nI_1 k), rfl, rfl, trivial⟩ rfl
        refine gT_n 2 ?_
        refine ⟨fun _ => ?_, fun c => absurd (by decide) c⟩
        exact gT_k (m_nameF (m := k + 1) (by omega) (by omega) (hZ _ (rNm_l hkj hra)) (fr2_T hfx ⟨hf1, hd1⟩) ho) ⟨rfl, rfl, trivial⟩ rfl
      · exact absurd (by assumption) (fun e : f.1 = 0 => absurd ho.2.2 (by rw [e]; decide))
    · refine gT_n 1 ?_
      exact absurd (rLb_r hra).2.1 (by omega)
  | succ j ihj =>
    intro ws q k hlw hkj X hq hta hwr hvw hfx hZ
    refine gT_n 2 ?_
    refine ⟨fun c => absurd c (by decide), fun _ => ?_⟩
    refine gT_n 3 ?_
    refine ⟨rfl, rfl, gTM.use (m_readsLabel hT hta hq (by omega)) (Nat.le_refl _) (fun r u hq => ?_)⟩
    obtain ⟨rfl, ⟨f, X1, hra, rfl, hf1, hd1, ho⟩ | ⟨q1, X1, hra, rfl, hf1, hd1, hrow, ho⟩⟩ := hq  -- X12_readsLabel[R171, nI k]
    · refine gT_n 4 ?_
      refine ⟨rfl, px_ne (X := f.1) (Y := (0)) (ho.1) (rfl) (fun κ1 => ?_) (fun κ1 => ?_)⟩
      · refine gT_n 4 ?_
        refine ⟨fun _ => ?_, fun c => absurd (by decide) c⟩
        refine gT_k (L := [(1, .int (nI ((k + 1)))), (2, .int 0), (0, .ref 171)]) ?_ ⟨viI (nI_1 k), rfl, rfl, trivial⟩ rfl
        refine gT_n 2 ?_
        refine ⟨fun _ => ?_, fun c => absurd (by decide) c⟩
        exact gT_k (m_nameF (m := k + 1) (by omega) (by omega) (hZ _ (rNm_l hkj hra)) (fr2_T hfx ⟨hf1, hd1⟩) ho) ⟨rfl, rfl, trivial⟩ rfl
      · exact absurd (by assumption) (fun e : f.1 = 0 => absurd ho.2.2 (by rw [e]; decide))
    · obtain ⟨hk14, hlt3, hra1⟩ := rLb_r hra
      have hlb := lb_vl hta hk14
      have hvw2 : vws (lb b q :: ws) := fun x hx => by
        rcases List.mem_cons.mp hx with e | e
        · rw [e]; exact hlb
        · exact hvw x e
      have hwr2 : wr X1 (lb b q :: ws) := ⟨by rw [hlw, hrow]; exact upd_at, wr_fr hrow ws (by omega) hwr⟩
      have hfx1 : fr2 X0 X1 := fr2_T hfx ⟨hf1, hd1⟩
      refine gT_n 4 ?_
      refine ⟨rfl, fun c => absurd c (kpT (p := fun z : Int32 => ¬ (¬ z = 0)) (show _ = (0 : Int32) from ho.1) (by decide)), fun _ => ?_⟩
      refine gT_n 3 ?_
      refine ⟨rfl, rfl, gTM.use (m_isSign3 hT ⟨_, hra1⟩ ho) (Nat.le_refl _) (fun r u hq => ?_)⟩
      obtain ⟨rfl, ⟨rfl, β2⟩ | ⟨rfl, β2⟩⟩ := hq  -- X12_isSign[R171, K46]
      · refine gT_n 1 ?_
        refine ⟨fun c => absurd c (by decide), fun _ => ?_⟩
        refine gT_n 5 ?_
        refine ⟨fun c => absurd c (by decide), fun _ => ?_⟩
        refine gT_n 2 ?_
        refine ⟨rfl, rfl, gTM.use (m_reads hT (adv_r hra1).2.2.1 ho.1 ho.2.1) (Nat.le_refl _) (fun r u hq => ?_)⟩
        obtain ⟨rfl, ⟨f, X2, hrb, rfl, hf2, ho2⟩ | ⟨q2, X2, hrb, rfl, hf2, ho2⟩⟩ := hq  -- X12_reads[R171]
        · refine gT_n 1 ?_
          refine gT_k (L := [(1, .int (nI ((k + 1)))), (2, .int 1), (0, .ref 171)]) ?_ ⟨viI (nI_1 k), rfl, rfl, trivial⟩ rfl
          refine gT_n 2 ?_
          refine ⟨fun c => absurd c (by decide), fun _ => ?_⟩
          refine gT_n 3 ?_
          refine ⟨rfl, rfl, gTM.use (m_readsLabelF ho2.1 ho2.2.2) (Nat.le_refl _) (fun r u hq => ?_)⟩
          obtain ⟨rfl, rfl⟩ := hq  -- X12_readsLabel[R171, nI ((k + 1))]
          refine gT_n 4 ?_
          refine ⟨rfl, px_ne (X := f.1) (Y := (0)) (ho2.1) (rfl) (fun κ1 => ?_) (fun κ1 => ?_)⟩
          · refine gT_n 4 ?_
            refine ⟨fun _ => ?_, fun c => absurd (by decide) c⟩
            refine gT_k (L := [(1, .int (nI ((k + 2)))), (2, .int 0), (0, .ref 171)]) ?_ ⟨viI (nI_1 (k + 1)), rfl, rfl, trivial⟩ rfl
            refine gT_n 2 ?_
            refine ⟨fun _ => ?_, fun c => absurd (by decide) c⟩
            exact gT_k (m_nameF (X1 := X2) (m := k + 2) (by omega) (by omega) (hZ _ (((pif_pos hk14).mpr ((pif_neg (by omega)).mpr ⟨_, hra1, (pif_pos β2).mpr ⟨_, hrb, rfl⟩⟩)))) (fr2_T hfx1 (fr2_x hf2)) ho2) ⟨rfl, rfl, trivial⟩ rfl
          · exact absurd (by assumption) (fun e : f.1 = 0 => absurd ho2.2.2 (by rw [e]; decide))
        · refine gT_n 1 ?_
          have e' := ihj (lb b q :: ws) q2 (k + 1) (by simp only [List.length_cons]; omega) (by omega) X2 ho2 ⟨_, hrb⟩ (wr_fr3 hf2 hwr2) hvw2 (fr2_T hfx1 (fr2_x hf2)) (fun r h => hZ r (((pif_pos hk14).mpr ((pif_neg (by omega)).mpr ⟨_, hra1, (pif_pos β2).mpr ⟨_, hrb, h⟩⟩))))
          exact gT_k e' ⟨viI (nI_1 k), rfl, rfl, trivial⟩ rfl
      · refine gT_n 1 ?_
        refine ⟨fun _ => ?_, fun c => absurd (by decide) c⟩
        refine gT_n 4 ?_
        refine ⟨fun _ => ?_, fun c => absurd (by decide) c⟩
        refine gT_k (L := [(1, .int (nI ((k + 1)))), (2, .int 0), (0, .ref 171)]) ?_ ⟨viI (nI_1 k), rfl, rfl, trivial⟩ rfl
        refine gT_n 2 ?_
        refine ⟨fun _ => ?_, fun c => absurd (by decide) c⟩
        refine gT_k (m_nameW (d := d) (hwl := ⟨by simp only [List.length_cons]; omega, by simp only [List.length_cons]; omega, by simp only [List.length_cons]; omega⟩) ho.1 hwr2 hvw2 (Or.inr ⟨nOf (lb b q :: ws), q1, X1, hZ _ (((pif_pos hk14).mpr ((pif_neg (by omega)).mpr ⟨_, hra1, (pif_neg β2).mpr rfl⟩))), rfl, rfl, hfx1, ho, ⟨_, hra1⟩, nOf_vn hvw2⟩)) ⟨rfl, rfl, trivial⟩ rfl
theorem m_readsName {d : Nat} {I X : Nat → Nat → Int32} {J Y : Nat → Nat → Int64} {P : Nat → Nat} {n : Nat} {b : Nat → Nat} (hT : tpm I n b) {q : tk3} (hta : tIs n b q) (hq : okT n b X q) : gTM (d + 4) 189 [.ref 171] (gST (xM I X) (xJ J Y) P) (fun r u => (∃ f X', rNa n b q (.inl f) ∧ (∃ x, r = some (.long (lN (mo x))) ∧ vn x) ∧ u = gST (xM I X') (xJ J Y) P ∧ fr2 X X' ∧ fT X' f) ∨ (∃ m q' X', rNa n b q (.inr (m, q')) ∧ r = some (.long (lN (mo m))) ∧ u = gST (xM I X') (xJ J Y) P ∧ fr2 X X' ∧ okT n b X' q' ∧ tIs n b q' ∧ vn m)) := by
  have hn2 := hT.2.1
  have hta0 := hta
  obtain ⟨aq, hadv⟩ := hta
  obtain ⟨r1, r2, r3, r4, r5, r6, r7, r8⟩ := adv_r hadv
  refine gT_n 3 ?_
  refine ⟨rfl, fun c => absurd c (kpT (p := fun z : Int32 => ¬ (¬ z = 0)) (show _ = (0 : Int32) from hq.1) (by decide)), fun _ => ?_⟩
  refine gT_n 3 ?_
  refine ⟨rfl, rfl, gTM.use (m_isSign3 hT hta0 hq) (Nat.le_refl _) (fun r u hq => ?_)⟩
  obtain ⟨rfl, ⟨rfl, β1⟩ | ⟨rfl, β1⟩⟩ := hq  -- X12_isSign[R171, K46]
  · refine gT_n 1 ?_
    refine ⟨fun c => absurd c (by decide), fun _ => ?_⟩
    refine gT_n 2 ?_
    refine ⟨rfl, rfl, gTM.use (m_reads hT r3 hq.1 hq.2.1) (Nat.le_refl _) (fun r u hq => ?_)⟩
    obtain ⟨rfl, ⟨f, X1, hra, rfl, hf1, ho⟩ | ⟨q1, X1, hra, rfl, hf1, ho⟩⟩ := hq  -- X12_reads[R171]
    · refine gT_n 2 ?_
      refine ⟨rfl, ?_⟩
      exact Or.inl ⟨f, X1, (pif_pos β1).mpr ⟨_, hra, rfl⟩, ⟨0, rfl, vn_0⟩, rfl, fr2_x hf1, ho⟩
    · refine gT_n 2 ?_
      refine ⟨rfl, ?_⟩
      exact Or.inr ⟨0, q1, X1, (pif_pos β1).mpr ⟨_, hra, rfl⟩, rfl, rfl, fr2_x hf1, ho, ⟨_, hra⟩, vn_0⟩
  · refine gT_n 1 ?_
    refine ⟨fun _ => ?_, fun c => absurd (by decide) c⟩
    refine gT_n 4 ?_
    exact gT_k (m_nameL (d := d) (X0 := X) hT (Z := rNa n b q) 4 [] q 0 rfl rfl X hq hta0 trivial (fun x hx => absurd hx (by simp)) fr2_s (fun r h => (pif_neg β1).mpr h)) ⟨rfl, rfl, rfl, trivial⟩ rfl
