/-! lines read: the reference -/
def rLr (n : Nat) (b : Nat → Nat) (D : zD) (q : tk3) (r : zF ⊕ (zD × tk3)) : Prop := ∃ r1, rLn n b D q r1 ∧ match r1 with
  | .inl f => r = .inl f
  | .inr g => ∃ r0, adv n b g.2 r0 ∧ match r0 with
    | .inl f => r = .inl f
    | .inr q' => r = .inr (g.1, q')
theorem rZn_of {n : Nat} {b : Nat → Nat} {D : zD} {sg : Bool} {q q1 : tk3} {r : zF ⊕ (zD × Nat)} (h4 : D.1.1 < 4) (ha : adv n b q.2.1 (.inr q1)) (hz : rZq n b D sg q1 r) : rZn n b D sg q r := by
  obtain ⟨r1, h1, h2⟩ := hz
  exact (pif_neg (by omega)).mpr ⟨r1, ⟨_, ha, h1⟩, h2⟩
theorem rRc_of {n : Nat} {b : Nat → Nat} {D : zD} {q q1 : tk3} {r : zF ⊕ (zD × Nat)} (h4 : D.2.1.length < 24) (ha : adv n b q.2.1 (.inr q1)) (hz : rRq n b D q1 r) : rRc n b D q r := by
  obtain ⟨r1, h1, h2⟩ := hz
  exact (pif_neg (by omega)).mpr ⟨r1, ⟨_, ha, h1⟩, h2⟩
theorem rSp_f {n : Nat} {b : Nat → Nat} {D : zD} {q q1 : tk3} {f : zF} (h4 : ¬ D.2.2 = true) (ha : adv n b q.2.1 (.inr q1)) (g : rNu n b 1 60 q1 (.inl f)) : rSp n b D q (.inl f) := by
  by_cases c : q1.2.2 = 2
  · have g := (pif_pos c).mp g
    by_cases c2 : 1 ≤ num b q1 ∧ num b q1 ≤ 60
    · have g := (pif_pos c2).mp g
      exact (pif_neg h4).mpr ⟨_, ⟨_, ha, (pif_pos c).mpr rfl⟩, (pif_pos c2).mpr ⟨_, ⟨_, g, rfl⟩, rfl⟩⟩
    · have g := (pif_neg c2).mp g
      cases g
      exact (pif_neg h4).mpr ⟨_, ⟨_, ha, (pif_pos c).mpr rfl⟩, (pif_neg c2).mpr rfl⟩
  · have g := (pif_neg c).mp g
    cases g
    exact (pif_neg h4).mpr ⟨_, ⟨_, ha, (pif_neg c).mpr rfl⟩, rfl⟩
theorem rSp_2 {n : Nat} {b : Nat → Nat} {D : zD} {q q1 q2 : tk3} (h4 : ¬ D.2.2 = true) (ha : adv n b q.2.1 (.inr q1)) (g : rNu n b 1 60 q1 (.inr q2)) (c5 : ¬ q2.2.2 = 5) : rSp n b D q (.inl (2, q2.1)) := by
  obtain ⟨c, c2, g⟩ := rNu_r g
  exact (pif_neg h4).mpr ⟨_, ⟨_, ha, (pif_pos c).mpr rfl⟩, (pif_pos c2).mpr ⟨_, ⟨_, g, (pif_neg c5).mpr rfl⟩, rfl⟩⟩
theorem rSp_k {n : Nat} {b : Nat → Nat} {D : zD} {q q1 q2 : tk3} (h4 : ¬ D.2.2 = true) (ha : adv n b q.2.1 (.inr q1)) (g : rNu n b 1 60 q1 (.inr q2)) (c5 : q2.2.2 = 5) : rSp n b D q (.inr ((tspan D.1 (num b q1), D.2.1, true), q2.2.1)) := by
  obtain ⟨c, c2, g⟩ := rNu_r g
  exact (pif_neg h4).mpr ⟨_, ⟨_, ha, (pif_pos c).mpr rfl⟩, (pif_pos c2).mpr ⟨_, ⟨_, g, (pif_pos c5).mpr rfl⟩, rfl⟩⟩
theorem m_room0 {d : Nat} {I X : Nat → Nat → Int32} {J Y : Nat → Nat → Int64} {P : Nat → Nat} {D : zD} (hD : dfm X Y D) (hO : dOK D) : gTM d 194 [.ref 171, .int 0] (gST (xM I X) (xJ J Y) P) (gB (gST (xM I X) (xJ J Y) P) (D.1.1 < 4)) := by
  have h4 := hO.1.2.1
  have h24 := hO.2.1.1
  refine gT_n 3 ?_
  refine ⟨fun _ => ?_, fun c => absurd c (by decide)⟩
  refine gT_n 3 ?_
  refine ⟨fun _ => ?_, fun c => absurd c (by decide)⟩
  refine gT_n 4 ?_
  refine ⟨rfl, pk_le 4 D.1.1 (fun κ1 => ?_) (fun κ1 => ?_) (rfl) (hD.1) (by omega) (by omega)⟩
  · refine gT_n 2 ?_
    refine ⟨(Or.inl rfl), ?_⟩
    exact ⟨rfl, Or.inr ⟨rfl, by omega⟩⟩
  · refine gT_n 3 ?_
    refine ⟨(Or.inr rfl), ?_⟩
    exact ⟨rfl, Or.inl ⟨rfl, by omega⟩⟩
theorem m_room1 {d : Nat} {I X : Nat → Nat → Int32} {J Y : Nat → Nat → Int64} {P : Nat → Nat} {D : zD} (hD : dfm X Y D) (hO : dOK D) : gTM d 194 [.ref 171, .int 1] (gST (xM I X) (xJ J Y) P) (gB (gST (xM I X) (xJ J Y) P) (D.1.1 < 4)) := by
  have h4 := hO.1.2.1
  have h24 := hO.2.1.1
  refine gT_n 3 ?_
  refine ⟨fun _ => ?_, fun c => absurd c (by decide)⟩
  refine gT_n 3 ?_
  refine ⟨fun _ => ?_, fun c => absurd c (by decide)⟩
  refine gT_n 4 ?_
  refine ⟨rfl, pk_le 4 D.1.1 (fun κ1 => ?_) (fun κ1 => ?_) (rfl) (hD.1) (by omega) (by omega)⟩
  · refine gT_n 2 ?_
    refine ⟨(Or.inl rfl), ?_⟩
    exact ⟨rfl, Or.inr ⟨rfl, by omega⟩⟩
  · refine gT_n 3 ?_
    refine ⟨(Or.inr rfl), ?_⟩
    exact ⟨rfl, Or.inl ⟨rfl, by omega⟩⟩
theorem m_room2 {d : Nat} {I X : Nat → Nat → Int32} {J Y : Nat → Nat → Int64} {P : Nat → Nat} {D : zD} (hD : dfm X Y D) (hO : dOK D) : gTM d 194 [.ref 171, .int 2] (gST (xM I X) (xJ J Y) P) (gB (gST (xM I X) (xJ J Y) P) (D.2.1.length < 24)) := by
  have h4 := hO.1.2.1
  have h24 := hO.2.1.1
  refine gT_n 3 ?_
  refine ⟨fun c => absurd (by decide) c, fun _ => ?_⟩
  refine gT_n 4 ?_
  refine ⟨rfl, pk_le 24 D.2.1.length (fun κ1 => ?_) (fun κ1 => ?_) (rfl) (hD.2.2.2.1.1) (by omega) (by omega)⟩
  · refine gT_n 3 ?_
    refine ⟨(Or.inl rfl), ?_⟩
    exact ⟨rfl, Or.inr ⟨rfl, by omega⟩⟩
  · refine gT_n 3 ?_
    refine ⟨(Or.inr rfl), ?_⟩
    exact ⟨rfl, Or.inl ⟨rfl, by omega⟩⟩
theorem m_room3 {d : Nat} {I X : Nat → Nat → Int32} {J Y : Nat → Nat → Int64} {P : Nat → Nat} {D : zD} (hD : dfm X Y D) (hO : dOK D) : gTM d 194 [.ref 171, .int 3] (gST (xM I X) (xJ J Y) P) (gB (gST (xM I X) (xJ J Y) P) (¬ D.2.2 = true)) := by
  have h4 := hO.1.2.1
  have h24 := hO.2.1.1
  cases hb : D.2.2
  · refine gT_n 3 ?_
    refine ⟨fun _ => ?_, fun c => absurd c (by decide)⟩
    refine gT_n 3 ?_
    refine ⟨fun c => absurd (by decide) c, fun _ => ?_⟩
    refine gT_n 3 ?_
    refine ⟨rfl, fun c => absurd c (kpT (p := fun z : Int32 => ¬ (¬ z = 0)) (show _ = (0 : Int32) from (hD.2.2.2.2.2.trans (congrArg bI hb))) (by decide)), fun _ => ?_⟩
    refine gT_n 3 ?_
    refine ⟨(Or.inr rfl), ?_⟩
    exact ⟨rfl, Or.inl ⟨rfl, by simp⟩⟩
  · refine gT_n 3 ?_
    refine ⟨fun _ => ?_, fun c => absurd c (by decide)⟩
    refine gT_n 3 ?_
    refine ⟨fun c => absurd (by decide) c, fun _ => ?_⟩
    refine gT_n 3 ?_
    refine ⟨rfl, fun _ => ?_, fun c => absurd c (kpT (p := fun z : Int32 => ¬ z = 0) (show _ = (1 : Int32) from (hD.2.2.2.2.2.trans (congrArg bI hb))) (by decide))⟩
    refine gT_n 3 ?_
    refine ⟨(Or.inl rfl), ?_⟩
    exact ⟨rfl, Or.inr ⟨rfl, by simp⟩⟩

theorem b8_fr {X X' : Nat → Nat → Int32} (h : xFr X X') (g : b8 X) : b8 X' := by
  unfold b8; rw [h.1 188 (by decide)]; exact g
theorem dfm_sp {X X2 : Nat → Nat → Int32} {Y : Nat → Nat → Int64} {D : zD} {v : Nat} (h : xFr (gupI X 171 35 1) X2) (hd : dfm X Y D) : dfm (gupI X2 171 34 (nI v)) Y (tspan D.1 v, D.2.1, true) := by
  have hd2 : dfm (gupI X 171 35 1) Y (D.1, D.2.1, true) := ⟨hd.1, hd.2.1, hd.2.2.1, hd.2.2.2.1, hd.2.2.2.2.1, rfl⟩
  have h3 := dfm_fr (fr2_x h) hd2
  exact ⟨h3.1, h3.2.1, h3.2.2.1, h3.2.2.2.1, rfl, h3.2.2.2.2.2⟩
theorem m_readsLine {d : Nat} {I X : Nat → Nat → Int32} {J Y : Nat → Nat → Int64} {P : Nat → Nat} {n : Nat} {b : Nat → Nat} (hT : tpm I n b) (hL : cLit (I 185) (I 186)) {q : tk3} (hta : tIs n b q) (hq : okT n b X q) {D : zD} (hD : dfm X Y D) (hO : dOK D) : gTM (d + 6) 195 [.ref 171] (gST (xM I X) (xJ J Y) P) (fun r u => r = none ∧ ((∃ f X' Y', rLr n b D q (.inl f) ∧ u = gST (xM I X') (xJ J Y') P ∧ fT X' f ∧ b8 X') ∨ (∃ D' q' X' Y', rLr n b D q (.inr (D', q')) ∧ u = gST (xM I X') (xJ J Y') P ∧ dfm X' Y' D' ∧ dOK D' ∧ okT n b X' q' ∧ tIs n b q'))) := by
  have hn2 := hT.2.1
  have hta0 := hta
  obtain ⟨aq, hadv⟩ := hta
  obtain ⟨r1, r2, r3, r4, r5, r6, r7, r8⟩ := adv_r hadv
  refine gT_n 2 ?_
  refine ⟨rfl, rfl, gTM.use (m_wordNow hT hL hta0 hq) (Nat.le_refl _) (fun r u hq => ?_)⟩
  obtain ⟨rfl, ⟨hw, rfl⟩ | ⟨hw, rfl⟩ | ⟨hw, rfl⟩ | ⟨hw, rfl⟩ | ⟨hw, rfl⟩⟩ := hq  -- X12_wordNow[R171]
  · refine gT_n 5 ?_
    refine ⟨fun c => absurd c (by decide), fun _ => ?_⟩
    refine gT_n 4 ?_
    refine ⟨rfl, rfl, gTM.use (m_must1 (c := 2)) (Nat.le_refl _) (fun r u hq => ?_)⟩
    obtain ⟨xx, rfl, rfl⟩ := hq  -- X12_must[R171, K1, K2]
    refine gT_n 5 ?_
    refine ⟨rfl, fun c => absurd c (kpT (p := fun z : Int32 => ¬ (0 < z)) (show _ = (0 : Int32) from hq.1) (by decide)), fun _ => ?_⟩
    refine gT_n 3 ?_
    refine ⟨rfl, rfl, gTM.use (m_room0 hD hO) (Nat.le_refl _) (fun r u hq => ?_)⟩
    obtain ⟨rfl, ⟨rfl, hrm⟩ | ⟨rfl, hrm⟩⟩ := hq  -- X12_isRoomFor[R171, K0]
    · refine gT_n 1 ?_
      refine ⟨fun c => absurd c (by decide), fun _ => ?_⟩
      refine gT_n 4 ?_
      refine ⟨rfl, rfl, gTM.use (m_must1 (c := 4)) (Nat.le_refl _) (fun r u hq => ?_)⟩
      obtain ⟨xx, rfl, rfl⟩ := hq  -- X12_must[R171, K1, K4]
      refine gT_n 3 ?_
      refine ⟨rfl, rfl, gTM.use (m_reads hT r3 hq.1 hq.2.1) (Nat.le_refl _) (fun r u hq => ?_)⟩
      obtain ⟨rfl, ⟨f, X1, hra, rfl, hf1, ho⟩ | ⟨q1, X1, hra, rfl, hf1, hq1⟩⟩ := hq  -- X12_reads[R171]
      · refine gT_n 3 ?_
        refine ⟨rfl, px_le (X := f.1) (Y := (0)) (ho.1) (rfl) (fun κ1 => ?_) (fun κ1 => ?_)⟩
        · exact absurd ho.2.2 (Int32.not_lt.mpr (by assumption))
        · refine gT_n 1 ?_
          refine ⟨rfl, ?_⟩
          exact ⟨rfl, Or.inl ⟨f, X1, Y, ⟨_, ((pif_pos hw).mpr ((pif_neg (by omega)).mpr ⟨_, ⟨_, hra, rfl⟩, rfl⟩)), rfl⟩, rfl, ho, (dfm_fr (fr2_x hf1) hD).2.2.1⟩⟩
      · refine gT_n 3 ?_
        refine ⟨rfl, fun _ => ?_, fun c => absurd (kpT (p := fun z : Int32 => z ≤ 0) (show _ = (0 : Int32) from hq1.1) (by decide)) c⟩
        refine gT_n 3 ?_
        refine ⟨fun _ => ?_, fun c => absurd c (by decide)⟩
        refine gT_n 3 ?_
        refine ⟨fun _ => ?_, fun c => absurd c (by decide)⟩
        refine gT_n 3 ?_
        refine ⟨fun c => absurd (by decide) c, fun _ => ?_⟩
        refine gT_n 3 ?_
        refine ⟨rfl, rfl, gTM.use (m_readsZone1 hT ⟨_, hra⟩ hq1 (dfm_fr (fr2_x hf1) hD) hO hrm) (Nat.le_refl _) (fun r u hq => ?_)⟩
        obtain ⟨rfl, (f | g), X2, Y2, hrr, rfl, hmo⟩ := hq  -- X12_readsZone[R171, K1]
        · refine gT_n 2 ?_
          refine ⟨rfl, rfl, gTM.use (m_readsF hmo.1.1 hmo.1.2.2) (Nat.le_refl _) (fun r u hq => ?_)⟩
          obtain ⟨rfl, rfl⟩ := hq  -- X12_reads[R171]
          refine gT_n 1 ?_
          refine ⟨rfl, ?_⟩
          exact ⟨rfl, Or.inl ⟨f, X2, Y2, ⟨_, ((pif_pos hw).mpr (rZn_of hrm hra hrr)), rfl⟩, rfl, hmo.1, hmo.2⟩⟩
        · refine gT_n 2 ?_
          refine ⟨rfl, rfl, gTM.use (m_reads hT hmo.2.2.2.2 hmo.2.2.1 hmo.2.2.2.1) (Nat.le_refl _) (fun r u hq => ?_)⟩
          obtain ⟨rfl, ⟨f, X3, hrb, rfl, hf3, ho⟩ | ⟨q3, X3, hrb, rfl, hf3, hq3⟩⟩ := hq  -- X12_reads[R171]
          · refine gT_n 1 ?_
            refine ⟨rfl, ?_⟩
            exact ⟨rfl, Or.inl ⟨f, X3, Y2, ⟨_, ((pif_pos hw).mpr (rZn_of hrm hra hrr)), _, hrb, rfl⟩, rfl, ho, (dfm_fr (fr2_x hf3) hmo.1).2.2.1⟩⟩
          · refine gT_n 1 ?_
            refine ⟨rfl, ?_⟩
            exact ⟨rfl, Or.inr ⟨g.1, q3, X3, Y2, ⟨_, ((pif_pos hw).mpr (rZn_of hrm hra hrr)), _, hrb, rfl⟩, rfl, dfm_fr (fr2_x hf3) hmo.1, hmo.2.1, hq3, ⟨_, hrb⟩⟩⟩
    · refine gT_n 1 ?_
      refine ⟨fun _ => ?_, fun c => absurd (by decide) c⟩
      refine gT_n 3 ?_
      refine ⟨rfl, rfl, gTM.use (m_must0 (c := 4) (h := nI q.1) hq.1 hq.2.2.1) (Nat.le_refl _) (fun r u hq => ?_)⟩
      obtain ⟨xx, rfl, rfl⟩ := hq  -- X12_must[R171, K0, K4]
      refine gT_n 3 ?_
      refine ⟨rfl, rfl, gTM.use (m_readsF (f := 4) rfl (by decide)) (Nat.le_refl _) (fun r u hq => ?_)⟩
      obtain ⟨rfl, rfl⟩ := hq  -- X12_reads[R171]
      refine gT_n 3 ?_
      refine ⟨rfl, fun c => absurd c (kpT (p := fun z : Int32 => ¬ (z ≤ 0)) (show _ = (4 : Int32) from rfl) (by decide)), fun _ => ?_⟩
      refine gT_n 1 ?_
      refine ⟨rfl, ?_⟩
      exact ⟨rfl, Or.inl ⟨(4, q.1), _, Y, ⟨_, ((pif_pos hw).mpr ((pif_pos (by omega)).mpr rfl)), rfl⟩, rfl, fT_s (by decide), hD.2.2.1⟩⟩
  · refine gT_n 5 ?_
    refine ⟨fun c => absurd c (by decide), fun _ => ?_⟩
    refine gT_n 4 ?_
    refine ⟨rfl, rfl, gTM.use (m_must1 (c := 2)) (Nat.le_refl _) (fun r u hq => ?_)⟩
    obtain ⟨xx, rfl, rfl⟩ := hq  -- X12_must[R171, K1, K2]
    refine gT_n 5 ?_
    refine ⟨rfl, fun c => absurd c (kpT (p := fun z : Int32 => ¬ (0 < z)) (show _ = (0 : Int32) from hq.1) (by decide)), fun _ => ?_⟩
    refine gT_n 3 ?_
    refine ⟨rfl, rfl, gTM.use (m_room1 hD hO) (Nat.le_refl _) (fun r u hq => ?_)⟩
    obtain ⟨rfl, ⟨rfl, hrm⟩ | ⟨rfl, hrm⟩⟩ := hq  -- X12_isRoomFor[R171, K1]
    · refine gT_n 1 ?_
      refine ⟨fun c => absurd c (by decide), fun _ => ?_⟩
      refine gT_n 4 ?_
      refine ⟨rfl, rfl, gTM.use (m_must1 (c := 4)) (Nat.le_refl _) (fun r u hq => ?_)⟩
      obtain ⟨xx, rfl, rfl⟩ := hq  -- X12_must[R171, K1, K4]
      refine gT_n 3 ?_
      refine ⟨rfl, rfl, gTM.use (m_reads hT r3 hq.1 hq.2.1) (Nat.le_refl _) (fun r u hq => ?_)⟩
      obtain ⟨rfl, ⟨f, X1, hra, rfl, hf1, ho⟩ | ⟨q1, X1, hra, rfl, hf1, hq1⟩⟩ := hq  -- X12_reads[R171]
      · refine gT_n 3 ?_
        refine ⟨rfl, px_le (X := f.1) (Y := (0)) (ho.1) (rfl) (fun κ2 => ?_) (fun κ2 => ?_)⟩
        · exact absurd ho.2.2 (Int32.not_lt.mpr (by assumption))
        · refine gT_n 1 ?_
          refine ⟨rfl, ?_⟩
          exact ⟨rfl, Or.inl ⟨f, X1, Y, ⟨_, ((pif_neg hw.1).mpr ((pif_pos hw.2).mpr ((pif_neg (by omega)).mpr ⟨_, ⟨_, hra, rfl⟩, rfl⟩))), rfl⟩, rfl, ho, (dfm_fr (fr2_x hf1) hD).2.2.1⟩⟩
      · refine gT_n 3 ?_
        refine ⟨rfl, fun _ => ?_, fun c => absurd (kpT (p := fun z : Int32 => z ≤ 0) (show _ = (0 : Int32) from hq1.1) (by decide)) c⟩
        refine gT_n 3 ?_
        refine ⟨fun _ => ?_, fun c => absurd c (by decide)⟩
        refine gT_n 3 ?_
        refine ⟨fun _ => ?_, fun c => absurd c (by decide)⟩
        refine gT_n 3 ?_
        refine ⟨fun _ => ?_, fun c => absurd c (by decide)⟩
        refine gT_n 2 ?_
        refine ⟨rfl, rfl, gTM.use (m_readsZone0 hT ⟨_, hra⟩ hq1 (dfm_fr (fr2_x hf1) hD) hO hrm) (Nat.le_refl _) (fun r u hq => ?_)⟩
        obtain ⟨rfl, (f | g), X2, Y2, hrr, rfl, hmo⟩ := hq  -- X12_readsZone[R171, K0]
        · refine gT_n 2 ?_
          refine ⟨rfl, rfl, gTM.use (m_readsF hmo.1.1 hmo.1.2.2) (Nat.le_refl _) (fun r u hq => ?_)⟩
          obtain ⟨rfl, rfl⟩ := hq  -- X12_reads[R171]
          refine gT_n 1 ?_
          refine ⟨rfl, ?_⟩
          exact ⟨rfl, Or.inl ⟨f, X2, Y2, ⟨_, ((pif_neg hw.1).mpr ((pif_pos hw.2).mpr (rZn_of hrm hra hrr))), rfl⟩, rfl, hmo.1, hmo.2⟩⟩
        · refine gT_n 2 ?_
          refine ⟨rfl, rfl, gTM.use (m_reads hT hmo.2.2.2.2 hmo.2.2.1 hmo.2.2.2.1) (Nat.le_refl _) (fun r u hq => ?_)⟩
          obtain ⟨rfl, ⟨f, X3, hrb, rfl, hf3, ho⟩ | ⟨q3, X3, hrb, rfl, hf3, hq3⟩⟩ := hq  -- X12_reads[R171]
          · refine gT_n 1 ?_
            refine ⟨rfl, ?_⟩
            exact ⟨rfl, Or.inl ⟨f, X3, Y2, ⟨_, ((pif_neg hw.1).mpr ((pif_pos hw.2).mpr (rZn_of hrm hra hrr))), _, hrb, rfl⟩, rfl, ho, (dfm_fr (fr2_x hf3) hmo.1).2.2.1⟩⟩
          · refine gT_n 1 ?_
            refine ⟨rfl, ?_⟩
            exact ⟨rfl, Or.inr ⟨g.1, q3, X3, Y2, ⟨_, ((pif_neg hw.1).mpr ((pif_pos hw.2).mpr (rZn_of hrm hra hrr))), _, hrb, rfl⟩, rfl, dfm_fr (fr2_x hf3) hmo.1, hmo.2.1, hq3, ⟨_, hrb⟩⟩⟩
    · refine gT_n 1 ?_
      refine ⟨fun _ => ?_, fun c => absurd (by decide) c⟩
      refine gT_n 3 ?_
      refine ⟨rfl, rfl, gTM.use (m_must0 (c := 4) (h := nI q.1) hq.1 hq.2.2.1) (Nat.le_refl _) (fun r u hq => ?_)⟩
      obtain ⟨xx, rfl, rfl⟩ := hq  -- X12_must[R171, K0, K4]
      refine gT_n 3 ?_
      refine ⟨rfl, rfl, gTM.use (m_readsF (f := 4) rfl (by decide)) (Nat.le_refl _) (fun r u hq => ?_)⟩
      obtain ⟨rfl, rfl⟩ := hq  -- X12_reads[R171]
      refine gT_n 3 ?_
      refine ⟨rfl, fun c => absurd c (kpT (p := fun z : Int32 => ¬ (z ≤ 0)) (show _ = (4 : Int32) from rfl) (by decide)), fun _ => ?_⟩
      refine gT_n 1 ?_
      refine ⟨rfl, ?_⟩
      exact ⟨rfl, Or.inl ⟨(4, q.1), _, Y, ⟨_, ((pif_neg hw.1).mpr ((pif_pos hw.2).mpr ((pif_pos (by omega)).mpr rfl))), rfl⟩, rfl, fT_s (by decide), hD.2.2.1⟩⟩
  · refine gT_n 5 ?_
    refine ⟨fun c => absurd c (by decide), fun _ => ?_⟩
    refine gT_n 4 ?_
    refine ⟨rfl, rfl, gTM.use (m_must1 (c := 2)) (Nat.le_refl _) (fun r u hq => ?_)⟩
    obtain ⟨xx, rfl, rfl⟩ := hq  -- X12_must[R171, K1, K2]
    refine gT_n 5 ?_
    refine ⟨rfl, fun c => absurd c (kpT (p := fun z : Int32 => ¬ (0 < z)) (show _ = (0 : Int32) from hq.1) (by decide)), fun _ => ?_⟩
    refine gT_n 3 ?_
    refine ⟨rfl, rfl, gTM.use (m_room2 hD hO) (Nat.le_refl _) (fun r u hq => ?_)⟩
    obtain ⟨rfl, ⟨rfl, hrm⟩ | ⟨rfl, hrm⟩⟩ := hq  -- X12_isRoomFor[R171, K2]
    · refine gT_n 1 ?_
      refine ⟨fun c => absurd c (by decide), fun _ => ?_⟩
      refine gT_n 4 ?_
      refine ⟨rfl, rfl, gTM.use (m_must1 (c := 4)) (Nat.le_refl _) (fun r u hq => ?_)⟩
      obtain ⟨xx, rfl, rfl⟩ := hq  -- X12_must[R171, K1, K4]
      refine gT_n 3 ?_
      refine ⟨rfl, rfl, gTM.use (m_reads hT r3 hq.1 hq.2.1) (Nat.le_refl _) (fun r u hq => ?_)⟩
      obtain ⟨rfl, ⟨f, X1, hra, rfl, hf1, ho⟩ | ⟨q1, X1, hra, rfl, hf1, hq1⟩⟩ := hq  -- X12_reads[R171]
      · refine gT_n 3 ?_
        refine ⟨rfl, px_le (X := f.1) (Y := (0)) (ho.1) (rfl) (fun κ3 => ?_) (fun κ3 => ?_)⟩
        · exact absurd ho.2.2 (Int32.not_lt.mpr (by assumption))
        · refine gT_n 1 ?_
          refine ⟨rfl, ?_⟩
          exact ⟨rfl, Or.inl ⟨f, X1, Y, ⟨_, ((pif_neg hw.1).mpr ((pif_neg hw.2.1).mpr ((pif_pos hw.2.2).mpr ((pif_neg (by omega)).mpr ⟨_, ⟨_, hra, rfl⟩, rfl⟩)))), rfl⟩, rfl, ho, (dfm_fr (fr2_x hf1) hD).2.2.1⟩⟩
      · refine gT_n 3 ?_
        refine ⟨rfl, fun _ => ?_, fun c => absurd (kpT (p := fun z : Int32 => z ≤ 0) (show _ = (0 : Int32) from hq1.1) (by decide)) c⟩
        refine gT_n 3 ?_
        refine ⟨fun c => absurd (by decide) c, fun _ => ?_⟩
        refine gT_n 2 ?_
        refine ⟨rfl, rfl, gTM.use (m_readsRecord hT ⟨_, hra⟩ hq1 (dfm_fr (fr2_x hf1) hD) hO hrm) (Nat.le_refl _) (fun r u hq => ?_)⟩
        obtain ⟨rfl, (f | g), X2, Y2, hrr, rfl, hmo⟩ := hq  -- X12_readsRecord[R171]
        · refine gT_n 3 ?_
          refine ⟨rfl, rfl, gTM.use (m_readsF hmo.1.1 hmo.1.2.2) (Nat.le_refl _) (fun r u hq => ?_)⟩
          obtain ⟨rfl, rfl⟩ := hq  -- X12_reads[R171]
          refine gT_n 1 ?_
          refine ⟨rfl, ?_⟩
          exact ⟨rfl, Or.inl ⟨f, X2, Y2, ⟨_, ((pif_neg hw.1).mpr ((pif_neg hw.2.1).mpr ((pif_pos hw.2.2).mpr (rRc_of hrm hra hrr)))), rfl⟩, rfl, hmo.1, hmo.2⟩⟩
        · refine gT_n 3 ?_
          refine ⟨rfl, rfl, gTM.use (m_reads hT hmo.2.2.2.2 hmo.2.2.1 hmo.2.2.2.1) (Nat.le_refl _) (fun r u hq => ?_)⟩
          obtain ⟨rfl, ⟨f, X3, hrb, rfl, hf3, ho⟩ | ⟨q3, X3, hrb, rfl, hf3, hq3⟩⟩ := hq  -- X12_reads[R171]
          · refine gT_n 1 ?_
            refine ⟨rfl, ?_⟩
            exact ⟨rfl, Or.inl ⟨f, X3, Y2, ⟨_, ((pif_neg hw.1).mpr ((pif_neg hw.2.1).mpr ((pif_pos hw.2.2).mpr (rRc_of hrm hra hrr)))), _, hrb, rfl⟩, rfl, ho, (dfm_fr (fr2_x hf3) hmo.1).2.2.1⟩⟩
          · refine gT_n 1 ?_
            refine ⟨rfl, ?_⟩
            exact ⟨rfl, Or.inr ⟨g.1, q3, X3, Y2, ⟨_, ((pif_neg hw.1).mpr ((pif_neg hw.2.1).mpr ((pif_pos hw.2.2).mpr (rRc_of hrm hra hrr)))), _, hrb, rfl⟩, rfl, dfm_fr (fr2_x hf3) hmo.1, hmo.2.1, hq3, ⟨_, hrb⟩⟩⟩
    · refine gT_n 1 ?_
      refine ⟨fun _ => ?_, fun c => absurd (by decide) c⟩
      refine gT_n 3 ?_
      refine ⟨rfl, rfl, gTM.use (m_must0 (c := 4) (h := nI q.1) hq.1 hq.2.2.1) (Nat.le_refl _) (fun r u hq => ?_)⟩
      obtain ⟨xx, rfl, rfl⟩ := hq  -- X12_must[R171, K0, K4]
      refine gT_n 3 ?_
      refine ⟨rfl, rfl, gTM.use (m_readsF (f := 4) rfl (by decide)) (Nat.le_refl _) (fun r u hq => ?_)⟩
      obtain ⟨rfl, rfl⟩ := hq  -- X12_reads[R171]
      refine gT_n 3 ?_
      refine ⟨rfl, fun c => absurd c (kpT (p := fun z : Int32 => ¬ (z ≤ 0)) (show _ = (4 : Int32) from rfl) (by decide)), fun _ => ?_⟩
      refine gT_n 1 ?_
      refine ⟨rfl, ?_⟩
      exact ⟨rfl, Or.inl ⟨(4, q.1), _, Y, ⟨_, ((pif_neg hw.1).mpr ((pif_neg hw.2.1).mpr ((pif_pos hw.2.2).mpr ((pif_pos (by omega)).mpr rfl)))), rfl⟩, rfl, fT_s (by decide), hD.2.2.1⟩⟩
  · refine gT_n 5 ?_
    refine ⟨fun c => absurd c (by decide), fun _ => ?_⟩
    refine gT_n 4 ?_
    refine ⟨rfl, rfl, gTM.use (m_must1 (c := 2)) (Nat.le_refl _) (fun r u hq => ?_)⟩
    obtain ⟨xx, rfl, rfl⟩ := hq  -- X12_must[R171, K1, K2]
    refine gT_n 5 ?_
    refine ⟨rfl, fun c => absurd c (kpT (p := fun z : Int32 => ¬ (0 < z)) (show _ = (0 : Int32) from hq.1) (by decide)), fun _ => ?_⟩
    refine gT_n 3 ?_
    refine ⟨rfl, rfl, gTM.use (m_room3 hD hO) (Nat.le_refl _) (fun r u hq => ?_)⟩
    obtain ⟨rfl, ⟨rfl, hrm⟩ | ⟨rfl, hrm⟩⟩ := hq  -- X12_isRoomFor[R171, K3]
    · refine gT_n 1 ?_
      refine ⟨fun c => absurd c (by decide), fun _ => ?_⟩
      refine gT_n 4 ?_
      refine ⟨rfl, rfl, gTM.use (m_must1 (c := 4)) (Nat.le_refl _) (fun r u hq => ?_)⟩
      obtain ⟨xx, rfl, rfl⟩ := hq  -- X12_must[R171, K1, K4]
      refine gT_n 3 ?_
      refine ⟨rfl, rfl, gTM.use (m_reads hT r3 hq.1 hq.2.1) (Nat.le_refl _) (fun r u hq => ?_)⟩
      obtain ⟨rfl, ⟨f, X1, hra, rfl, hf1, ho⟩ | ⟨q1, X1, hra, rfl, hf1, hq1⟩⟩ := hq  -- X12_reads[R171]
      · refine gT_n 3 ?_
        refine ⟨rfl, px_le (X := f.1) (Y := (0)) (ho.1) (rfl) (fun κ4 => ?_) (fun κ4 => ?_)⟩
        · exact absurd ho.2.2 (Int32.not_lt.mpr (by assumption))
        · refine gT_n 1 ?_
          refine ⟨rfl, ?_⟩
          exact ⟨rfl, Or.inl ⟨f, X1, Y, ⟨_, ((pif_neg hw.1).mpr ((pif_neg hw.2.1).mpr ((pif_neg hw.2.2.1).mpr ((pif_pos hw.2.2.2).mpr ((pif_neg hrm).mpr ⟨_, ⟨_, hra, rfl⟩, rfl⟩))))), rfl⟩, rfl, ho, (dfm_fr (fr2_x hf1) hD).2.2.1⟩⟩
      · refine gT_n 3 ?_
        refine ⟨rfl, fun _ => ?_, fun c => absurd (kpT (p := fun z : Int32 => z ≤ 0) (show _ = (0 : Int32) from hq1.1) (by decide)) c⟩
        refine gT_n 3 ?_
        refine ⟨fun _ => ?_, fun c => absurd c (by decide)⟩
        refine gT_n 3 ?_
        refine ⟨fun c => absurd (by decide) c, fun _ => ?_⟩
        refine gT_n 3 ?_
        refine ⟨rfl, (Or.inr rfl), ?_⟩
        refine gT_xP rfl (X := 1) (rfl) ?_
        refine gT_n 5 ?_
        refine ⟨rfl, rfl, gTM.use (m_number1 (X := gupI X1 171 35 1) hT ⟨_, hra⟩ hq1) (Nat.le_refl _) (fun r u hq => ?_)⟩
        obtain ⟨f, X2, hnu, ⟨xn, rfl⟩, rfl, hfx2, ho⟩ | ⟨q2, X2, hnu, rfl, rfl, hfx2, hq2⟩ := hq  -- X12_number[R171, K1, K60]
        · refine gT_n 1 ?_
          refine ⟨rfl, ?_⟩
          refine gT_xP rfl (X := xn) (rfl) ?_
          refine gT_n 2 ?_
          refine ⟨rfl, rfl, gTM.use (m_endsF (X := gupI X2 171 34 xn) ho.1 ho.2.2) (Nat.le_refl _) (fun r u hq => ?_)⟩
          obtain ⟨rfl, rfl⟩ := hq  -- X12_ends[R171]
          refine gT_n 3 ?_
          refine ⟨rfl, rfl, gTM.use (m_readsF (X := gupI X2 171 34 xn) ho.1 ho.2.2) (Nat.le_refl _) (fun r u hq => ?_)⟩
          obtain ⟨rfl, rfl⟩ := hq  -- X12_reads[R171]
          refine gT_n 1 ?_
          refine ⟨rfl, ?_⟩
          exact ⟨rfl, Or.inl ⟨f, _, Y, ⟨_, ((pif_neg hw.1).mpr ((pif_neg hw.2.1).mpr ((pif_neg hw.2.2.1).mpr ((pif_pos hw.2.2.2).mpr (rSp_f hrm hra hnu))))), rfl⟩, rfl, ho, (show b8 X2 from b8_fr hfx2 (show b8 (gupI X1 171 35 1) from (dfm_fr (fr2_x hf1) hD).2.2.1))⟩⟩
        · refine gT_n 1 ?_
          refine ⟨rfl, ?_⟩
          refine gT_xP rfl (X := (nI ((num b q1)))) (rfl) ?_
          refine gT_n 2 ?_
          refine ⟨rfl, rfl, gTM.use (m_ends (X := gupI X2 171 34 (nI (num b q1))) hT ⟨_, (rNu_r hnu).2.2⟩ hq2) (Nat.le_refl _) (fun r u hq => ?_)⟩
          obtain ⟨rfl, ⟨hk5, rfl⟩ | ⟨hk5, rfl⟩⟩ := hq  -- X12_ends[R171]
          · refine gT_n 3 ?_
            refine ⟨rfl, rfl, gTM.use (m_reads (X0 := gupI X2 171 34 (nI (num b q1))) hT (adv_r (rNu_r hnu).2.2).2.2.1 hq2.1 hq2.2.1) (Nat.le_refl _) (fun r u hq => ?_)⟩
            obtain ⟨rfl, ⟨f, X3, hrb, rfl, hf3, ho⟩ | ⟨q3, X3, hrb, rfl, hf3, hq3⟩⟩ := hq  -- X12_reads[R171]
            · refine gT_n 1 ?_
              refine ⟨rfl, ?_⟩
              exact ⟨rfl, Or.inl ⟨f, X3, Y, ⟨_, ((pif_neg hw.1).mpr ((pif_neg hw.2.1).mpr ((pif_neg hw.2.2.1).mpr ((pif_pos hw.2.2.2).mpr (rSp_k hrm hra hnu hk5))))), _, hrb, rfl⟩, rfl, ho, (dfm_fr (fr2_x hf3) (dfm_sp hfx2 (dfm_fr (fr2_x hf1) hD))).2.2.1⟩⟩
            · refine gT_n 1 ?_
              refine ⟨rfl, ?_⟩
              exact ⟨rfl, Or.inr ⟨_, q3, X3, Y, ⟨_, ((pif_neg hw.1).mpr ((pif_neg hw.2.1).mpr ((pif_neg hw.2.2.1).mpr ((pif_pos hw.2.2.2).mpr (rSp_k hrm hra hnu hk5))))), _, hrb, rfl⟩, rfl, dfm_fr (fr2_x hf3) (dfm_sp hfx2 (dfm_fr (fr2_x hf1) hD)), ⟨hO.1, hO.2.1, num_99 hra (rNu_r hnu).1⟩, hq3, ⟨_, hrb⟩⟩⟩
          · refine gT_n 3 ?_
            refine ⟨rfl, rfl, gTM.use (m_readsF (f := 2) rfl (by decide)) (Nat.le_refl _) (fun r u hq => ?_)⟩
            obtain ⟨rfl, rfl⟩ := hq  -- X12_reads[R171]
            refine gT_n 1 ?_
            refine ⟨rfl, ?_⟩
            exact ⟨rfl, Or.inl ⟨(2, q2.1), _, Y, ⟨_, ((pif_neg hw.1).mpr ((pif_neg hw.2.1).mpr ((pif_neg hw.2.2.1).mpr ((pif_pos hw.2.2.2).mpr (rSp_2 hrm hra hnu hk5))))), rfl⟩, rfl, fT_s (by decide), (show b8 X2 from b8_fr hfx2 (show b8 (gupI X1 171 35 1) from (dfm_fr (fr2_x hf1) hD).2.2.1))⟩⟩
    · refine gT_n 1 ?_
      refine ⟨fun _ => ?_, fun c => absurd (by decide) c⟩
      refine gT_n 3 ?_
      refine ⟨rfl, rfl, gTM.use (m_must0 (c := 4) (h := nI q.1) hq.1 hq.2.2.1) (Nat.le_refl _) (fun r u hq => ?_)⟩
      obtain ⟨xx, rfl, rfl⟩ := hq  -- X12_must[R171, K0, K4]
      refine gT_n 3 ?_
      refine ⟨rfl, rfl, gTM.use (m_readsF (f := 4) rfl (by decide)) (Nat.le_refl _) (fun r u hq => ?_)⟩
      obtain ⟨rfl, rfl⟩ := hq  -- X12_reads[R171]
      refine gT_n 3 ?_
      refine ⟨rfl, fun c => absurd c (kpT (p := fun z : Int32 => ¬ (z ≤ 0)) (show _ = (4 : Int32) from rfl) (by decide)), fun _ => ?_⟩
      refine gT_n 1 ?_
      refine ⟨rfl, ?_⟩
      exact ⟨rfl, Or.inl ⟨(4, q.1), _, Y, ⟨_, ((pif_neg hw.1).mpr ((pif_neg hw.2.1).mpr ((pif_neg hw.2.2.1).mpr ((pif_pos hw.2.2.2).mpr ((pif_pos (Classical.not_not.mp hrm)).mpr rfl))))), rfl⟩, rfl, fT_s (by decide), hD.2.2.1⟩⟩
  · refine gT_n 5 ?_
    refine ⟨fun _ => ?_, fun c => absurd (by decide) c⟩
    refine gT_n 3 ?_
    refine ⟨rfl, rfl, gTM.use (m_must0 (c := 2) (h := nI q.1) hq.1 hq.2.2.1) (Nat.le_refl _) (fun r u hq => ?_)⟩
    obtain ⟨xx, rfl, rfl⟩ := hq  -- X12_must[R171, K0, K2]
    refine gT_n 5 ?_
    refine ⟨rfl, fun _ => ?_, fun c => absurd (kpT (p := fun z : Int32 => 0 < z) (show _ = (2 : Int32) from rfl) (by decide)) c⟩
    refine gT_n 4 ?_
    refine ⟨rfl, rfl, gTM.use (m_mustF (f := 2) rfl (by decide)) (Nat.le_refl _) (fun r u hq => ?_)⟩
    obtain ⟨xx, rfl, rfl⟩ := hq  -- X12_must[R171, K1, K4]
    refine gT_n 3 ?_
    refine ⟨rfl, rfl, gTM.use (m_readsF (f := 2) rfl (by decide)) (Nat.le_refl _) (fun r u hq => ?_)⟩
    obtain ⟨rfl, rfl⟩ := hq  -- X12_reads[R171]
    refine gT_n 3 ?_
    refine ⟨rfl, fun c => absurd c (kpT (p := fun z : Int32 => ¬ (z ≤ 0)) (show _ = (2 : Int32) from rfl) (by decide)), fun _ => ?_⟩
    refine gT_n 1 ?_
    refine ⟨rfl, ?_⟩
    exact ⟨rfl, Or.inl ⟨(2, q.1), _, Y, ⟨_, ((pif_neg hw.1).mpr ((pif_neg hw.2.1).mpr ((pif_neg hw.2.2.1).mpr ((pif_neg hw.2.2.2).mpr rfl)))), rfl⟩, rfl, fT_s (by decide), hD.2.2.1⟩⟩
