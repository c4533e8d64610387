/-! names: the reference -/
theorem m_mustF {d : Nat} {f is c : Int32} {I X : Nat → Nat → Int32} {J Y : Nat → Nat → Int64} {P : Nat → Nat} (h0 : X 171 19 = f) (hf : 0 < f) : gTM d 182 [.ref 171, .int is, .int c] (gST (xM I X) (xJ J Y) P) (fun r u => ∃ x, r = some (.int x) ∧ u = (gST (xM I X) (xJ J Y) P)) := by
  refine gT_n 2 ?_
  refine px_ne (X := is) (Y := (0)) (rfl) (rfl) (fun κ1 => ?_) (fun κ1 => ?_)
  · refine gT_n 3 ?_
    refine ⟨rfl, px_ne (X := f) (Y := (0)) (h0) (rfl) (fun κ2 => ?_) (fun κ2 => ?_)⟩
    · refine gT_n 2 ?_
      refine ⟨(Or.inl rfl), ?_⟩
      exact ⟨_, rfl, rfl⟩
    · refine gT_n 3 ?_
      refine ⟨(Or.inr rfl), ?_⟩
      exact ⟨_, rfl, rfl⟩
  · refine gT_n 3 ?_
    refine ⟨rfl, px_ne (X := f) (Y := (0)) (h0) (rfl) (fun κ3 => ?_) (fun κ3 => ?_)⟩
    · refine gT_n 3 ?_
      refine ⟨rfl, px_ne (X := f) (Y := (0)) (h0) (rfl) (fun _ => ?_) (fun c => by first | exact absurd κ3 c | exact absurd c κ3 | (exfalso; omega))⟩
      refine gT_n 2 ?_
      refine ⟨(Or.inl rfl), ?_⟩
      exact ⟨_, rfl, rfl⟩
    · exact absurd (by assumption) (fun e : f = 0 => absurd hf (by rw [e]; decide))
theorem m_isSignX {d : Nat} {c : Int32} {I X : Nat → Nat → Int32} {J Y : Nat → Nat → Int64} {P : Nat → Nat} : gTM d 184 [.ref 171, .int c] (gST (xM I X) (xJ J Y) P) (fun r u => u = (gST (xM I X) (xJ J Y) P) ∧ (r = some (.int 1) ∨ r = some (.int 0))) := by
  refine gT_n 4 ?_
  refine ⟨rfl, px_ne (X := (X 171 23)) (Y := (3)) (rfl) (rfl) (fun κ1 => ?_) (fun κ1 => ?_)⟩
  · refine gT_n 2 ?_
    refine ⟨(Or.inl rfl), ?_⟩
    exact ⟨rfl, Or.inr rfl⟩
  · refine gT_n 4 ?_
    refine ⟨rfl, px_ne (X := (X 171 24)) (Y := c) (rfl) (rfl) (fun κ2 => ?_) (fun κ2 => ?_)⟩
    · refine gT_n 2 ?_
      refine ⟨(Or.inl rfl), ?_⟩
      exact ⟨rfl, Or.inr rfl⟩
    · refine gT_n 3 ?_
      refine ⟨(Or.inr rfl), ?_⟩
      exact ⟨rfl, Or.inl rfl⟩
theorem m_readsLabelF {d : Nat} {f m : Int32} {I X : Nat → Nat → Int32} {J Y : Nat → Nat → Int64} {P : Nat → Nat} (h0 : X 171 19 = f) (hf : 0 < f) : gTM (d + 1) 188 [.ref 171, .int m] (gST (xM I X) (xJ J Y) P) (fun r u => r = none ∧ u = (gST (xM I X) (xJ J Y) P)) := by
  refine gT_n 5 ?_
  refine ⟨rfl, px_eq (X := (X 171 23)) (Y := (1)) (rfl) (rfl) (fun κ1 => ?_) (fun κ1 => ?_)⟩
  · refine gT_n 4 ?_
    refine ⟨rfl, rfl, gTM.use (m_mustF h0 hf) (Nat.le_refl _) (fun r u hq => ?_)⟩
    obtain ⟨xx, rfl, rfl⟩ := hq  -- X12_must[R171, K1, K2]
    refine gT_n 5 ?_
    refine ⟨rfl, px_gt (X := f) (Y := (0)) (h0) (rfl) (fun κ2 => ?_) (fun κ2 => ?_)⟩
    · refine gT_n 4 ?_
      refine ⟨rfl, rfl, gTM.use (m_mustF h0 hf) (Nat.le_refl _) (fun r u hq => ?_)⟩
      obtain ⟨xx, rfl, rfl⟩ := hq  -- X12_must[R171, K1, K3]
      refine gT_n 4 ?_
      refine ⟨rfl, px_le (X := f) (Y := (0)) (h0) (rfl) (fun κ3 => ?_) (fun κ3 => ?_)⟩
      · exact absurd (by assumption) (Int32.not_le.mpr hf)
      · refine gT_n 1 ?_
        refine ⟨rfl, ?_⟩
        exact ⟨rfl, rfl⟩
    · exact absurd hf (by assumption)
  · refine gT_n 3 ?_
    refine ⟨rfl, rfl, gTM.use (m_isSignX) (Nat.le_refl _) (fun r u hq => ?_)⟩
    obtain ⟨rfl, rfl | rfl⟩ := hq  -- X12_isSign[R171, K42]
    · refine gT_n 1 ?_
      refine ⟨fun c => absurd c (by decide), fun _ => ?_⟩
      refine gT_n 4 ?_
      refine ⟨rfl, rfl, gTM.use (m_mustF h0 hf) (Nat.le_refl _) (fun r u hq => ?_)⟩
      obtain ⟨xx, rfl, rfl⟩ := hq  -- X12_must[R171, K1, K2]
      refine gT_n 5 ?_
      refine ⟨rfl, px_gt (X := f) (Y := (0)) (h0) (rfl) (fun κ4 => ?_) (fun κ4 => ?_)⟩
      · refine gT_n 4 ?_
        refine ⟨rfl, rfl, gTM.use (m_mustF h0 hf) (Nat.le_refl _) (fun r u hq => ?_)⟩
        obtain ⟨xx, rfl, rfl⟩ := hq  -- X12_must[R171, K1, K3]
        refine gT_n 4 ?_
        refine ⟨rfl, px_le (X := f) (Y := (0)) (h0) (rfl) (fun κ5 => ?_) (fun κ5 => ?_)⟩
        · exact absurd (by assumption) (Int32.not_le.mpr hf)
        · refine gT_n 1 ?_
          refine ⟨rfl, ?_⟩
          exact ⟨rfl, rfl⟩
      · exact absurd hf (by assumption)
    · refine gT_n 1 ?_
      refine ⟨fun _ => ?_, fun c => absurd (by decide) c⟩
      refine gT_n 3 ?_
      refine ⟨rfl, rfl, gTM.use (m_mustF h0 hf) (Nat.le_refl _) (fun r u hq => ?_)⟩
      obtain ⟨xx, rfl, rfl⟩ := hq  -- X12_must[R171, K0, K2]
      refine gT_n 5 ?_
      refine ⟨rfl, px_gt (X := f) (Y := (0)) (h0) (rfl) (fun κ6 => ?_) (fun κ6 => ?_)⟩
      · refine gT_n 4 ?_
        refine ⟨rfl, rfl, gTM.use (m_mustF h0 hf) (Nat.le_refl _) (fun r u hq => ?_)⟩
        obtain ⟨xx, rfl, rfl⟩ := hq  -- X12_must[R171, K1, K3]
        refine gT_n 4 ?_
        refine ⟨rfl, px_le (X := f) (Y := (0)) (h0) (rfl) (fun κ7 => ?_) (fun κ7 => ?_)⟩
        · exact absurd (by assumption) (Int32.not_le.mpr hf)
        · refine gT_n 1 ?_
          refine ⟨rfl, ?_⟩
          exact ⟨rfl, rfl⟩
      · exact absurd hf (by assumption)
theorem isK_sl {n : Nat} {b : Nat → Nat} {q : tk3} (h : tIs n b q) (h3 : 3 ≤ q.2.2) : q.2.1 = q.1 + 1 := by
  obtain ⟨a, q', h1, h2⟩ := h
  by_cases c : tBad q'
  · exact absurd ((pif_pos c).mp h2) (by simp)
  · have e := (pif_neg c).mp h2
    cases e
    have g := h1.2
    by_cases c1 : q.1 < n
    · have g := (pif_pos c1).mp g
      by_cases c2 : 97 ≤ b q.1 ∧ b q.1 ≤ 122
      · have := ((pif_pos c2).mp g).1; omega
      · have g := (pif_neg c2).mp g
        by_cases c3 : 48 ≤ b q.1 ∧ b q.1 ≤ 57
        · have := ((pif_pos c3).mp g).1; omega
        · exact ((pif_neg c3).mp g).2
    · have := ((pif_neg c1).mp g).1; omega
def rLb (n : Nat) (b : Nat → Nat) (k : Nat) (q : tk3) (r : zF ⊕ tk3) : Prop := pif (q.2.2 = 1 ∨ q.2.2 = 4) (pif (4 ≤ k ∨ 3 < q.2.1 - q.1) (r = .inl (3, q.1)) (adv n b q.2.1 r)) (r = .inl (2, q.1))
theorem ml_lbW {b : Nat → Nat} {q : tk3} (h : ∀ j, q.1 ≤ j → j < q.2.1 → 97 ≤ b j ∧ b j ≤ 122) (h1 : q.1 < q.2.1) : ml (lbW b q) = 27 * (27 * lt3 b q 0 + lt3 b q 1) + lt3 b q 2 := by
  obtain ⟨⟨v1, v2⟩, v3, v4, v5⟩ := lbW_v h h1
  unfold lbW
  rw [ml_of v1 v3 v4]; omega
def xFd (X X' : Nat → Nat → Int32) : Prop := X' 171 29 = X 171 29 ∧ X' 171 33 = X 171 33 ∧ X' 171 34 = X 171 34 ∧ X' 171 35 = X 171 35
theorem m_isSign4Y {d : Nat} {I X : Nat → Nat → Int32} {J Y : Nat → Nat → Int64} {P : Nat → Nat} {n : Nat} {b : Nat → Nat} (hT : tpm I n b) {q : tk3} (hta : tIs n b q) (hq : okT n b X q) (hk : q.2.2 = 4) : gTM d 184 [.ref 171, .int 42] (gST (xM I X) (xJ J Y) P) (fun r u => u = (gST (xM I X) (xJ J Y) P) ∧ r = some (.int 1)) := by
  refine gTM.use (m_isSign4 hT hta hq) (Nat.le_refl _) (fun r u h => ?_)
  obtain ⟨h1, h2 | h2⟩ := h
  · exact ⟨h1, h2.1⟩
  · exact absurd hk h2.2
theorem m_readsW {d a0 k : Nat} {v : Int32} {I X : Nat → Nat → Int32} {J Y : Nat → Nat → Int64} {P : Nat → Nat} {n : Nat} {b : Nat → Nat} (hT : tpm I n b) (ha0n : a0 ≤ n) (h190 : X 171 19 = 0) (h210 : X 171 21 = nI a0) : gTM (d + 1) 183 [.ref 171] (gST (xM I (gupI X 192 k v)) (xJ J Y) P) (fun r u => r = none ∧ ((∃ f X', adv n b a0 (.inl f) ∧ u = gST (xM I X') (xJ J Y) P ∧ xFr (gupI X 192 k v) X' ∧ fT X' f) ∨ (∃ q X', adv n b a0 (.inr q) ∧ u = gST (xM I X') (xJ J Y) P ∧ xFr (gupI X 192 k v) X' ∧ okT n b X' q))) := m_reads hT ha0n h190 h210
theorem m_readsLabel {d k : Nat} {I X : Nat → Nat → Int32} {J Y : Nat → Nat → Int64} {P : Nat → Nat} {n : Nat} {b : Nat → Nat} (hT : tpm I n b) {q : tk3} (hta : tIs n b q) (hq : okT n b X q) (hk5 : k ≤ 4) : gTM (d + 2) 188 [.ref 171, .int (nI k)] (gST (xM I X) (xJ J Y) P) (fun r u => r = none ∧ ((∃ f X', rLb n b k q (.inl f) ∧ u = gST (xM I X') (xJ J Y) P ∧ (∀ a, ¬ a = 171 → ¬ a = 192 → X' a = X a) ∧ xFd X X' ∧ fT X' f) ∨ (∃ q' X', rLb n b k q (.inr q') ∧ u = gST (xM I X') (xJ J Y) P ∧ (∀ a, ¬ a = 171 → ¬ a = 192 → X' a = X a) ∧ xFd X X' ∧ X' 192 = upd (X 192) k (nI (ml (lb b q))) ∧ okT n b X' q'))) := by
  have hn2 := hT.2.1
  have hta0 := hta
  obtain ⟨aq, hadv⟩ := hta
  obtain ⟨r1, r2, r3, r4, r5, r6, r7, r8⟩ := adv_r hadv
  by_cases hk14 : q.2.2 = 1 ∨ q.2.2 = 4
  · by_cases hk4 : q.2.2 = 4
    · have hsl := isK_sl hta0 (by omega)
      refine gT_n 5 ?_
      refine ⟨rfl, fun c => absurd c (kpT (p := fun z : Int32 => ¬ (z = 1)) (show _ = (3 : Int32) from (hq.2.2.2.1.trans (by rw [hk4]; rfl))) (by decide)), fun _ => ?_⟩
      refine gT_n 3 ?_
      refine ⟨rfl, rfl, gTM.use (m_isSign4Y hT hta0 hq hk4) (Nat.le_refl _) (fun r u hq => ?_)⟩
      obtain ⟨rfl, rfl⟩ := hq  -- X12_isSign[R171, K42]
      refine gT_n 1 ?_
      refine ⟨fun c => absurd c (by decide), fun _ => ?_⟩
      refine gT_n 4 ?_
      refine ⟨rfl, rfl, gTM.use (m_must1 (c := 2)) (Nat.le_refl _) (fun r u hq => ?_)⟩
      obtain ⟨xx, rfl, rfl⟩ := hq  -- X12_must[R171, K1, K2]
      refine gT_n 5 ?_
      refine ⟨rfl, fun c => absurd c (kpT (p := fun z : Int32 => ¬ (0 < z)) (show _ = (0 : Int32) from hq.1) (by decide)), fun _ => ?_⟩
      refine gT_n 3 ?_
      refine pk_le 4 k (fun κ1 => ?_) (fun κ1 => ?_) (rfl) (rfl) (by omega) (by omega)
      · refine gT_n 3 ?_
        refine ⟨rfl, rfl, gTM.use (m_must0 (c := 3) (h := nI q.1) hq.1 hq.2.2.1) (Nat.le_refl _) (fun r u hq => ?_)⟩
        obtain ⟨xx, rfl, rfl⟩ := hq  -- X12_must[R171, K0, K3]
        refine gT_n 4 ?_
        refine ⟨rfl, fun c => absurd c (kpT (p := fun z : Int32 => ¬ (z ≤ 0)) (show _ = (3 : Int32) from rfl) (by decide)), fun _ => ?_⟩
        refine gT_n 1 ?_
        refine ⟨rfl, ?_⟩
        exact ⟨rfl, Or.inl ⟨(3, q.1), _, (pif_pos (by omega)).mpr ((pif_pos (by omega)).mpr rfl), rfl, fun a h1 _ => xFr_f.1 a h1, xFr_f.2, fT_s (by decide)⟩⟩
      · refine gT_n 4 ?_
        refine ⟨rfl, fun _ => ?_, fun c => absurd (kpT (p := fun z : Int32 => z = 3) (show _ = (3 : Int32) from (hq.2.2.2.1.trans (by rw [hk4]; rfl))) (by decide)) c⟩
        refine gT_n 4 ?_
        refine ⟨rfl, rfl, gTM.use (m_must1 (c := 3)) (Nat.le_refl _) (fun r u hq => ?_)⟩
        obtain ⟨xx, rfl, rfl⟩ := hq  -- X12_must[R171, K1, K3]
        refine gT_n 4 ?_
        refine ⟨rfl, fun _ => ?_, fun c => absurd (kpT (p := fun z : Int32 => z ≤ 0) (show _ = (0 : Int32) from hq.1) (by decide)) c⟩
        refine gT_n 6 ?_
        refine ⟨rfl, fun _ => ?_, fun c => absurd c (kpT (p := fun z : Int32 => ¬ z = 1) (show _ = (3 : Int32) from (hq.2.2.2.1.trans (by rw [hk4]; rfl))) (by decide))⟩
        refine gT_n 5 ?_
        refine ⟨rfl, rfl, (pk_inS (m := 5) (k := k) (rfl) (by omega) (rfl)), ?_⟩
        refine gT_xA (b := 192) rfl (n := k) (X := 1) (rfl) (by omega) (rfl) ?_
        refine gT_n 2 ?_
        refine ⟨rfl, rfl, gTM.use (m_readsW hT r3 hq.1 hq.2.1) (Nat.le_refl _) (fun r u hq => ?_)⟩
        obtain ⟨rfl, ⟨f, X1, hra, rfl, hf1, ho⟩ | ⟨q1, X1, hra, rfl, hf1, ho⟩⟩ := hq  -- X12_reads[R171]
        · refine gT_n 1 ?_
          refine ⟨rfl, ?_⟩
          exact ⟨rfl, Or.inl ⟨f, X1, (pif_pos (by omega)).mpr ((pif_neg (by omega)).mpr hra), rfl, fun a h1 h2 => (hf1.1 a h1).trans (gupI_n h2), hf1.2, ho⟩⟩
        · refine gT_n 1 ?_
          refine ⟨rfl, ?_⟩
          exact ⟨rfl, Or.inr ⟨q1, X1, (pif_pos (by omega)).mpr ((pif_neg (by omega)).mpr hra), rfl, fun a h1 h2 => (hf1.1 a h1).trans (gupI_n h2), hf1.2, (by rw [hf1.1 192 (by decide), gupI_b]; exact congrArg (fun x => upd (X 192) k (nI x)) (show 1 = ml (lb b q) by rw [show lb b q = 1 from if_pos hk4]; rfl)), ho⟩⟩
    · have hk1 : q.2.2 = 1 := by omega
      have h97 : ∀ j, q.1 ≤ j → j < q.2.1 → 97 ≤ b j := fun j h1 h2 => (r7 hk1 j h1 h2).1
      have g0 := fun h => h97 (q.1 + 0) (by omega) h
      have g1 := fun h => h97 (q.1 + 1) (by omega) h
      have g2 := fun h => h97 (q.1 + 2) (by omega) h
      refine gT_n 5 ?_
      refine ⟨rfl, fun _ => ?_, fun c => absurd (kpT (p := fun z : Int32 => z = 1) (show _ = (1 : Int32) from (hq.2.2.2.1.trans (by rw [hk1]; rfl))) (by decide)) c⟩
      refine gT_n 4 ?_
      refine ⟨rfl, rfl, gTM.use (m_must1 (c := 2)) (Nat.le_refl _) (fun r u hq => ?_)⟩
      obtain ⟨xx, rfl, rfl⟩ := hq  -- X12_must[R171, K1, K2]
      refine gT_n 5 ?_
      refine ⟨rfl, fun c => absurd c (kpT (p := fun z : Int32 => ¬ (0 < z)) (show _ = (0 : Int32) from hq.1) (by decide)), fun _ => ?_⟩
      refine gT_n 3 ?_
      refine pk_le 4 k (fun κ1 => ?_) (fun κ1 => ?_) (rfl) (rfl) (by omega) (by omega)
      · refine gT_n 3 ?_
        refine ⟨rfl, rfl, gTM.use (m_must0 (c := 3) (h := nI q.1) hq.1 hq.2.2.1) (Nat.le_refl _) (fun r u hq => ?_)⟩
        obtain ⟨xx, rfl, rfl⟩ := hq  -- X12_must[R171, K0, K3]
        refine gT_n 4 ?_
        refine ⟨rfl, fun c => absurd c (kpT (p := fun z : Int32 => ¬ (z ≤ 0)) (show _ = (3 : Int32) from rfl) (by decide)), fun _ => ?_⟩
        refine gT_n 1 ?_
        refine ⟨rfl, ?_⟩
        exact ⟨rfl, Or.inl ⟨(3, q.1), _, (pif_pos (by omega)).mpr ((pif_pos (by omega)).mpr rfl), rfl, fun a h1 _ => xFr_f.1 a h1, xFr_f.2, fT_s (by decide)⟩⟩
      · refine gT_n 4 ?_
        refine ⟨rfl, fun c => absurd c (kpT (p := fun z : Int32 => ¬ (z = 3)) (show _ = (1 : Int32) from (hq.2.2.2.1.trans (by rw [hk1]; rfl))) (by decide)), fun _ => ?_⟩
        refine gT_n 7 ?_
        refine ⟨rfl, rfl, pk_lt 3 (q.2.1 - q.1) (fun κ2 => ?_) (fun κ2 => ?_) (rfl) (pk_subE (n := q.2.1) (k := q.1) (hq.2.1) (hq.2.2.1) (by omega)) (by omega) (by omega)⟩
        · refine gT_n 3 ?_
          refine ⟨rfl, rfl, gTM.use (m_must0 (c := 3) (h := nI q.1) hq.1 hq.2.2.1) (Nat.le_refl _) (fun r u hq => ?_)⟩
          obtain ⟨xx, rfl, rfl⟩ := hq  -- X12_must[R171, K0, K3]
          refine gT_n 4 ?_
          refine ⟨rfl, fun c => absurd c (kpT (p := fun z : Int32 => ¬ (z ≤ 0)) (show _ = (3 : Int32) from rfl) (by decide)), fun _ => ?_⟩
          refine gT_n 1 ?_
          refine ⟨rfl, ?_⟩
          exact ⟨rfl, Or.inl ⟨(3, q.1), _, (pif_pos (by omega)).mpr ((pif_pos (by omega)).mpr rfl), rfl, fun a h1 _ => xFr_f.1 a h1, xFr_f.2, fT_s (by decide)⟩⟩
        · refine gT_n 4 ?_
          refine ⟨rfl, rfl, gTM.use (m_must1 (c := 3)) (Nat.le_refl _) (fun r u hq => ?_)⟩
          obtain ⟨xx, rfl, rfl⟩ := hq  -- X12_must[R171, K1, K3]
          refine gT_n 4 ?_
          refine ⟨rfl, fun _ => ?_, fun c => absurd (kpT (p := fun z : Int32 => z ≤ 0) (show _ = (0 : Int32) from hq.1) (by decide)) c⟩
          refine gT_n 6 ?_
          refine ⟨rfl, fun c => absurd c (kpT (p := fun z : Int32 => ¬ (¬ z = 1)) (show _ = (1 : Int32) from (hq.2.2.2.1.trans (by rw [hk1]; rfl))) (by decide)), fun _ => ?_⟩
          refine gT_n 4 ?_
          refine gT_k (L := [(3, .int 0), (2, .int 0), (0, .ref 171), (1, .int (nI k))]) ?_ ⟨rfl, rfl, rfl, rfl, trivial⟩ rfl
          refine gT_n 3 ?_
          refine ⟨fun c => absurd c (by decide), fun _ => ?_⟩
          refine gT_n 10 ?_
          refine ⟨rfl, rfl, pk_le (q.2.1 - q.1) 0 (fun κ3 => ?_) (fun κ3 => ?_) (pk_subE (n := q.2.1) (k := q.1) (hq.2.1) (hq.2.2.1) (by omega)) (rfl) (by omega) (by omega)⟩
          · refine gT_n 5 ?_
            refine gT_k (L := [(3, .int 1), (2, .int 0), (0, .ref 171), (1, .int (nI k))]) ?_ ⟨rfl, rfl, rfl, rfl, trivial⟩ rfl
            refine gT_n 3 ?_
            refine ⟨fun c => absurd c (by decide), fun _ => ?_⟩
            refine gT_n 10 ?_
            refine ⟨rfl, rfl, pk_le (q.2.1 - q.1) 1 (fun κ4 => ?_) (fun κ4 => ?_) (pk_subE (n := q.2.1) (k := q.1) (hq.2.1) (hq.2.2.1) (by omega)) (rfl) (by omega) (by omega)⟩
            · refine gT_n 5 ?_
              refine gT_k (L := [(3, .int 2), (2, .int 0), (0, .ref 171), (1, .int (nI k))]) ?_ ⟨rfl, rfl, rfl, rfl, trivial⟩ rfl
              refine gT_n 3 ?_
              refine ⟨fun c => absurd c (by decide), fun _ => ?_⟩
              refine gT_n 10 ?_
              refine ⟨rfl, rfl, pk_le (q.2.1 - q.1) 2 (fun κ5 => ?_) (fun κ5 => ?_) (pk_subE (n := q.2.1) (k := q.1) (hq.2.1) (hq.2.2.1) (by omega)) (rfl) (by omega) (by omega)⟩
              · refine gT_n 5 ?_
                refine gT_k (L := [(3, .int 3), (2, .int 0), (0, .ref 171), (1, .int (nI k))]) ?_ ⟨rfl, rfl, rfl, rfl, trivial⟩ rfl
                refine gT_n 3 ?_
                refine ⟨fun _ => ?_, fun c => absurd (by decide) c⟩
                refine gT_n 5 ?_
                refine ⟨rfl, rfl, (pk_inS (m := 5) (k := k) (rfl) (by omega) (rfl)), ?_⟩
                refine gT_xA (b := 192) rfl (n := k) (X := 0) (rfl) (by omega) (rfl) ?_
                refine gT_n 2 ?_
                refine ⟨rfl, rfl, gTM.use (m_readsW hT r3 hq.1 hq.2.1) (Nat.le_refl _) (fun r u hq => ?_)⟩
                obtain ⟨rfl, ⟨f, X1, hra, rfl, hf1, ho⟩ | ⟨q1, X1, hra, rfl, hf1, ho⟩⟩ := hq  -- X12_reads[R171]
                · refine gT_n 1 ?_
                  refine ⟨rfl, ?_⟩
                  exact ⟨rfl, Or.inl ⟨f, X1, (pif_pos (by omega)).mpr ((pif_neg (by omega)).mpr hra), rfl, fun a h1 h2 => (hf1.1 a h1).trans (gupI_n h2), hf1.2, ho⟩⟩
                · refine gT_n 1 ?_
                  refine ⟨rfl, ?_⟩
                  have d0 := r7 hk1 q.1 (by omega) (by omega)
                  have ez : b (q.1 + 0) = b q.1 := rfl
                  have e0 : lt3 b q 0 = b q.1 - 96 := if_pos (by omega)
                  have elb : ml (lb b q) = 27 * (27 * lt3 b q 0 + lt3 b q 1) + lt3 b q 2 := by rw [show lb b q = lbW b q from if_neg (by omega)]; exact ml_lbW (r7 hk1) (by omega)
                  have e1 : lt3 b q 1 = if q.1 + 1 < q.2.1 then b (q.1 + 1) - 96 else 0 := rfl
                  have e2 : lt3 b q 2 = if q.1 + 2 < q.2.1 then b (q.1 + 2) - 96 else 0 := rfl
                  have d1 : q.1 + 1 < q.2.1 → 97 ≤ b (q.1 + 1) := fun h => (r7 hk1 _ (by omega) h).1
                  have d2 : q.1 + 2 < q.2.1 → 97 ≤ b (q.1 + 2) := fun h => (r7 hk1 _ (by omega) h).1
                  exact ⟨rfl, Or.inr ⟨q1, X1, (pif_pos (by omega)).mpr ((pif_neg (by omega)).mpr hra), rfl, fun a h1 h2 => (hf1.1 a h1).trans (gupI_n h2), hf1.2, (by rw [hf1.1 192 (by decide), gupI_b]; exact congrArg (fun x => upd (X 192) k (nI x)) (by rw [elb, e0, e1, e2]; first | (rw [if_pos (by omega), if_pos (by omega)]; omega) | (rw [if_pos (by omega), if_neg (by omega)]; omega) | (rw [if_neg (by omega), if_neg (by omega)]; omega) | omega)), ho⟩⟩
              · refine gT_n 6 ?_
                refine ⟨rfl, rfl, rfl, gTM.useA (m_byteIn (k := q.1 + 2) hT (by omega)) (Nat.le_refl _) (aR (aI ((Eq.trans (pk_addE (n := q.1) (k := 2) (hq.2.2.1) (rfl)) (congrArg nI (show (q.1 + 2) = q.1 + 2 by omega)))) (rfl))) (fun r u hq => ?_)⟩
                obtain ⟨rfl, rfl⟩ := hq  -- X12_byteAt[R171, nI ((q.1 + 2))]
                refine gT_n 7 ?_
                refine gT_k (L := [(2, .int (nI (0 + ((((b (q.1 + 2))) - 97) + 1)))), (3, .int 2), (0, .ref 171), (1, .int (nI k))]) ?_ ⟨(viI (pk_addE (n := 0) (k := ((((b (q.1 + 2))) - 97) + 1)) (rfl) (pk_addE (n := (((b (q.1 + 2))) - 97)) (k := 1) (pk_subE (n := ((b (q.1 + 2)))) (k := 97) (rfl) (rfl) (by omega)) (rfl)))), rfl, rfl, rfl, trivial⟩ rfl
                refine gT_n 2 ?_
                refine gT_k (L := [(3, .int 3), (2, .int (nI (0 + ((((b (q.1 + 2))) - 97) + 1)))), (0, .ref 171), (1, .int (nI k))]) ?_ ⟨rfl, rfl, rfl, rfl, trivial⟩ rfl
                refine gT_n 3 ?_
                refine ⟨fun _ => ?_, fun c => absurd (by decide) c⟩
                refine gT_n 5 ?_
                refine ⟨rfl, rfl, (pk_inS (m := 5) (k := k) (rfl) (by omega) (rfl)), ?_⟩
                refine gT_xA (b := 192) rfl (n := k) (X := (nI (0 + ((((b (q.1 + 2))) - 97) + 1)))) (rfl) (by omega) (rfl) ?_
                refine gT_n 2 ?_
                refine ⟨rfl, rfl, gTM.use (m_readsW hT r3 hq.1 hq.2.1) (Nat.le_refl _) (fun r u hq => ?_)⟩
                obtain ⟨rfl, ⟨f, X1, hra, rfl, hf1, ho⟩ | ⟨q1, X1, hra, rfl, hf1, ho⟩⟩ := hq  -- X12_reads[R171]
                · refine gT_n 1 ?_
                  refine ⟨rfl, ?_⟩
                  exact ⟨rfl, Or.inl ⟨f, X1, (pif_pos (by omega)).mpr ((pif_neg (by omega)).mpr hra), rfl, fun a h1 h2 => (hf1.1 a h1).trans (gupI_n h2), hf1.2, ho⟩⟩
                · refine gT_n 1 ?_
                  refine ⟨rfl, ?_⟩
                  have d0 := r7 hk1 q.1 (by omega) (by omega)
                  have ez : b (q.1 + 0) = b q.1 := rfl
                  have e0 : lt3 b q 0 = b q.1 - 96 := if_pos (by omega)
                  have elb : ml (lb b q) = 27 * (27 * lt3 b q 0 + lt3 b q 1) + lt3 b q 2 := by rw [show lb b q = lbW b q from if_neg (by omega)]; exact ml_lbW (r7 hk1) (by omega)
                  have e1 : lt3 b q 1 = if q.1 + 1 < q.2.1 then b (q.1 + 1) - 96 else 0 := rfl
                  have e2 : lt3 b q 2 = if q.1 + 2 < q.2.1 then b (q.1 + 2) - 96 else 0 := rfl
                  have d1 : q.1 + 1 < q.2.1 → 97 ≤ b (q.1 + 1) := fun h => (r7 hk1 _ (by omega) h).1
                  have d2 : q.1 + 2 < q.2.1 → 97 ≤ b (q.1 + 2) := fun h => (r7 hk1 _ (by omega) h).1
                  exact ⟨rfl, Or.inr ⟨q1, X1, (pif_pos (by omega)).mpr ((pif_neg (by omega)).mpr hra), rfl, fun a h1 h2 => (hf1.1 a h1).trans (gupI_n h2), hf1.2, (by rw [hf1.1 192 (by decide), gupI_b]; exact congrArg (fun x => upd (X 192) k (nI x)) (by rw [elb, e0, e1, e2]; first | (rw [if_pos (by omega), if_pos (by omega)]; omega) | (rw [if_pos (by omega), if_neg (by omega)]; omega) | (rw [if_neg (by omega), if_neg (by omega)]; omega) | omega)), ho⟩⟩
            · refine gT_n 6 ?_
              refine ⟨rfl, rfl, rfl, gTM.useA (m_byteIn (k := q.1 + 1) hT (by omega)) (Nat.le_refl _) (aR (aI ((Eq.trans (pk_addE (n := q.1) (k := 1) (hq.2.2.1) (rfl)) (congrArg nI (show (q.1 + 1) = q.1 + 1 by omega)))) (rfl))) (fun r u hq => ?_)⟩
              obtain ⟨rfl, rfl⟩ := hq  -- X12_byteAt[R171, nI ((q.1 + 1))]
              refine gT_n 7 ?_
              refine gT_k (L := [(2, .int (nI (0 + ((((b (q.1 + 1))) - 97) + 1)))), (3, .int 1), (0, .ref 171), (1, .int (nI k))]) ?_ ⟨(viI (pk_addE (n := 0) (k := ((((b (q.1 + 1))) - 97) + 1)) (rfl) (pk_addE (n := (((b (q.1 + 1))) - 97)) (k := 1) (pk_subE (n := ((b (q.1 + 1)))) (k := 97) (rfl) (rfl) (by omega)) (rfl)))), rfl, rfl, rfl, trivial⟩ rfl
              refine gT_n 2 ?_
              refine gT_k (L := [(3, .int 2), (2, .int (nI (0 + ((((b (q.1 + 1))) - 97) + 1)))), (0, .ref 171), (1, .int (nI k))]) ?_ ⟨rfl, rfl, rfl, rfl, trivial⟩ rfl
              refine gT_n 3 ?_
              refine ⟨fun c => absurd c (by decide), fun _ => ?_⟩
              refine gT_n 10 ?_
              refine ⟨rfl, rfl, pk_le (q.2.1 - q.1) 2 (fun κ6 => ?_) (fun κ6 => ?_) (pk_subE (n := q.2.1) (k := q.1) (hq.2.1) (hq.2.2.1) (by omega)) (rfl) (by omega) (by omega)⟩
              · refine gT_n 3 ?_
                refine gT_k (L := [(2, .int (nI ((27 * (0 + ((((b (q.1 + 1))) - 97) + 1))) + 0))), (3, .int 2), (0, .ref 171), (1, .int (nI k))]) ?_ ⟨(viI (pk_addE (n := (27 * (0 + ((((b (q.1 + 1))) - 97) + 1)))) (k := 0) (pk_mulE (n := 27) (k := (0 + ((((b (q.1 + 1))) - 97) + 1))) (rfl) (rfl)) (rfl))), rfl, rfl, rfl, trivial⟩ rfl
                refine gT_n 2 ?_
                refine gT_k (L := [(3, .int 3), (2, .int (nI ((27 * (0 + ((((b (q.1 + 1))) - 97) + 1))) + 0))), (0, .ref 171), (1, .int (nI k))]) ?_ ⟨rfl, rfl, rfl, rfl, trivial⟩ rfl
                refine gT_n 3 ?_
                refine ⟨fun _ => ?_, fun c => absurd (by decide) c⟩
                refine gT_n 5 ?_
                refine ⟨rfl, rfl, (pk_inS (m := 5) (k := k) (rfl) (by omega) (rfl)), ?_⟩
                refine gT_xA (b := 192) rfl (n := k) (X := (nI ((27 * (0 + ((((b (q.1 + 1))) - 97) + 1))) + 0))) (rfl) (by omega) (rfl) ?_
                refine gT_n 2 ?_
                refine ⟨rfl, rfl, gTM.use (m_readsW hT r3 hq.1 hq.2.1) (Nat.le_refl _) (fun r u hq => ?_)⟩
                obtain ⟨rfl, ⟨f, X1, hra, rfl, hf1, ho⟩ | ⟨q1, X1, hra, rfl, hf1, ho⟩⟩ := hq  -- X12_reads[R171]
                · refine gT_n 1 ?_
                  refine ⟨rfl, ?_⟩
                  exact ⟨rfl, Or.inl ⟨f, X1, (pif_pos (by omega)).mpr ((pif_neg (by omega)).mpr hra), rfl, fun a h1 h2 => (hf1.1 a h1).trans (gupI_n h2), hf1.2, ho⟩⟩
                · refine gT_n 1 ?_
                  refine ⟨rfl, ?_⟩
                  have d0 := r7 hk1 q.1 (by omega) (by omega)
                  have ez : b (q.1 + 0) = b q.1 := rfl
                  have e0 : lt3 b q 0 = b q.1 - 96 := if_pos (by omega)
                  have elb : ml (lb b q) = 27 * (27 * lt3 b q 0 + lt3 b q 1) + lt3 b q 2 := by rw [show lb b q = lbW b q from if_neg (by omega)]; exact ml_lbW (r7 hk1) (by omega)
                  have e1 : lt3 b q 1 = if q.1 + 1 < q.2.1 then b (q.1 + 1) - 96 else 0 := rfl
                  have e2 : lt3 b q 2 = if q.1 + 2 < q.2.1 then b (q.1 + 2) - 96 else 0 := rfl
                  have d1 : q.1 + 1 < q.2.1 → 97 ≤ b (q.1 + 1) := fun h => (r7 hk1 _ (by omega) h).1
                  have d2 : q.1 + 2 < q.2.1 → 97 ≤ b (q.1 + 2) := fun h => (r7 hk1 _ (by omega) h).1
                  exact ⟨rfl, Or.inr ⟨q1, X1, (pif_pos (by omega)).mpr ((pif_neg (by omega)).mpr hra), rfl, fun a h1 h2 => (hf1.1 a h1).trans (gupI_n h2), hf1.2, (by rw [hf1.1 192 (by decide), gupI_b]; exact congrArg (fun x => upd (X 192) k (nI x)) (by rw [elb, e0, e1, e2]; first | (rw [if_pos (by omega), if_pos (by omega)]; omega) | (rw [if_pos (by omega), if_neg (by omega)]; omega) | (rw [if_neg (by omega), if_neg (by omega)]; omega) | omega)), ho⟩⟩
              · refine gT_n 6 ?_
                refine ⟨rfl, rfl, rfl, gTM.useA (m_byteIn (k := q.1 + 2) hT (by omega)) (Nat.le_refl _) (aR (aI ((Eq.trans (pk_addE (n := q.1) (k := 2) (hq.2.2.1) (rfl)) (congrArg nI (show (q.1 + 2) = q.1 + 2 by omega)))) (rfl))) (fun r u hq => ?_)⟩
                obtain ⟨rfl, rfl⟩ := hq  -- X12_byteAt[R171, nI ((q.1 + 2))]
                refine gT_n 7 ?_
                refine gT_k (L := [(2, .int (nI ((27 * (0 + ((((b (q.1 + 1))) - 97) + 1))) + ((((b (q.1 + 2))) - 97) + 1)))), (3, .int 2), (0, .ref 171), (1, .int (nI k))]) ?_ ⟨(viI (pk_addE (n := (27 * (0 + ((((b (q.1 + 1))) - 97) + 1)))) (k := ((((b (q.1 + 2))) - 97) + 1)) (pk_mulE (n := 27) (k := (0 + ((((b (q.1 + 1))) - 97) + 1))) (rfl) (rfl)) (pk_addE (n := (((b (q.1 + 2))) - 97)) (k := 1) (pk_subE (n := ((b (q.1 + 2)))) (k := 97) (rfl) (rfl) (by omega)) (rfl)))), rfl, rfl, rfl, trivial⟩ rfl
                refine gT_n 2 ?_
                refine gT_k (L := [(3, .int 3), (2, .int (nI ((27 * (0 + ((((b (q.1 + 1))) - 97) + 1))) + ((((b (q.1 + 2))) - 97) + 1)))), (0, .ref 171), (1, .int (nI k))]) ?_ ⟨rfl, rfl, rfl, rfl, trivial⟩ rfl
                refine gT_n 3 ?_
                refine ⟨fun _ => ?_, fun c => absurd (by decide) c⟩
                refine gT_n 5 ?_
                refine ⟨rfl, rfl, (pk_inS (m := 5) (k := k) (rfl) (by omega) (rfl)), ?_⟩
                refine gT_xA (b := 192) rfl (n := k) (X := (nI ((27 * (0 + ((((b (q.1 + 1))) - 97) + 1))) + ((((b (q.1 + 2))) - 97) + 1)))) (rfl) (by omega) (rfl) ?_
                refine gT_n 2 ?_
                refine ⟨rfl, rfl, gTM.use (m_readsW hT r3 hq.1 hq.2.1) (Nat.le_refl _) (fun r u hq => ?_)⟩
                obtain ⟨rfl, ⟨f, X1, hra, rfl, hf1, ho⟩ | ⟨q1, X1, hra, rfl, hf1, ho⟩⟩ := hq  -- X12_reads[R171]
                · refine gT_n 1 ?_
                  refine ⟨rfl, ?_⟩
                  exact ⟨rfl, Or.inl ⟨f, X1, (pif_pos (by omega)).mpr ((pif_neg (by omega)).mpr hra), rfl, fun a h1 h2 => (hf1.1 a h1).trans (gupI_n h2), hf1.2, ho⟩⟩
                · refine gT_n 1 ?_
                  refine ⟨rfl, ?_⟩
                  have d0 := r7 hk1 q.1 (by omega) (by omega)
                  have ez : b (q.1 + 0) = b q.1 := rfl
                  have e0 : lt3 b q 0 = b q.1 - 96 := if_pos (by omega)
                  have elb : ml (lb b q) = 27 * (27 * lt3 b q 0 + lt3 b q 1) + lt3 b q 2 := by rw [show lb b q = lbW b q from if_neg (by omega)]; exact ml_lbW (r7 hk1) (by omega)
                  have e1 : lt3 b q 1 = if q.1 + 1 < q.2.1 then b (q.1 + 1) - 96 else 0 := rfl
                  have e2 : lt3 b q 2 = if q.1 + 2 < q.2.1 then b (q.1 + 2) - 96 else 0 := rfl
                  have d1 : q.1 + 1 < q.2.1 → 97 ≤ b (q.1 + 1) := fun h => (r7 hk1 _ (by omega) h).1
                  have d2 : q.1 + 2 < q.2.1 → 97 ≤ b (q.1 + 2) := fun h => (r7 hk1 _ (by omega) h).1
                  exact ⟨rfl, Or.inr ⟨q1, X1, (pif_pos (by omega)).mpr ((pif_neg (by omega)).mpr hra), rfl, fun a h1 h2 => (hf1.1 a h1).trans (gupI_n h2), hf1.2, (by rw [hf1.1 192 (by decide), gupI_b]; exact congrArg (fun x => upd (X 192) k (nI x)) (by rw [elb, e0, e1, e2]; first | (rw [if_pos (by omega), if_pos (by omega)]; omega) | (rw [if_pos (by omega), if_neg (by omega)]; omega) | (rw [if_neg (by omega), if_neg (by omega)]; omega) | omega)), ho⟩⟩
          · refine gT_n 6 ?_
            refine ⟨rfl, rfl, rfl, gTM.useA (m_byteIn (k := q.1 + 0) hT (by omega)) (Nat.le_refl _) (aR (aI ((Eq.trans (pk_addE (n := q.1) (k := 0) (hq.2.2.1) (rfl)) (congrArg nI (show (q.1 + 0) = q.1 + 0 by omega)))) (rfl))) (fun r u hq => ?_)⟩
            obtain ⟨rfl, rfl⟩ := hq  -- X12_byteAt[R171, nI ((q.1 + 0))]
            refine gT_n 7 ?_
            refine gT_k (L := [(2, .int (nI (0 + ((((b (q.1 + 0))) - 97) + 1)))), (3, .int 0), (0, .ref 171), (1, .int (nI k))]) ?_ ⟨(viI (pk_addE (n := 0) (k := ((((b (q.1 + 0))) - 97) + 1)) (rfl) (pk_addE (n := (((b (q.1 + 0))) - 97)) (k := 1) (pk_subE (n := ((b (q.1 + 0)))) (k := 97) (rfl) (rfl) (by omega)) (rfl)))), rfl, rfl, rfl, trivial⟩ rfl
            refine gT_n 2 ?_
            refine gT_k (L := [(3, .int 1), (2, .int (nI (0 + ((((b (q.1 + 0))) - 97) + 1)))), (0, .ref 171), (1, .int (nI k))]) ?_ ⟨rfl, rfl, rfl, rfl, trivial⟩ rfl
            refine gT_n 3 ?_
            refine ⟨fun c => absurd c (by decide), fun _ => ?_⟩
            refine gT_n 10 ?_
            refine ⟨rfl, rfl, pk_le (q.2.1 - q.1) 1 (fun κ7 => ?_) (fun κ7 => ?_) (pk_subE (n := q.2.1) (k := q.1) (hq.2.1) (hq.2.2.1) (by omega)) (rfl) (by omega) (by omega)⟩
            · refine gT_n 3 ?_
              refine gT_k (L := [(2, .int (nI ((27 * (0 + ((((b (q.1 + 0))) - 97) + 1))) + 0))), (3, .int 1), (0, .ref 171), (1, .int (nI k))]) ?_ ⟨(viI (pk_addE (n := (27 * (0 + ((((b (q.1 + 0))) - 97) + 1)))) (k := 0) (pk_mulE (n := 27) (k := (0 + ((((b (q.1 + 0))) - 97) + 1))) (rfl) (rfl)) (rfl))), rfl, rfl, rfl, trivial⟩ rfl
              refine gT_n 2 ?_
              refine gT_k (L := [(3, .int 2), (2, .int (nI ((27 * (0 + ((((b (q.1 + 0))) - 97) + 1))) + 0))), (0, .ref 171), (1, .int (nI k))]) ?_ ⟨rfl, rfl, rfl, rfl, trivial⟩ rfl
              refine gT_n 3 ?_
              refine ⟨fun c => absurd c (by decide), fun _ => ?_⟩
              refine gT_n 10 ?_
              refine ⟨rfl, rfl, pk_le (q.2.1 - q.1) 2 (fun κ8 => ?_) (fun κ8 => ?_) (pk_subE (n := q.2.1) (k := q.1) (hq.2.1) (hq.2.2.1) (by omega)) (rfl) (by omega) (by omega)⟩
              · refine gT_n 3 ?_
                refine gT_k (L := [(2, .int (nI ((27 * ((27 * (0 + ((((b (q.1 + 0))) - 97) + 1))) + 0)) + 0))), (3, .int 2), (0, .ref 171), (1, .int (nI k))]) ?_ ⟨(viI (pk_addE (n := (27 * ((27 * (0 + ((((b (q.1 + 0))) - 97) + 1))) + 0))) (k := 0) (pk_mulE (n := 27) (k := ((27 * (0 + ((((b (q.1 + 0))) - 97) + 1))) + 0)) (rfl) (rfl)) (rfl))), rfl, rfl, rfl, trivial⟩ rfl
                refine gT_n 2 ?_
                refine gT_k (L := [(3, .int 3), (2, .int (nI ((27 * ((27 * (0 + ((((b (q.1 + 0))) - 97) + 1))) + 0)) + 0))), (0, .ref 171), (1, .int (nI k))]) ?_ ⟨rfl, rfl, rfl, rfl, trivial⟩ rfl
                refine gT_n 3 ?_
                refine ⟨fun _ => ?_, fun c => absurd (by decide) c⟩
                refine gT_n 5 ?_
                refine ⟨rfl, rfl, (pk_inS (m := 5) (k := k) (rfl) (by omega) (rfl)), ?_⟩
                refine gT_xA (b := 192) rfl (n := k) (X := (nI ((27 * ((27 * (0 + ((((b (q.1 + 0))) - 97) + 1))) + 0)) + 0))) (rfl) (by omega) (rfl) ?_
                refine gT_n 2 ?_
                refine ⟨rfl, rfl, gTM.use (m_readsW hT r3 hq.1 hq.2.1) (Nat.le_refl _) (fun r u hq => ?_)⟩
                obtain ⟨rfl, ⟨f, X1, hra, rfl, hf1, ho⟩ | ⟨q1, X1, hra, rfl, hf1, ho⟩⟩ := hq  -- X12_reads[R171]
                · refine gT_n 1 ?_
                  refine ⟨rfl, ?_⟩
                  exact ⟨rfl, Or.inl ⟨f, X1, (pif_pos (by omega)).mpr ((pif_neg (by omega)).mpr hra), rfl, fun a h1 h2 => (hf1.1 a h1).trans (gupI_n h2), hf1.2, ho⟩⟩
                · refine gT_n 1 ?_
                  refine ⟨rfl, ?_⟩
                  have d0 := r7 hk1 q.1 (by omega) (by omega)
                  have ez : b (q.1 + 0) = b q.1 := rfl
                  have e0 : lt3 b q 0 = b q.1 - 96 := if_pos (by omega)
                  have elb : ml (lb b q) = 27 * (27 * lt3 b q 0 + lt3 b q 1) + lt3 b q 2 := by rw [show lb b q = lbW b q from if_neg (by omega)]; exact ml_lbW (r7 hk1) (by omega)
                  have e1 : lt3 b q 1 = if q.1 + 1 < q.2.1 then b (q.1 + 1) - 96 else 0 := rfl
                  have e2 : lt3 b q 2 = if q.1 + 2 < q.2.1 then b (q.1 + 2) - 96 else 0 := rfl
                  have d1 : q.1 + 1 < q.2.1 → 97 ≤ b (q.1 + 1) := fun h => (r7 hk1 _ (by omega) h).1
                  have d2 : q.1 + 2 < q.2.1 → 97 ≤ b (q.1 + 2) := fun h => (r7 hk1 _ (by omega) h).1
                  exact ⟨rfl, Or.inr ⟨q1, X1, (pif_pos (by omega)).mpr ((pif_neg (by omega)).mpr hra), rfl, fun a h1 h2 => (hf1.1 a h1).trans (gupI_n h2), hf1.2, (by rw [hf1.1 192 (by decide), gupI_b]; exact congrArg (fun x => upd (X 192) k (nI x)) (by rw [elb, e0, e1, e2]; first | (rw [if_pos (by omega), if_pos (by omega)]; omega) | (rw [if_pos (by omega), if_neg (by omega)]; omega) | (rw [if_neg (by omega), if_neg (by omega)]; omega) | omega)), ho⟩⟩
              · refine gT_n 6 ?_
                refine ⟨rfl, rfl, rfl, gTM.useA (m_byteIn (k := q.1 + 2) hT (by omega)) (Nat.le_refl _) (aR (aI ((Eq.trans (pk_addE (n := q.1) (k := 2) (hq.2.2.1) (rfl)) (congrArg nI (show (q.1 + 2) = q.1 + 2 by omega)))) (rfl))) (fun r u hq => ?_)⟩
                obtain ⟨rfl, rfl⟩ := hq  -- X12_byteAt[R171, nI ((q.1 + 2))]
                refine gT_n 7 ?_
                refine gT_k (L := [(2, .int (nI ((27 * ((27 * (0 + ((((b (q.1 + 0))) - 97) + 1))) + 0)) + ((((b (q.1 + 2))) - 97) + 1)))), (3, .int 2), (0, .ref 171), (1, .int (nI k))]) ?_ ⟨(viI (pk_addE (n := (27 * ((27 * (0 + ((((b (q.1 + 0))) - 97) + 1))) + 0))) (k := ((((b (q.1 + 2))) - 97) + 1)) (pk_mulE (n := 27) (k := ((27 * (0 + ((((b (q.1 + 0))) - 97) + 1))) + 0)) (rfl) (rfl)) (pk_addE (n := (((b (q.1 + 2))) - 97)) (k := 1) (pk_subE (n := ((b (q.1 + 2)))) (k := 97) (rfl) (rfl) (by omega)) (rfl)))), rfl, rfl, rfl, trivial⟩ rfl
                refine gT_n 2 ?_
                refine gT_k (L := [(3, .int 3), (2, .int (nI ((27 * ((27 * (0 + ((((b (q.1 + 0))) - 97) + 1))) + 0)) + ((((b (q.1 + 2))) - 97) + 1)))), (0, .ref 171), (1, .int (nI k))]) ?_ ⟨rfl, rfl, rfl, rfl, trivial⟩ rfl
                refine gT_n 3 ?_
                refine ⟨fun _ => ?_, fun c => absurd (by decide) c⟩
                refine gT_n 5 ?_
                refine ⟨rfl, rfl, (pk_inS (m := 5) (k := k) (rfl) (by omega) (rfl)), ?_⟩
                refine gT_xA (b := 192) rfl (n := k) (X := (nI ((27 * ((27 * (0 + ((((b (q.1 + 0))) - 97) + 1))) + 0)) + ((((b (q.1 + 2))) - 97) + 1)))) (rfl) (by omega) (rfl) ?_
                refine gT_n 2 ?_
                refine ⟨rfl, rfl, gTM.use (m_readsW hT r3 hq.1 hq.2.1) (Nat.le_refl _) (fun r u hq => ?_)⟩
                obtain ⟨rfl, ⟨f, X1, hra, rfl, hf1, ho⟩ | ⟨q1, X1, hra, rfl, hf1, ho⟩⟩ := hq  -- X12_reads[R171]
                · refine gT_n 1 ?_
                  refine ⟨rfl, ?_⟩
                  exact ⟨rfl, Or.inl ⟨f, X1, (pif_pos (by omega)).mpr ((pif_neg (by omega)).mpr hra), rfl, fun a h1 h2 => (hf1.1 a h1).trans (gupI_n h2), hf1.2, ho⟩⟩
                · refine gT_n 1 ?_
                  refine ⟨rfl, ?_⟩
                  have d0 := r7 hk1 q.1 (by omega) (by omega)
                  have ez : b (q.1 + 0) = b q.1 := rfl
                  have e0 : lt3 b q 0 = b q.1 - 96 := if_pos (by omega)
                  have elb : ml (lb b q) = 27 * (27 * lt3 b q 0 + lt3 b q 1) + lt3 b q 2 := by rw [show lb b q = lbW b q from if_neg (by omega)]; exact ml_lbW (r7 hk1) (by omega)
                  have e1 : lt3 b q 1 = if q.1 + 1 < q.2.1 then b (q.1 + 1) - 96 else 0 := rfl
                  have e2 : lt3 b q 2 = if q.1 + 2 < q.2.1 then b (q.1 + 2) - 96 else 0 := rfl
                  have d1 : q.1 + 1 < q.2.1 → 97 ≤ b (q.1 + 1) := fun h => (r7 hk1 _ (by omega) h).1
                  have d2 : q.1 + 2 < q.2.1 → 97 ≤ b (q.1 + 2) := fun h => (r7 hk1 _ (by omega) h).1
                  exact ⟨rfl, Or.inr ⟨q1, X1, (pif_pos (by omega)).mpr ((pif_neg (by omega)).mpr hra), rfl, fun a h1 h2 => (hf1.1 a h1).trans (gupI_n h2), hf1.2, (by rw [hf1.1 192 (by decide), gupI_b]; exact congrArg (fun x => upd (X 192) k (nI x)) (by rw [elb, e0, e1, e2]; first | (rw [if_pos (by omega), if_pos (by omega)]; omega) | (rw [if_pos (by omega), if_neg (by omega)]; omega) | (rw [if_neg (by omega), if_neg (by omega)]; omega) | omega)), ho⟩⟩
            · refine gT_n 6 ?_
              refine ⟨rfl, rfl, rfl, gTM.useA (m_byteIn (k := q.1 + 1) hT (by omega)) (Nat.le_refl _) (aR (aI ((Eq.trans (pk_addE (n := q.1) (k := 1) (hq.2.2.1) (rfl)) (congrArg nI (show (q.1 + 1) = q.1 + 1 by omega)))) (rfl))) (fun r u hq => ?_)⟩
              obtain ⟨rfl, rfl⟩ := hq  -- X12_byteAt[R171, nI ((q.1 + 1))]
              refine gT_n 7 ?_
              refine gT_k (L := [(2, .int (nI ((27 * (0 + ((((b (q.1 + 0))) - 97) + 1))) + ((((b (q.1 + 1))) - 97) + 1)))), (3, .int 1), (0, .ref 171), (1, .int (nI k))]) ?_ ⟨(viI (pk_addE (n := (27 * (0 + ((((b (q.1 + 0))) - 97) + 1)))) (k := ((((b (q.1 + 1))) - 97) + 1)) (pk_mulE (n := 27) (k := (0 + ((((b (q.1 + 0))) - 97) + 1))) (rfl) (rfl)) (pk_addE (n := (((b (q.1 + 1))) - 97)) (k := 1) (pk_subE (n := ((b (q.1 + 1)))) (k := 97) (rfl) (rfl) (by omega)) (rfl)))), rfl, rfl, rfl, trivial⟩ rfl
              refine gT_n 2 ?_
              refine gT_k (L := [(3, .int 2), (2, .int (nI ((27 * (0 + ((((b (q.1 + 0))) - 97) + 1))) + ((((b (q.1 + 1))) - 97) + 1)))), (0, .ref 171), (1, .int (nI k))]) ?_ ⟨rfl, rfl, rfl, rfl, trivial⟩ rfl
              refine gT_n 3 ?_
              refine ⟨fun c => absurd c (by decide), fun _ => ?_⟩
              refine gT_n 10 ?_
              refine ⟨rfl, rfl, pk_le (q.2.1 - q.1) 2 (fun κ9 => ?_) (fun κ9 => ?_) (pk_subE (n := q.2.1) (k := q.1) (hq.2.1) (hq.2.2.1) (by omega)) (rfl) (by omega) (by omega)⟩
              · refine gT_n 3 ?_
                refine gT_k (L := [(2, .int (nI ((27 * ((27 * (0 + ((((b (q.1 + 0))) - 97) + 1))) + ((((b (q.1 + 1))) - 97) + 1))) + 0))), (3, .int 2), (0, .ref 171), (1, .int (nI k))]) ?_ ⟨(viI (pk_addE (n := (27 * ((27 * (0 + ((((b (q.1 + 0))) - 97) + 1))) + ((((b (q.1 + 1))) - 97) + 1)))) (k := 0) (pk_mulE (n := 27) (k := ((27 * (0 + ((((b (q.1 + 0))) - 97) + 1))) + ((((b (q.1 + 1))) - 97) + 1))) (rfl) (rfl)) (rfl))), rfl, rfl, rfl, trivial⟩ rfl
                refine gT_n 2 ?_
                refine gT_k (L := [(3, .int 3), (2, .int (nI ((27 * ((27 * (0 + ((((b (q.1 + 0))) - 97) + 1))) + ((((b (q.1 + 1))) - 97) + 1))) + 0))), (0, .ref 171), (1, .int (nI k))]) ?_ ⟨rfl, rfl, rfl, rfl, trivial⟩ rfl
                refine gT_n 3 ?_
                refine ⟨fun _ => ?_, fun c => absurd (by decide) c⟩
                refine gT_n 5 ?_
                refine ⟨rfl, rfl, (pk_inS (m := 5) (k := k) (rfl) (by omega) (rfl)), ?_⟩
                refine gT_xA (b := 192) rfl (n := k) (X := (nI ((27 * ((27 * (0 + ((((b (q.1 + 0))) - 97) + 1))) + ((((b (q.1 + 1))) - 97) + 1))) + 0))) (rfl) (by omega) (rfl) ?_
                refine gT_n 2 ?_
                refine ⟨rfl, rfl, gTM.use (m_readsW hT r3 hq.1 hq.2.1) (Nat.le_refl _) (fun r u hq => ?_)⟩
                obtain ⟨rfl, ⟨f, X1, hra, rfl, hf1, ho⟩ | ⟨q1, X1, hra, rfl, hf1, ho⟩⟩ := hq  -- X12_reads[R171]
                · refine gT_n 1 ?_
                  refine ⟨rfl, ?_⟩
                  exact ⟨rfl, Or.inl ⟨f, X1, (pif_pos (by omega)).mpr ((pif_neg (by omega)).mpr hra), rfl, fun a h1 h2 => (hf1.1 a h1).trans (gupI_n h2), hf1.2, ho⟩⟩
                · refine gT_n 1 ?_
                  refine ⟨rfl, ?_⟩
                  have d0 := r7 hk1 q.1 (by omega) (by omega)
                  have ez : b (q.1 + 0) = b q.1 := rfl
                  have e0 : lt3 b q 0 = b q.1 - 96 := if_pos (by omega)
                  have elb : ml (lb b q) = 27 * (27 * lt3 b q 0 + lt3 b q 1) + lt3 b q 2 := by rw [show lb b q = lbW b q from if_neg (by omega)]; exact ml_lbW (r7 hk1) (by omega)
                  have e1 : lt3 b q 1 = if q.1 + 1 < q.2.1 then b (q.1 + 1) - 96 else 0 := rfl
                  have e2 : lt3 b q 2 = if q.1 + 2 < q.2.1 then b (q.1 + 2) - 96 else 0 := rfl
                  have d1 : q.1 + 1 < q.2.1 → 97 ≤ b (q.1 + 1) := fun h => (r7 hk1 _ (by omega) h).1
                  have d2 : q.1 + 2 < q.2.1 → 97 ≤ b (q.1 + 2) := fun h => (r7 hk1 _ (by omega) h).1
                  exact ⟨rfl, Or.inr ⟨q1, X1, (pif_pos (by omega)).mpr ((pif_neg (by omega)).mpr hra), rfl, fun a h1 h2 => (hf1.1 a h1).trans (gupI_n h2), hf1.2, (by rw [hf1.1 192 (by decide), gupI_b]; exact congrArg (fun x => upd (X 192) k (nI x)) (by rw [elb, e0, e1, e2]; first | (rw [if_pos (by omega), if_pos (by omega)]; omega) | (rw [if_pos (by omega), if_neg (by omega)]; omega) | (rw [if_neg (by omega), if_neg (by omega)]; omega) | omega)), ho⟩⟩
              · refine gT_n 6 ?_
                refine ⟨rfl, rfl, rfl, gTM.useA (m_byteIn (k := q.1 + 2) hT (by omega)) (Nat.le_refl _) (aR (aI ((Eq.trans (pk_addE (n := q.1) (k := 2) (hq.2.2.1) (rfl)) (congrArg nI (show (q.1 + 2) = q.1 + 2 by omega)))) (rfl))) (fun r u hq => ?_)⟩
                obtain ⟨rfl, rfl⟩ := hq  -- X12_byteAt[R171, nI ((q.1 + 2))]
                refine gT_n 7 ?_
                refine gT_k (L := [(2, .int (nI ((27 * ((27 * (0 + ((((b (q.1 + 0))) - 97) + 1))) + ((((b (q.1 + 1))) - 97) + 1))) + ((((b (q.1 + 2))) - 97) + 1)))), (3, .int 2), (0, .ref 171), (1, .int (nI k))]) ?_ ⟨(viI (pk_addE (n := (27 * ((27 * (0 + ((((b (q.1 + 0))) - 97) + 1))) + ((((b (q.1 + 1))) - 97) + 1)))) (k := ((((b (q.1 + 2))) - 97) + 1)) (pk_mulE (n := 27) (k := ((27 * (0 + ((((b (q.1 + 0))) - 97) + 1))) + ((((b (q.1 + 1))) - 97) + 1))) (rfl) (rfl)) (pk_addE (n := (((b (q.1 + 2))) - 97)) (k := 1) (pk_subE (n := ((b (q.1 + 2)))) (k := 97) (rfl) (rfl) (by omega)) (rfl)))), rfl, rfl, rfl, trivial⟩ rfl
                refine gT_n 2 ?_
                refine gT_k (L := [(3, .int 3), (2, .int (nI ((27 * ((27 * (0 + ((((b (q.1 + 0))) - 97) + 1))) + ((((b (q.1 + 1))) - 97) + 1))) + ((((b (q.1 + 2))) - 97) + 1)))), (0, .ref 171), (1, .int (nI k))]) ?_ ⟨rfl, rfl, rfl, rfl, trivial⟩ rfl
                refine gT_n 3 ?_
                refine ⟨fun _ => ?_, fun c => absurd (by decide) c⟩
                refine gT_n 5 ?_
                refine ⟨rfl, rfl, (pk_inS (m := 5) (k := k) (rfl) (by omega) (rfl)), ?_⟩
                refine gT_xA (b := 192) rfl (n := k) (X := (nI ((27 * ((27 * (0 + ((((b (q.1 + 0))) - 97) + 1))) + ((((b (q.1 + 1))) - 97) + 1))) + ((((b (q.1 + 2))) - 97) + 1)))) (rfl) (by omega) (rfl) ?_
                refine gT_n 2 ?_
                refine ⟨rfl, rfl, gTM.use (m_readsW hT r3 hq.1 hq.2.1) (Nat.le_refl _) (fun r u hq => ?_)⟩
                obtain ⟨rfl, ⟨f, X1, hra, rfl, hf1, ho⟩ | ⟨q1, X1, hra, rfl, hf1, ho⟩⟩ := hq  -- X12_reads[R171]
                · refine gT_n 1 ?_
                  refine ⟨rfl, ?_⟩
                  exact ⟨rfl, Or.inl ⟨f, X1, (pif_pos (by omega)).mpr ((pif_neg (by omega)).mpr hra), rfl, fun a h1 h2 => (hf1.1 a h1).trans (gupI_n h2), hf1.2, ho⟩⟩
                · refine gT_n 1 ?_
                  refine ⟨rfl, ?_⟩
                  have d0 := r7 hk1 q.1 (by omega) (by omega)
                  have ez : b (q.1 + 0) = b q.1 := rfl
                  have e0 : lt3 b q 0 = b q.1 - 96 := if_pos (by omega)
                  have elb : ml (lb b q) = 27 * (27 * lt3 b q 0 + lt3 b q 1) + lt3 b q 2 := by rw [show lb b q = lbW b q from if_neg (by omega)]; exact ml_lbW (r7 hk1) (by omega)
                  have e1 : lt3 b q 1 = if q.1 + 1 < q.2.1 then b (q.1 + 1) - 96 else 0 := rfl
                  have e2 : lt3 b q 2 = if q.1 + 2 < q.2.1 then b (q.1 + 2) - 96 else 0 := rfl
                  have d1 : q.1 + 1 < q.2.1 → 97 ≤ b (q.1 + 1) := fun h => (r7 hk1 _ (by omega) h).1
                  have d2 : q.1 + 2 < q.2.1 → 97 ≤ b (q.1 + 2) := fun h => (r7 hk1 _ (by omega) h).1
                  exact ⟨rfl, Or.inr ⟨q1, X1, (pif_pos (by omega)).mpr ((pif_neg (by omega)).mpr hra), rfl, fun a h1 h2 => (hf1.1 a h1).trans (gupI_n h2), hf1.2, (by rw [hf1.1 192 (by decide), gupI_b]; exact congrArg (fun x => upd (X 192) k (nI x)) (by rw [elb, e0, e1, e2]; first | (rw [if_pos (by omega), if_pos (by omega)]; omega) | (rw [if_pos (by omega), if_neg (by omega)]; omega) | (rw [if_neg (by omega), if_neg (by omega)]; omega) | omega)), ho⟩⟩
  · refine gT_n 5 ?_
    refine ⟨rfl, px_eq (X := (nI (tkc q.2.2))) (Y := (1)) (hq.2.2.2.1) (rfl) (fun κ1 => ?_) (fun κ1 => ?_)⟩
    · exact absurd (by first | exact Or.inl ((tkc_s (m := 1) (by decide)).mp (by assumption)) | exact Or.inr (by assumption)) hk14
    · refine gT_n 3 ?_
      refine ⟨rfl, rfl, gTM.use (m_isSign4 hT hta0 hq) (Nat.le_refl _) (fun r u hq => ?_)⟩
      obtain ⟨rfl, ⟨rfl, β2⟩ | ⟨rfl, β2⟩⟩ := hq  -- X12_isSign[R171, K42]
      · refine gT_n 1 ?_
        refine ⟨fun c => absurd c (by decide), fun _ => ?_⟩
        exact absurd (by first | exact Or.inl ((tkc_s (m := 1) (by decide)).mp (by assumption)) | exact Or.inr (by assumption)) hk14
      · refine gT_n 1 ?_
        refine ⟨fun _ => ?_, fun c => absurd (by decide) c⟩
        refine gT_n 3 ?_
        refine ⟨rfl, rfl, gTM.use (m_must0 (c := 2) (h := nI q.1) hq.1 hq.2.2.1) (Nat.le_refl _) (fun r u hq => ?_)⟩
        obtain ⟨xx, rfl, rfl⟩ := hq  -- X12_must[R171, K0, K2]
        refine gT_n 5 ?_
        refine ⟨rfl, fun _ => ?_, fun c => absurd (kpT (p := fun z : Int32 => 0 < z) (show _ = (2 : Int32) from rfl) (by decide)) c⟩
        refine gT_n 4 ?_
        refine ⟨rfl, rfl, gTM.use (m_must1 (c := 3)) (Nat.le_refl _) (fun r u hq => ?_)⟩
        obtain ⟨xx, rfl, rfl⟩ := hq  -- X12_must[R171, K1, K3]
        refine gT_n 4 ?_
        refine ⟨rfl, fun c => absurd c (kpT (p := fun z : Int32 => ¬ (z ≤ 0)) (show _ = (2 : Int32) from rfl) (by decide)), fun _ => ?_⟩
        refine gT_n 1 ?_
        refine ⟨rfl, ?_⟩
        exact ⟨rfl, Or.inl ⟨(2, q.1), _, (pif_neg (by omega)).mpr rfl, rfl, fun a h1 _ => xFr_f.1 a h1, xFr_f.2, fT_s (by decide)⟩⟩
theorem cnt_n4 {a b c d : Nat} (ha : a < 32768) (hb : b < 32768) (hc : c < 32768) (hd : d < 32768) : cnt (n4 a b c d) = if a = 0 then 0 else if b = 0 then 1 else if c = 0 then 2 else if d = 0 then 3 else 4 := by
  obtain ⟨e0, e1, e2, e3⟩ := lab_n4 ha hb hc hd
  unfold cnt
  rw [e0, e1, e2, e3]
theorem nl_1 {a : Nat} (ha : a < 32768) : nlon 0 a = nOf [a] := by
  show 0 + a * 2 ^ (15 * (3 - cnt 0)) = n4 a 0 0 0
  rw [show cnt 0 = 0 from rfl]
  unfold n4; omega
theorem nl_2 {a b : Nat} (ha : a < 32768) (a0 : ¬ a = 0) : nlon (nOf [a]) b = nOf [a, b] := by
  show n4 a 0 0 0 + b * 2 ^ (15 * (3 - cnt (n4 a 0 0 0))) = n4 a b 0 0
  rw [cnt_n4 ha (by decide) (by decide) (by decide), if_neg a0, if_pos rfl]
  unfold n4; omega
theorem nl_3 {a b c : Nat} (ha : a < 32768) (hb : b < 32768) (a0 : ¬ a = 0) (b0 : ¬ b = 0) : nlon (nOf [a, b]) c = nOf [a, b, c] := by
  show n4 a b 0 0 + c * 2 ^ (15 * (3 - cnt (n4 a b 0 0))) = n4 a b c 0
  rw [cnt_n4 ha hb (by decide) (by decide), if_neg a0, if_neg b0, if_pos rfl]
  unfold n4; omega
theorem nl_4 {a b c d : Nat} (ha : a < 32768) (hb : b < 32768) (hc : c < 32768) (a0 : ¬ a = 0) (b0 : ¬ b = 0) (c0 : ¬ c = 0) : nlon (nOf [a, b, c]) d = nOf [a, b, c, d] := by
  show n4 a b c 0 + d * 2 ^ (15 * (3 - cnt (n4 a b c 0))) = n4 a b c d
  rw [cnt_n4 ha hb hc (by decide), if_neg a0, if_neg b0, if_neg c0, if_pos rfl]
  unfold n4; omega
theorem cnt_nOf {ws : List Nat} (h : vws ws) (hl : ws.length ≤ 3) : cnt (nOf ws) < 4 := by
  match ws, h, hl with
  | [], _, _ => exact (by decide : cnt 0 < 4)
  | [a], h, _ => show cnt (n4 a 0 0 0) < 4; rw [cnt_n4 (vl_lt (h a (by simp)).1) (by decide) (by decide) (by decide), if_neg (h a (by simp)).2, if_pos rfl]; decide
  | [a, b], h, _ => show cnt (n4 a b 0 0) < 4; rw [cnt_n4 (vl_lt (h a (by simp)).1) (vl_lt (h b (by simp)).1) (by decide) (by decide), if_neg (h a (by simp)).2, if_neg (h b (by simp)).2, if_pos rfl]; decide
  | [a, b, c], h, _ => show cnt (n4 a b c 0) < 4; rw [cnt_n4 (vl_lt (h a (by simp)).1) (vl_lt (h b (by simp)).1) (vl_lt (h c (by simp)).1) (by decide), if_neg (h a (by simp)).2, if_neg (h b (by simp)).2, if_neg (h c (by simp)).2, if_pos rfl]; decide
  | a :: b :: c :: d :: l, _, hl => exact absurd hl (by simp)
def wr (X : Nat → Nat → Int32) : List Nat → Prop
  | [] => True
  | a :: l => X 192 l.length = nI (ml a) ∧ wr X l
theorem wr_fr {X X' : Nat → Nat → Int32} {k : Nat} {v : Int32} (h : X' 192 = upd (X 192) k v) : ∀ l, l.length ≤ k → wr X l → wr X' l
  | [], _, _ => trivial
  | a :: l, hl, hw => ⟨by have hl : l.length + 1 ≤ k := hl; rw [h, upd_ne (by omega)]; exact hw.1, wr_fr h l (by have hl : l.length + 1 ≤ k := hl; omega) hw.2⟩
theorem m_nameB1 {d : Nat} {a : Nat} {I X : Nat → Nat → Int32} {J Y : Nat → Nat → Int64} {P : Nat → Nat} (h19 : X 171 19 = 0) (hw : wr X [a]) (hv : vws [a]) : gT (d + 4) 189 71 [(1, .int 1), (0, .ref 171)] [] (0, 0) (gST (xM I X) (xJ J Y) P) (fun r u => u = (gST (xM I X) (xJ J Y) P) ∧ r = some (.long (lN (mo (nOf [a]))))) := by
  have v0 := hv a (by simp)
  have hv0 : vws [] := fun x hx => absurd hx (by simp)
  refine gT_n 6 ?_
  refine gT_k (L := [(5, .int 0), (3, .long (lN 0)), (1, .int 1), (0, .ref 171)]) ?_ ⟨rfl, rfl, rfl, rfl, trivial⟩ rfl
  refine gT_n 2 ?_
  refine ⟨fun c => absurd c (by decide), fun _ => ?_⟩
  refine gT_n 3 ?_
  refine ⟨rfl, fun c => absurd c (kpT (p := fun z : Int32 => ¬ (¬ z = 0)) (show _ = (0 : Int32) from h19) (by decide)), fun _ => ?_⟩
  refine gT_n 6 ?_
  refine ⟨rfl, rfl, (pk_in 0 5 (by decide) rfl), rfl, gTM.useA (n_withLabel (n := nOf []) (x := a) (nOf_vn hv0).1 (cnt_nOf hv0 (by simp)) (vl_lt v0.1)) (Nat.le_refl _) (aL (rfl) (aI (hw.1) (rfl))) (fun r u hq => ?_)⟩
  obtain ⟨rfl, rfl⟩ := hq  -- X12_withLabel[lN ((nOf [])), nI ((ml a))]
  refine gT_n 1 ?_
  refine gT_k (L := [(3, .long (lN (mo ((nOf [a]))))), (5, .int 0), (1, .int 1), (0, .ref 171)]) ?_ ⟨(viL ((congrArg (fun q => lN (mo q)) (nl_1 (vl_lt v0.1))))), rfl, rfl, rfl, trivial⟩ rfl
  refine gT_n 2 ?_
  refine gT_k (L := [(5, .int (-1)), (3, .long (lN (mo ((nOf [a]))))), (1, .int 1), (0, .ref 171)]) ?_ ⟨rfl, rfl, rfl, rfl, trivial⟩ rfl
  refine gT_n 2 ?_
  refine ⟨fun _ => ?_, fun c => absurd (by decide) c⟩
  refine gT_n 2 ?_
  refine ⟨rfl, ?_⟩
  exact ⟨rfl, rfl⟩
theorem m_nameB2 {d : Nat} {a b : Nat} {I X : Nat → Nat → Int32} {J Y : Nat → Nat → Int64} {P : Nat → Nat} (h19 : X 171 19 = 0) (hw : wr X [a, b]) (hv : vws [a, b]) : gT (d + 4) 189 71 [(1, .int 2), (0, .ref 171)] [] (0, 0) (gST (xM I X) (xJ J Y) P) (fun r u => u = (gST (xM I X) (xJ J Y) P) ∧ r = some (.long (lN (mo (nOf [a, b]))))) := by
  have v0 := hv a (by simp)
  have v1 := hv b (by simp)
  have hv0 : vws [] := fun x hx => absurd hx (by simp)
  have hv1 : vws [a] := fun x hx => hv x (by simp at hx ⊢; omega)
  refine gT_n 6 ?_
  refine gT_k (L := [(5, .int 1), (3, .long (lN 0)), (1, .int 2), (0, .ref 171)]) ?_ ⟨rfl, rfl, rfl, rfl, trivial⟩ rfl
  refine gT_n 2 ?_
  refine ⟨fun c => absurd c (by decide), fun _ => ?_⟩
  refine gT_n 3 ?_
  refine ⟨rfl, fun c => absurd c (kpT (p := fun z : Int32 => ¬ (¬ z = 0)) (show _ = (0 : Int32) from h19) (by decide)), fun _ => ?_⟩
  refine gT_n 6 ?_
  refine ⟨rfl, rfl, (pk_in 1 5 (by decide) rfl), rfl, gTM.useA (n_withLabel (n := nOf []) (x := a) (nOf_vn hv0).1 (cnt_nOf hv0 (by simp)) (vl_lt v0.1)) (Nat.le_refl _) (aL (rfl) (aI (hw.1) (rfl))) (fun r u hq => ?_)⟩
  obtain ⟨rfl, rfl⟩ := hq  -- X12_withLabel[lN ((nOf [])), nI ((ml a))]
  refine gT_n 1 ?_
  refine gT_k (L := [(3, .long (lN (mo ((nOf [a]))))), (5, .int 1), (1, .int 2), (0, .ref 171)]) ?_ ⟨(viL ((congrArg (fun q => lN (mo q)) (nl_1 (vl_lt v0.1))))), rfl, rfl, rfl, trivial⟩ rfl
  refine gT_n 2 ?_
  refine gT_k (L := [(5, .int 0), (3, .long (lN (mo ((nOf [a]))))), (1, .int 2), (0, .ref 171)]) ?_ ⟨rfl, rfl, rfl, rfl, trivial⟩ rfl
  refine gT_n 2 ?_
  refine ⟨fun c => absurd c (by decide), fun _ => ?_⟩
  refine gT_n 3 ?_
  refine ⟨rfl, fun c => absurd c (kpT (p := fun z : Int32 => ¬ (¬ z = 0)) (show _ = (0 : Int32) from h19) (by decide)), fun _ => ?_⟩
  refine gT_n 6 ?_
  refine ⟨rfl, rfl, (pk_in 0 5 (by decide) rfl), rfl, gTM.useA (n_withLabel (n := nOf [a]) (x := b) (nOf_vn hv1).1 (cnt_nOf hv1 (by simp)) (vl_lt v1.1)) (Nat.le_refl _) (aL (rfl) (aI (hw.2.1) (rfl))) (fun r u hq => ?_)⟩
  obtain ⟨rfl, rfl⟩ := hq  -- X12_withLabel[lN ((nOf [a])), nI ((ml b))]
  refine gT_n 1 ?_
  refine gT_k (L := [(3, .long (lN (mo ((nOf [a, b]))))), (5, .int 0), (1, .int 2), (0, .ref 171)]) ?_ ⟨(viL ((congrArg (fun q => lN (mo q)) (nl_2 (vl_lt v0.1) v0.2)))), rfl, rfl, rfl, trivial⟩ rfl
  refine gT_n 2 ?_
  refine gT_k (L := [(5, .int (-1)), (3, .long (lN (mo ((nOf [a, b]))))), (1, .int 2), (0, .ref 171)]) ?_ ⟨rfl, rfl, rfl, rfl, trivial⟩ rfl
  refine gT_n 2 ?_
  refine ⟨fun _ => ?_, fun c => absurd (by decide) c⟩
  refine gT_n 2 ?_
  refine ⟨rfl, ?_⟩
  exact ⟨rfl, rfl⟩
theorem m_nameB3 {d : Nat} {a b c : Nat} {I X : Nat → Nat → Int32} {J Y : Nat → Nat → Int64} {P : Nat → Nat} (h19 : X 171 19 = 0) (hw : wr X [a, b, c]) (hv : vws [a, b, c]) : gT (d + 4) 189 71 [(1, .int 3), (0, .ref 171)] [] (0, 0) (gST (xM I X) (xJ J Y) P) (fun r u => u = (gST (xM I X) (xJ J Y) P) ∧ r = some (.long (lN (mo (nOf [a, b, c]))))) := by
  have v0 := hv a (by simp)
  have v1 := hv b (by simp)
  have v2 := hv c (by simp)
  have hv0 : vws [] := fun x hx => absurd hx (by simp)
  have hv1 : vws [a] := fun x hx => hv x (by simp at hx ⊢; omega)
  have hv2 : vws [a, b] := fun x hx => hv x (by simp at hx ⊢; omega)
  refine gT_n 6 ?_
  refine gT_k (L := [(5, .int 2), (3, .long (lN 0)), (1, .int 3), (0, .ref 171)]) ?_ ⟨rfl, rfl, rfl, rfl, trivial⟩ rfl
  refine gT_n 2 ?_
  refine ⟨fun c => absurd c (by decide), fun _ => ?_⟩
  refine gT_n 3 ?_
  refine ⟨rfl, fun c => absurd c (kpT (p := fun z : Int32 => ¬ (¬ z = 0)) (show _ = (0 : Int32) from h19) (by decide)), fun _ => ?_⟩
  refine gT_n 6 ?_
  refine ⟨rfl, rfl, (pk_in 2 5 (by decide) rfl), rfl, gTM.useA (n_withLabel (n := nOf []) (x := a) (nOf_vn hv0).1 (cnt_nOf hv0 (by simp)) (vl_lt v0.1)) (Nat.le_refl _) (aL (rfl) (aI (hw.1) (rfl))) (fun r u hq => ?_)⟩
  obtain ⟨rfl, rfl⟩ := hq  -- X12_withLabel[lN ((nOf [])), nI ((ml a))]
  refine gT_n 1 ?_
  refine gT_k (L := [(3, .long (lN (mo ((nOf [a]))))), (5, .int 2), (1, .int 3), (0, .ref 171)]) ?_ ⟨(viL ((congrArg (fun q => lN (mo q)) (nl_1 (vl_lt v0.1))))), rfl, rfl, rfl, trivial⟩ rfl
  refine gT_n 2 ?_
  refine gT_k (L := [(5, .int 1), (3, .long (lN (mo ((nOf [a]))))), (1, .int 3), (0, .ref 171)]) ?_ ⟨rfl, rfl, rfl, rfl, trivial⟩ rfl
  refine gT_n 2 ?_
  refine ⟨fun c => absurd c (by decide), fun _ => ?_⟩
  refine gT_n 3 ?_
  refine ⟨rfl, fun c => absurd c (kpT (p := fun z : Int32 => ¬ (¬ z = 0)) (show _ = (0 : Int32) from h19) (by decide)), fun _ => ?_⟩
  refine gT_n 6 ?_
  refine ⟨rfl, rfl, (pk_in 1 5 (by decide) rfl), rfl, gTM.useA (n_withLabel (n := nOf [a]) (x := b) (nOf_vn hv1).1 (cnt_nOf hv1 (by simp)) (vl_lt v1.1)) (Nat.le_refl _) (aL (rfl) (aI (hw.2.1) (rfl))) (fun r u hq => ?_)⟩
  obtain ⟨rfl, rfl⟩ := hq  -- X12_withLabel[lN ((nOf [a])), nI ((ml b))]
  refine gT_n 1 ?_
  refine gT_k (L := [(3, .long (lN (mo ((nOf [a, b]))))), (5, .int 1), (1, .int 3), (0, .ref 171)]) ?_ ⟨(viL ((congrArg (fun q => lN (mo q)) (nl_2 (vl_lt v0.1) v0.2)))), rfl, rfl, rfl, trivial⟩ rfl
  refine gT_n 2 ?_
  refine gT_k (L := [(5, .int 0), (3, .long (lN (mo ((nOf [a, b]))))), (1, .int 3), (0, .ref 171)]) ?_ ⟨rfl, rfl, rfl, rfl, trivial⟩ rfl
  refine gT_n 2 ?_
  refine ⟨fun c => absurd c (by decide), fun _ => ?_⟩
  refine gT_n 3 ?_
  refine ⟨rfl, fun c => absurd c (kpT (p := fun z : Int32 => ¬ (¬ z = 0)) (show _ = (0 : Int32) from h19) (by decide)), fun _ => ?_⟩
  refine gT_n 6 ?_
  refine ⟨rfl, rfl, (pk_in 0 5 (by decide) rfl), rfl, gTM.useA (n_withLabel (n := nOf [a, b]) (x := c) (nOf_vn hv2).1 (cnt_nOf hv2 (by simp)) (vl_lt v2.1)) (Nat.le_refl _) (aL (rfl) (aI (hw.2.2.1) (rfl))) (fun r u hq => ?_)⟩
  obtain ⟨rfl, rfl⟩ := hq  -- X12_withLabel[lN ((nOf [a, b])), nI ((ml c))]
  refine gT_n 1 ?_
  refine gT_k (L := [(3, .long (lN (mo ((nOf [a, b, c]))))), (5, .int 0), (1, .int 3), (0, .ref 171)]) ?_ ⟨(viL ((congrArg (fun q => lN (mo q)) (nl_3 (vl_lt v0.1) (vl_lt v1.1) v0.2 v1.2)))), rfl, rfl, rfl, trivial⟩ rfl
  refine gT_n 2 ?_
  refine gT_k (L := [(5, .int (-1)), (3, .long (lN (mo ((nOf [a, b, c]))))), (1, .int 3), (0, .ref 171)]) ?_ ⟨rfl, rfl, rfl, rfl, trivial⟩ rfl
  refine gT_n 2 ?_
  refine ⟨fun _ => ?_, fun c => absurd (by decide) c⟩
  refine gT_n 2 ?_
  refine ⟨rfl, ?_⟩
  exact ⟨rfl, rfl⟩
theorem m_nameB4 {d : Nat} {a b c e : Nat} {I X : Nat → Nat → Int32} {J Y : Nat → Nat → Int64} {P : Nat → Nat} (h19 : X 171 19 = 0) (hw : wr X [a, b, c, e]) (hv : vws [a, b, c, e]) : gT (d + 4) 189 71 [(1, .int 4), (0, .ref 171)] [] (0, 0) (gST (xM I X) (xJ J Y) P) (fun r u => u = (gST (xM I X) (xJ J Y) P) ∧ r = some (.long (lN (mo (nOf [a, b, c, e]))))) := by
  have v0 := hv a (by simp)
  have v1 := hv b (by simp)
  have v2 := hv c (by simp)
  have v3 := hv e (by simp)
  have hv0 : vws [] := fun x hx => absurd hx (by simp)
  have hv1 : vws [a] := fun x hx => hv x (by simp at hx ⊢; omega)
  have hv2 : vws [a, b] := fun x hx => hv x (by simp at hx ⊢; omega)
  have hv3 : vws [a, b, c] := fun x hx => hv x (by simp at hx ⊢; omega)
  refine gT_n 6 ?_
  refine gT_k (L := [(5, .int 3), (3, .long (lN 0)), (1, .int 4), (0, .ref 171)]) ?_ ⟨rfl, rfl, rfl, rfl, trivial⟩ rfl
  refine gT_n 2 ?_
  refine ⟨fun c => absurd c (by decide), fun _ => ?_⟩
  refine gT_n 3 ?_
  refine ⟨rfl, fun c => absurd c (kpT (p := fun z : Int32 => ¬ (¬ z = 0)) (show _ = (0 : Int32) from h19) (by decide)), fun _ => ?_⟩
  refine gT_n 6 ?_
  refine ⟨rfl, rfl, (pk_in 3 5 (by decide) rfl), rfl, gTM.useA (n_withLabel (n := nOf []) (x := a) (nOf_vn hv0).1 (cnt_nOf hv0 (by simp)) (vl_lt v0.1)) (Nat.le_refl _) (aL (rfl) (aI (hw.1) (rfl))) (fun r u hq => ?_)⟩
  obtain ⟨rfl, rfl⟩ := hq  -- X12_withLabel[lN ((nOf [])), nI ((ml a))]
  refine gT_n 1 ?_
  refine gT_k (L := [(3, .long (lN (mo ((nOf [a]))))), (5, .int 3), (1, .int 4), (0, .ref 171)]) ?_ ⟨(viL ((congrArg (fun q => lN (mo q)) (nl_1 (vl_lt v0.1))))), rfl, rfl, rfl, trivial⟩ rfl
  refine gT_n 2 ?_
  refine gT_k (L := [(5, .int 2), (3, .long (lN (mo ((nOf [a]))))), (1, .int 4), (0, .ref 171)]) ?_ ⟨rfl, rfl, rfl, rfl, trivial⟩ rfl
  refine gT_n 2 ?_
  refine ⟨fun c => absurd c (by decide), fun _ => ?_⟩
  refine gT_n 3 ?_
  refine ⟨rfl, fun c => absurd c (kpT (p := fun z : Int32 => ¬ (¬ z = 0)) (show _ = (0 : Int32) from h19) (by decide)), fun _ => ?_⟩
  refine gT_n 6 ?_
  refine ⟨rfl, rfl, (pk_in 2 5 (by decide) rfl), rfl, gTM.useA (n_withLabel (n := nOf [a]) (x := b) (nOf_vn hv1).1 (cnt_nOf hv1 (by simp)) (vl_lt v1.1)) (Nat.le_refl _) (aL (rfl) (aI (hw.2.1) (rfl))) (fun r u hq => ?_)⟩
  obtain ⟨rfl, rfl⟩ := hq  -- X12_withLabel[lN ((nOf [a])), nI ((ml b))]
  refine gT_n 1 ?_
  refine gT_k (L := [(3, .long (lN (mo ((nOf [a, b]))))), (5, .int 2), (1, .int 4), (0, .ref 171)]) ?_ ⟨(viL ((congrArg (fun q => lN (mo q)) (nl_2 (vl_lt v0.1) v0.2)))), rfl, rfl, rfl, trivial⟩ rfl
  refine gT_n 2 ?_
  refine gT_k (L := [(5, .int 1), (3, .long (lN (mo ((nOf [a, b]))))), (1, .int 4), (0, .ref 171)]) ?_ ⟨rfl, rfl, rfl, rfl, trivial⟩ rfl
  refine gT_n 2 ?_
  refine ⟨fun c => absurd c (by decide), fun _ => ?_⟩
  refine gT_n 3 ?_
  refine ⟨rfl, fun c => absurd c (kpT (p := fun z : Int32 => ¬ (¬ z = 0)) (show _ = (0 : Int32) from h19) (by decide)), fun _ => ?_⟩
  refine gT_n 6 ?_
  refine ⟨rfl, rfl, (pk_in 1 5 (by decide) rfl), rfl, gTM.useA (n_withLabel (n := nOf [a, b]) (x := c) (nOf_vn hv2).1 (cnt_nOf hv2 (by simp)) (vl_lt v2.1)) (Nat.le_refl _) (aL (rfl) (aI (hw.2.2.1) (rfl))) (fun r u hq => ?_)⟩
  obtain ⟨rfl, rfl⟩ := hq  -- X12_withLabel[lN ((nOf [a, b])), nI ((ml c))]
  refine gT_n 1 ?_
  refine gT_k (L := [(3, .long (lN (mo ((nOf [a, b, c]))))), (5, .int 1), (1, .int 4), (0, .ref 171)]) ?_ ⟨(viL ((congrArg (fun q => lN (mo q)) (nl_3 (vl_lt v0.1) (vl_lt v1.1) v0.2 v1.2)))), rfl, rfl, rfl, trivial⟩ rfl
  refine gT_n 2 ?_
  refine gT_k (L := [(5, .int 0), (3, .long (lN (mo ((nOf [a, b, c]))))), (1, .int 4), (0, .ref 171)]) ?_ ⟨rfl, rfl, rfl, rfl, trivial⟩ rfl
  refine gT_n 2 ?_
  refine ⟨fun c => absurd c (by decide), fun _ => ?_⟩
  refine gT_n 3 ?_
  refine ⟨rfl, fun c => absurd c (kpT (p := fun z : Int32 => ¬ (¬ z = 0)) (show _ = (0 : Int32) from h19) (by decide)), fun _ => ?_⟩
  refine gT_n 6 ?_
  refine ⟨rfl, rfl, (pk_in 0 5 (by decide) rfl), rfl, gTM.useA (n_withLabel (n := nOf [a, b, c]) (x := e) (nOf_vn hv3).1 (cnt_nOf hv3 (by simp)) (vl_lt v3.1)) (Nat.le_refl _) (aL (rfl) (aI (hw.2.2.2.1) (rfl))) (fun r u hq => ?_)⟩
  obtain ⟨rfl, rfl⟩ := hq  -- X12_withLabel[lN ((nOf [a, b, c])), nI ((ml e))]
  refine gT_n 1 ?_
  refine gT_k (L := [(3, .long (lN (mo ((nOf [a, b, c, e]))))), (5, .int 0), (1, .int 4), (0, .ref 171)]) ?_ ⟨(viL ((congrArg (fun q => lN (mo q)) (nl_4 (vl_lt v0.1) (vl_lt v1.1) (vl_lt v2.1) v0.2 v1.2 v2.2)))), rfl, rfl, rfl, trivial⟩ rfl
  refine gT_n 2 ?_
  refine gT_k (L := [(5, .int (-1)), (3, .long (lN (mo ((nOf [a, b, c, e]))))), (1, .int 4), (0, .ref 171)]) ?_ ⟨rfl, rfl, rfl, rfl, trivial⟩ rfl
  refine gT_n 2 ?_
  refine ⟨fun _ => ?_, fun c => absurd (by decide) c⟩
  refine gT_n 2 ?_
  refine ⟨rfl, ?_⟩
  exact ⟨rfl, rfl⟩
