/-! zones read: the reference -/
def rZq (n : Nat) (b : Nat → Nat) (D : zD) (sg : Bool) (q : tk3) (r : zF ⊕ (zD × Nat)) : Prop := ∃ r1, rNa n b q r1 ∧ match r1 with
    | .inl f => r = .inl f
    | .inr g => pif (g.2.2.2 = 5) (pif (∃ z, z < D.1.1 ∧ D.1.2.1 z = g.1) (r = .inl (5, g.2.1)) (r = .inr ((tgrow D.1 g.1 sg, D.2.1, D.2.2), g.2.2.1))) (r = .inl (2, g.2.1))
theorem dfm_grow {X : Nat → Nat → Int32} {Y : Nat → Nat → Int64} {D : zD} {m : Nat} {sg : Bool} {x : Int32} (h : dfm X Y D) (hx : x = bI sg) (h4 : D.1.1 < 4) : dfm (gupI (gupI X 188 D.1.1 x) 171 29 (nI (D.1.1 + 1))) (gupL Y 187 D.1.1 (lN (mo m))) (tgrow D.1 m sg, D.2.1, D.2.2) := by
  refine ⟨rfl, fun z h1 h2 => ?_, fun z hz => ?_, h.2.2.2.1, h.2.2.2.2.1, h.2.2.2.2.2⟩
  · have h2 : z < D.1.1 + 1 := h2
    show vp_updL (Y 187) D.1.1 (lN (mo m)) z = lN (mo (if z = D.1.1 then m else D.1.2.1 z)) ∧ upd (X 188) D.1.1 x z = bI (if z = D.1.1 then sg else D.1.2.2.1 z)
    by_cases e : z = D.1.1
    · rw [if_pos e, if_pos e, updL_y e, upd_y e]; exact ⟨rfl, hx⟩
    · rw [if_neg e, if_neg e, updL_ne e, upd_ne e]; exact h.2.1 z h1 (by omega)
  · show upd (X 188) D.1.1 x z = 0 ∨ upd (X 188) D.1.1 x z = 1
    by_cases e : z = D.1.1
    · rw [upd_y e, hx]; exact bI_01 sg
    · rw [upd_ne e]; exact h.2.2.1 z hz
theorem m_zoneF0 {d m : Nat} {c : Int32} {D : zD} {q : tk3} {f : zF} {I X1 : Nat → Nat → Int32} {J Y : Nat → Nat → Int64} {P : Nat → Nat} {n : Nat} {b : Nat → Nat} (hr : rZq n b D false q (.inl f)) (ho : fT X1 f) (hb : b8 X1) : gT (d + 5) 191 64 [(5, .int (nI D.1.1)), (4, .int c), (0, .ref 171), (1, .int 0), (2, .long (lN (mo m)))] [] (0, 0) (gST (xM I X1) (xJ J Y) P) (fun r u => r = none ∧ ∃ rr X' Y', rZq n b D false q rr ∧ u = gST (xM I X') (xJ J Y') P ∧ mOut n X' Y' rr) := by
  refine gT_n 4 ?_
  refine ⟨rfl, px_gt (X := f.1) (Y := (0)) (ho.1) (rfl) (fun κ1 => ?_) (fun κ1 => ?_)⟩
  · refine gT_n 4 ?_
    refine ⟨rfl, rfl, gTM.use (m_mustF ho.1 ho.2.2) (Nat.le_refl _) (fun r u hq => ?_)⟩
    obtain ⟨xx, rfl, rfl⟩ := hq  -- X12_must[R171, K1, K5]
    refine gT_n 4 ?_
    refine ⟨rfl, px_ne (X := f.1) (Y := (0)) (ho.1) (rfl) (fun κ2 => ?_) (fun κ2 => ?_)⟩
    · refine gT_n 1 ?_
      refine ⟨rfl, ?_⟩
      exact ⟨rfl, .inl f, X1, Y, hr, rfl, ho, hb⟩
    · exact absurd (by assumption) (fun e : f.1 = 0 => absurd ho.2.2 (by rw [e]; decide))
  · exact absurd ho.2.2 (by assumption)
theorem m_zoneK0 {d m : Nat} {c : Int32} {D : zD} {q q1 : tk3} {I X1 : Nat → Nat → Int32} {J Y : Nat → Nat → Int64} {P : Nat → Nat} {n : Nat} {b : Nat → Nat} (hc : zNc D.1 m D.1.1 c) (hnm : rNa n b q (.inr (m, q1))) (hq1 : okT n b X1 q1) (h3n : q1.2.1 ≤ n) (hk5 : q1.2.2 = 5) (hD1 : dfm X1 Y D) (hO : dOK D) (h4 : D.1.1 < 4) (hvm : vn m) : gT (d + 5) 191 64 [(5, .int (nI D.1.1)), (4, .int c), (0, .ref 171), (1, .int 0), (2, .long (lN (mo m)))] [] (0, 0) (gST (xM I X1) (xJ J Y) P) (fun r u => r = none ∧ ∃ rr X' Y', rZq n b D false q rr ∧ u = gST (xM I X') (xJ J Y') P ∧ mOut n X' Y' rr) := by
  rcases hc with ⟨rfl, g⟩ | ⟨rfl, g⟩
  · have hn := (zNw_all hO.1).mp g
    refine gT_n 4 ?_
    refine ⟨rfl, fun c => absurd c (kpT (p := fun z : Int32 => ¬ (0 < z)) (show _ = (0 : Int32) from hq1.1) (by decide)), fun _ => ?_⟩
    refine gT_n 2 ?_
    refine ⟨fun c => absurd c (by decide), fun _ => ?_⟩
    refine gT_n 4 ?_
    refine ⟨rfl, rfl, gTM.use (m_must1 (c := 5)) (Nat.le_refl _) (fun r u hq => ?_)⟩
    obtain ⟨xx, rfl, rfl⟩ := hq  -- X12_must[R171, K1, K5]
    refine gT_n 4 ?_
    refine ⟨rfl, fun c => absurd c (kpT (p := fun z : Int32 => ¬ (¬ z = 0)) (show _ = (0 : Int32) from hq1.1) (by decide)), fun _ => ?_⟩
    refine gT_n 6 ?_
    refine ⟨rfl, rfl, rfl, (pk_inS (m := 4) (k := D.1.1) (rfl) (by omega) (hD1.1)), ?_⟩
    refine gT_xN (b := 187) rfl (n := D.1.1) (X := (lN (mo m))) (hD1.1) (by omega) (rfl) ?_
    refine gT_n 6 ?_
    refine ⟨rfl, rfl, (Or.inr rfl), (pk_inS (m := 4) (k := D.1.1) (rfl) (by omega) (hD1.1)), (Or.inr ⟨rfl, Or.inl rfl⟩), ?_⟩
    refine gT_xA (b := 188) rfl (n := D.1.1) (X := 0) (hD1.1) (by omega) (rfl) ?_
    refine gT_n 6 ?_
    refine ⟨rfl, rfl, ?_⟩
    refine gT_xP rfl (X := (nI (D.1.1 + 1))) (pk_addE (n := D.1.1) (k := 1) (hD1.1) (rfl)) ?_
    refine gT_n 1 ?_
    refine ⟨rfl, ?_⟩
    exact ⟨rfl, .inr ((tgrow D.1 m false, D.2.1, D.2.2), q1.2.1), _, _, ⟨_, hnm, (pif_pos hk5).mpr ((pif_neg hn).mpr rfl)⟩, rfl, dfm_grow (x := 0) hD1 rfl h4, ⟨tg_ok hO.1 h4 hvm hn, hO.2.1, hO.2.2⟩, hq1.1, hq1.2.1, h3n⟩
  · refine gT_n 4 ?_
    refine ⟨rfl, fun c => absurd c (kpT (p := fun z : Int32 => ¬ (0 < z)) (show _ = (0 : Int32) from hq1.1) (by decide)), fun _ => ?_⟩
    refine gT_n 2 ?_
    refine ⟨fun _ => ?_, fun c => absurd (by decide) c⟩
    refine gT_n 3 ?_
    refine ⟨rfl, rfl, gTM.use (m_must0 (c := 5) (h := nI q1.1) hq1.1 hq1.2.2.1) (Nat.le_refl _) (fun r u hq => ?_)⟩
    obtain ⟨xx, rfl, rfl⟩ := hq  -- X12_must[R171, K0, K5]
    refine gT_n 4 ?_
    refine ⟨rfl, fun _ => ?_, fun c => absurd c (kpT (p := fun z : Int32 => ¬ z = 0) (show _ = (5 : Int32) from rfl) (by decide))⟩
    refine gT_n 1 ?_
    refine ⟨rfl, ?_⟩
    exact ⟨rfl, .inl (5, q1.1), _, Y, ⟨_, hnm, (pif_pos hk5).mpr ((pif_pos (Classical.not_not.mp (fun h => g ((zNw_all hO.1).mpr h)))).mpr rfl)⟩, rfl, fT_s (by decide), hD1.2.2.1⟩
theorem m_readsZone0 {d : Nat} {I X : Nat → Nat → Int32} {J Y : Nat → Nat → Int64} {P : Nat → Nat} {n : Nat} {b : Nat → Nat} (hT : tpm I n b) {q : tk3} (hta : tIs n b q) (hq : okT n b X q) {D : zD} (hD : dfm X Y D) (hO : dOK D) (h4 : D.1.1 < 4) : gTM (d + 5) 191 [.ref 171, .int 0] (gST (xM I X) (xJ J Y) P) (fun r u => r = none ∧ ∃ rr X' Y', rZq n b D false q rr ∧ u = gST (xM I X') (xJ J Y') P ∧ mOut n X' Y' rr) := by
  refine gT_n 2 ?_
  refine ⟨rfl, rfl, gTM.use (m_readsName hT hta hq) (Nat.le_refl _) (fun r u hq => ?_)⟩
  obtain ⟨f, X1, hnm, ⟨m, rfl, hvm⟩, rfl, hfx, ho⟩ | ⟨m, q1, X1, hnm, rfl, rfl, hfx, hq1, ht1, hvm⟩ := hq  -- X12_readsName[R171]
  · have hD1 := dfm_fr hfx hD
    refine gT_n 3 ?_
    refine ⟨rfl, rfl, gTM.use (m_endsF ho.1 ho.2.2) (Nat.le_refl _) (fun r u hq => ?_)⟩
    obtain ⟨rfl, rfl⟩ := hq  -- X12_ends[R171]
    refine gT_n 4 ?_
    refine pm_eq m 0 (fun κ1 => ?_) (fun κ1 => ?_) (rfl) (rfl) (hvm) (vn_0)
    · refine gT_n 4 ?_
      exact gT_k (m_zoneL (t := D.1) (m := m) (sg := 0) (X := X1) hO.1 hD1.1 (fun z h1 h2 => (hD1.2.1 z h1 h2).1) hvm (fun c _ => m_zoneF0 ⟨_, hnm, rfl⟩ ho hD1.2.2.1) 1 hO.1.1 0 (by omega) (Or.inr ⟨rfl, fun h => h.1 κ1⟩)) ⟨rfl, rfl, rfl, rfl, rfl, trivial⟩ rfl
    · refine gT_n 5 ?_
      exact gT_k (m_zoneL (t := D.1) (m := m) (sg := 0) (X := X1) hO.1 hD1.1 (fun z h1 h2 => (hD1.2.1 z h1 h2).1) hvm (fun c _ => m_zoneF0 ⟨_, hnm, rfl⟩ ho hD1.2.2.1) 1 hO.1.1 1 (by omega) (Or.inl ⟨rfl, ⟨κ1, fun z h1 h2 => absurd h2 (by omega)⟩⟩)) ⟨rfl, rfl, rfl, rfl, rfl, trivial⟩ rfl
  · have hD1 := dfm_fr hfx hD
    have h3n : q1.2.1 ≤ n := by obtain ⟨a1, h1⟩ := ht1; exact (adv_r h1).2.2.1
    refine gT_n 3 ?_
    refine ⟨rfl, rfl, gTM.use (m_ends hT ht1 hq1) (Nat.le_refl _) (fun r u hq => ?_)⟩
    obtain ⟨rfl, ⟨hk5, rfl⟩ | ⟨hk5, rfl⟩⟩ := hq  -- X12_ends[R171]
    · refine gT_n 4 ?_
      refine pm_eq m 0 (fun κ2 => ?_) (fun κ2 => ?_) (rfl) (rfl) (hvm) (vn_0)
      · refine gT_n 4 ?_
        exact gT_k (m_zoneL (t := D.1) (m := m) (sg := 0) (X := X1) hO.1 hD1.1 (fun z h1 h2 => (hD1.2.1 z h1 h2).1) hvm (fun c hc => m_zoneK0 hc hnm hq1 h3n hk5 hD1 hO h4 hvm) 1 hO.1.1 0 (by omega) (Or.inr ⟨rfl, fun h => h.1 κ2⟩)) ⟨rfl, rfl, rfl, rfl, rfl, trivial⟩ rfl
      · refine gT_n 5 ?_
        exact gT_k (m_zoneL (t := D.1) (m := m) (sg := 0) (X := X1) hO.1 hD1.1 (fun z h1 h2 => (hD1.2.1 z h1 h2).1) hvm (fun c hc => m_zoneK0 hc hnm hq1 h3n hk5 hD1 hO h4 hvm) 1 hO.1.1 1 (by omega) (Or.inl ⟨rfl, ⟨κ2, fun z h1 h2 => absurd h2 (by omega)⟩⟩)) ⟨rfl, rfl, rfl, rfl, rfl, trivial⟩ rfl
    · refine gT_n 4 ?_
      refine pm_eq m 0 (fun κ3 => ?_) (fun κ3 => ?_) (rfl) (rfl) (hvm) (vn_0)
      · refine gT_n 4 ?_
        exact gT_k (m_zoneL (t := D.1) (m := m) (sg := 0) (X := gupI (gupI X1 171 19 2) 171 20 (nI q1.1)) hO.1 hD1.1 (fun z h1 h2 => (hD1.2.1 z h1 h2).1) hvm (fun c _ => m_zoneF0 (f := (2, q1.1)) ⟨_, hnm, (pif_neg hk5).mpr rfl⟩ (fT_s (by decide)) hD1.2.2.1) 1 hO.1.1 0 (by omega) (Or.inr ⟨rfl, fun h => h.1 κ3⟩)) ⟨rfl, rfl, rfl, rfl, rfl, trivial⟩ rfl
      · refine gT_n 5 ?_
        exact gT_k (m_zoneL (t := D.1) (m := m) (sg := 0) (X := gupI (gupI X1 171 19 2) 171 20 (nI q1.1)) hO.1 hD1.1 (fun z h1 h2 => (hD1.2.1 z h1 h2).1) hvm (fun c _ => m_zoneF0 (f := (2, q1.1)) ⟨_, hnm, (pif_neg hk5).mpr rfl⟩ (fT_s (by decide)) hD1.2.2.1) 1 hO.1.1 1 (by omega) (Or.inl ⟨rfl, ⟨κ3, fun z h1 h2 => absurd h2 (by omega)⟩⟩)) ⟨rfl, rfl, rfl, rfl, rfl, trivial⟩ rfl
theorem m_zoneF1 {d m : Nat} {c : Int32} {D : zD} {q : tk3} {f : zF} {I X1 : Nat → Nat → Int32} {J Y : Nat → Nat → Int64} {P : Nat → Nat} {n : Nat} {b : Nat → Nat} (hr : rZq n b D true q (.inl f)) (ho : fT X1 f) (hb : b8 X1) : gT (d + 5) 191 64 [(5, .int (nI D.1.1)), (4, .int c), (0, .ref 171), (1, .int 1), (2, .long (lN (mo m)))] [] (0, 0) (gST (xM I X1) (xJ J Y) P) (fun r u => r = none ∧ ∃ rr X' Y', rZq n b D true q rr ∧ u = gST (xM I X') (xJ J Y') P ∧ mOut n X' Y' rr) := by
  refine gT_n 4 ?_
  refine ⟨rfl, px_gt (X := f.1) (Y := (0)) (ho.1) (rfl) (fun κ1 => ?_) (fun κ1 => ?_)⟩
  · refine gT_n 4 ?_
    refine ⟨rfl, rfl, gTM.use (m_mustF ho.1 ho.2.2) (Nat.le_refl _) (fun r u hq => ?_)⟩
    obtain ⟨xx, rfl, rfl⟩ := hq  -- X12_must[R171, K1, K5]
    refine gT_n 4 ?_
    refine ⟨rfl, px_ne (X := f.1) (Y := (0)) (ho.1) (rfl) (fun κ2 => ?_) (fun κ2 => ?_)⟩
    · refine gT_n 1 ?_
      refine ⟨rfl, ?_⟩
      exact ⟨rfl, .inl f, X1, Y, hr, rfl, ho, hb⟩
    · exact absurd (by assumption) (fun e : f.1 = 0 => absurd ho.2.2 (by rw [e]; decide))
  · exact absurd ho.2.2 (by assumption)
theorem m_zoneK1 {d m : Nat} {c : Int32} {D : zD} {q q1 : tk3} {I X1 : Nat → Nat → Int32} {J Y : Nat → Nat → Int64} {P : Nat → Nat} {n : Nat} {b : Nat → Nat} (hc : zNc D.1 m D.1.1 c) (hnm : rNa n b q (.inr (m, q1))) (hq1 : okT n b X1 q1) (h3n : q1.2.1 ≤ n) (hk5 : q1.2.2 = 5) (hD1 : dfm X1 Y D) (hO : dOK D) (h4 : D.1.1 < 4) (hvm : vn m) : gT (d + 5) 191 64 [(5, .int (nI D.1.1)), (4, .int c), (0, .ref 171), (1, .int 1), (2, .long (lN (mo m)))] [] (0, 0) (gST (xM I X1) (xJ J Y) P) (fun r u => r = none ∧ ∃ rr X' Y', rZq n b D true q rr ∧ u = gST (xM I X') (xJ J Y') P ∧ mOut n X' Y' rr) := by
  rcases hc with ⟨rfl, g⟩ | ⟨rfl, g⟩
  · have hn := (zNw_all hO.1).mp g
    refine gT_n 4 ?_
    refine ⟨rfl, fun c => absurd c (kpT (p := fun z : Int32 => ¬ (0 < z)) (show _ = (0 : Int32) from hq1.1) (by decide)), fun _ => ?_⟩
    refine gT_n 2 ?_
    refine ⟨fun c => absurd c (by decide), fun _ => ?_⟩
    refine gT_n 4 ?_
    refine ⟨rfl, rfl, gTM.use (m_must1 (c := 5)) (Nat.le_refl _) (fun r u hq => ?_)⟩
    obtain ⟨xx, rfl, rfl⟩ := hq  -- X12_must[R171, K1, K5]
    refine gT_n 4 ?_
    refine ⟨rfl, fun c => absurd c (kpT (p := fun z : Int32 => ¬ (¬ z = 0)) (show _ = (0 : Int32) from hq1.1) (by decide)), fun _ => ?_⟩
    refine gT_n 6 ?_
    refine ⟨rfl, rfl, rfl, (pk_inS (m := 4) (k := D.1.1) (rfl) (by omega) (hD1.1)), ?_⟩
    refine gT_xN (b := 187) rfl (n := D.1.1) (X := (lN (mo m))) (hD1.1) (by omega) (rfl) ?_
    refine gT_n 6 ?_
    refine ⟨rfl, rfl, (Or.inr rfl), (pk_inS (m := 4) (k := D.1.1) (rfl) (by omega) (hD1.1)), (Or.inr ⟨rfl, Or.inr rfl⟩), ?_⟩
    refine gT_xA (b := 188) rfl (n := D.1.1) (X := 1) (hD1.1) (by omega) (rfl) ?_
    refine gT_n 6 ?_
    refine ⟨rfl, rfl, ?_⟩
    refine gT_xP rfl (X := (nI (D.1.1 + 1))) (pk_addE (n := D.1.1) (k := 1) (hD1.1) (rfl)) ?_
    refine gT_n 1 ?_
    refine ⟨rfl, ?_⟩
    exact ⟨rfl, .inr ((tgrow D.1 m true, D.2.1, D.2.2), q1.2.1), _, _, ⟨_, hnm, (pif_pos hk5).mpr ((pif_neg hn).mpr rfl)⟩, rfl, dfm_grow (x := 1) hD1 rfl h4, ⟨tg_ok hO.1 h4 hvm hn, hO.2.1, hO.2.2⟩, hq1.1, hq1.2.1, h3n⟩
  · refine gT_n 4 ?_
    refine ⟨rfl, fun c => absurd c (kpT (p := fun z : Int32 => ¬ (0 < z)) (show _ = (0 : Int32) from hq1.1) (by decide)), fun _ => ?_⟩
    refine gT_n 2 ?_
    refine ⟨fun _ => ?_, fun c => absurd (by decide) c⟩
    refine gT_n 3 ?_
    refine ⟨rfl, rfl, gTM.use (m_must0 (c := 5) (h := nI q1.1) hq1.1 hq1.2.2.1) (Nat.le_refl _) (fun r u hq => ?_)⟩
    obtain ⟨xx, rfl, rfl⟩ := hq  -- X12_must[R171, K0, K5]
    refine gT_n 4 ?_
    refine ⟨rfl, fun _ => ?_, fun c => absurd c (kpT (p := fun z : Int32 => ¬ z = 0) (show _ = (5 : Int32) from rfl) (by decide))⟩
    refine gT_n 1 ?_
    refine ⟨rfl, ?_⟩
    exact ⟨rfl, .inl (5, q1.1), _, Y, ⟨_, hnm, (pif_pos hk5).mpr ((pif_pos (Classical.not_not.mp (fun h => g ((zNw_all hO.1).mpr h)))).mpr rfl)⟩, rfl, fT_s (by decide), hD1.2.2.1⟩
theorem m_readsZone1 {d : Nat} {I X : Nat → Nat → Int32} {J Y : Nat → Nat → Int64} {P : Nat → Nat} {n : Nat} {b : Nat → Nat} (hT : tpm I n b) {q : tk3} (hta : tIs n b q) (hq : okT n b X q) {D : zD} (hD : dfm X Y D) (hO : dOK D) (h4 : D.1.1 < 4) : gTM (d + 5) 191 [.ref 171, .int 1] (gST (xM I X) (xJ J Y) P) (fun r u => r = none ∧ ∃ rr X' Y', rZq n b D true q rr ∧ u = gST (xM I X') (xJ J Y') P ∧ mOut n X' Y' rr) := by
  refine gT_n 2 ?_
  refine ⟨rfl, rfl, gTM.use (m_readsName hT hta hq) (Nat.le_refl _) (fun r u hq => ?_)⟩
  obtain ⟨f, X1, hnm, ⟨m, rfl, hvm⟩, rfl, hfx, ho⟩ | ⟨m, q1, X1, hnm, rfl, rfl, hfx, hq1, ht1, hvm⟩ := hq  -- X12_readsName[R171]
  · have hD1 := dfm_fr hfx hD
    refine gT_n 3 ?_
    refine ⟨rfl, rfl, gTM.use (m_endsF ho.1 ho.2.2) (Nat.le_refl _) (fun r u hq => ?_)⟩
    obtain ⟨rfl, rfl⟩ := hq  -- X12_ends[R171]
    refine gT_n 4 ?_
    refine pm_eq m 0 (fun κ1 => ?_) (fun κ1 => ?_) (rfl) (rfl) (hvm) (vn_0)
    · refine gT_n 4 ?_
      exact gT_k (m_zoneL (t := D.1) (m := m) (sg := 1) (X := X1) hO.1 hD1.1 (fun z h1 h2 => (hD1.2.1 z h1 h2).1) hvm (fun c _ => m_zoneF1 ⟨_, hnm, rfl⟩ ho hD1.2.2.1) 1 hO.1.1 0 (by omega) (Or.inr ⟨rfl, fun h => h.1 κ1⟩)) ⟨rfl, rfl, rfl, rfl, rfl, trivial⟩ rfl
    · refine gT_n 5 ?_
      exact gT_k (m_zoneL (t := D.1) (m := m) (sg := 1) (X := X1) hO.1 hD1.1 (fun z h1 h2 => (hD1.2.1 z h1 h2).1) hvm (fun c _ => m_zoneF1 ⟨_, hnm, rfl⟩ ho hD1.2.2.1) 1 hO.1.1 1 (by omega) (Or.inl ⟨rfl, ⟨κ1, fun z h1 h2 => absurd h2 (by omega)⟩⟩)) ⟨rfl, rfl, rfl, rfl, rfl, trivial⟩ rfl
  · have hD1 := dfm_fr hfx hD
    have h3n : q1.2.1 ≤ n := by obtain ⟨a1, h1⟩ := ht1; exact (adv_r h1).2.2.1
    refine gT_n 3 ?_
    refine ⟨rfl, rfl, gTM.use (m_ends hT ht1 hq1) (Nat.le_refl _) (fun r u hq => ?_)⟩
    obtain ⟨rfl, ⟨hk5, rfl⟩ | ⟨hk5, rfl⟩⟩ := hq  -- X12_ends[R171]
    · refine gT_n 4 ?_
      refine pm_eq m 0 (fun κ2 => ?_) (fun κ2 => ?_) (rfl) (rfl) (hvm) (vn_0)
      · refine gT_n 4 ?_
        exact gT_k (m_zoneL (t := D.1) (m := m) (sg := 1) (X := X1) hO.1 hD1.1 (fun z h1 h2 => (hD1.2.1 z h1 h2).1) hvm (fun c hc => m_zoneK1 hc hnm hq1 h3n hk5 hD1 hO h4 hvm) 1 hO.1.1 0 (by omega) (Or.inr ⟨rfl, fun h => h.1 κ2⟩)) ⟨rfl, rfl, rfl, rfl, rfl, trivial⟩ rfl
      · refine gT_n 5 ?_
        exact gT_k (m_zoneL (t := D.1) (m := m) (sg := 1) (X := X1) hO.1 hD1.1 (fun z h1 h2 => (hD1.2.1 z h1 h2).1) hvm (fun c hc => m_zoneK1 hc hnm hq1 h3n hk5 hD1 hO h4 hvm) 1 hO.1.1 1 (by omega) (Or.inl ⟨rfl, ⟨κ2, fun z h1 h2 => absurd h2 (by omega)⟩⟩)) ⟨rfl, rfl, rfl, rfl, rfl, trivial⟩ rfl
    · refine gT_n 4 ?_
      refine pm_eq m 0 (fun κ3 => ?_) (fun κ3 => ?_) (rfl) (rfl) (hvm) (vn_0)
      · refine gT_n 4 ?_
        exact gT_k (m_zoneL (t := D.1) (m := m) (sg := 1) (X := gupI (gupI X1 171 19 2) 171 20 (nI q1.1)) hO.1 hD1.1 (fun z h1 h2 => (hD1.2.1 z h1 h2).1) hvm (fun c _ => m_zoneF1 (f := (2, q1.1)) ⟨_, hnm, (pif_neg hk5).mpr rfl⟩ (fT_s (by decide)) hD1.2.2.1) 1 hO.1.1 0 (by omega) (Or.inr ⟨rfl, fun h => h.1 κ3⟩)) ⟨rfl, rfl, rfl, rfl, rfl, trivial⟩ rfl
      · refine gT_n 5 ?_
        exact gT_k (m_zoneL (t := D.1) (m := m) (sg := 1) (X := gupI (gupI X1 171 19 2) 171 20 (nI q1.1)) hO.1 hD1.1 (fun z h1 h2 => (hD1.2.1 z h1 h2).1) hvm (fun c _ => m_zoneF1 (f := (2, q1.1)) ⟨_, hnm, (pif_neg hk5).mpr rfl⟩ (fT_s (by decide)) hD1.2.2.1) 1 hO.1.1 1 (by omega) (Or.inl ⟨rfl, ⟨κ3, fun z h1 h2 => absurd h2 (by omega)⟩⟩)) ⟨rfl, rfl, rfl, rfl, rfl, trivial⟩ rfl
