/-! sorts read: the reference -/
def soW (b : Nat → Nat) (q : tk3) (so : Nat) : Prop := (so = 0 ∧ isWd b q [97]) ∨ (so = 1 ∧ ¬ isWd b q [97] ∧ isWd b q [116]) ∨ (so = 2 ∧ ¬ isWd b q [97] ∧ ¬ isWd b q [116] ∧ isWd b q [109])
def noW (b : Nat → Nat) (q : tk3) : Prop := ¬ isWd b q [97] ∧ ¬ isWd b q [116] ∧ ¬ isWd b q [109]
theorem wd_vl {n : Nat} {b : Nat → Nat} {q : tk3} {c : Nat} (h : isWd b q [c]) : vlc n b q = nI c := by
  have e : b q.1 = c := h.2.2 0 (by decide : 0 < 1)
  unfold vlc
  rw [if_neg (by rw [h.1]; decide), if_neg (by rw [h.1]; decide), e]
theorem wd_of {n : Nat} {b : Nat → Nat} {q : tk3} {c : Nat} (h1 : nI (tkc q.2.2) = 1) (h2 : q.2.1 - q.1 = 1) (h3 : vlc n b q = nI c) (hc : c < 128) (hb : b q.1 < 128) : isWd b q [c] := by
  have k1 : q.2.2 = 1 := (tkc_s (m := 1) (by decide)).mp h1
  refine ⟨k1, h2, fun j hj => ?_⟩
  have hj : j < 1 := hj
  obtain rfl : j = 0 := by omega
  unfold vlc at h3
  rw [if_neg (by rw [k1]; decide), if_neg (by rw [k1]; decide)] at h3
  exact (nI_eq (a := b q.1) (b := c) (by omega) (by omega)).mp h3
theorem m_readsSortF {d : Nat} {f : Int32} {I X : Nat → Nat → Int32} {J Y : Nat → Nat → Int64} {P : Nat → Nat} (h0 : X 171 19 = f) (hf : 0 < f) : gTM (d + 1) 192 [.ref 171] (gST (xM I X) (xJ J Y) P) (fun r u => ∃ x, r = some (.int x) ∧ u = (gST (xM I X) (xJ J Y) P)) := by
  refine gT_n 4 ?_
  refine ⟨rfl, px_gt (X := f) (Y := (0)) (h0) (rfl) (fun κ1 => ?_) (fun κ1 => ?_)⟩
  · refine gT_n 4 ?_
    refine ⟨rfl, rfl, gTM.use (m_mustF h0 hf) (Nat.le_refl _) (fun r u hq => ?_)⟩
    obtain ⟨xx, rfl, rfl⟩ := hq  -- X12_must[R171, K1, K2]
    refine gT_n 5 ?_
    refine ⟨rfl, px_ne (X := (X 171 24)) (Y := (97)) (rfl) (rfl) (fun κ2 => ?_) (fun κ2 => ?_)⟩
    · refine gT_n 4 ?_
      refine ⟨rfl, px_ne (X := (X 171 24)) (Y := (116)) (rfl) (rfl) (fun κ3 => ?_) (fun κ3 => ?_)⟩
      · refine gT_n 4 ?_
        refine ⟨rfl, rfl, gTM.use (m_readsF h0 hf) (Nat.le_refl _) (fun r u hq => ?_)⟩
        obtain ⟨rfl, rfl⟩ := hq  -- X12_reads[R171]
        refine gT_n 2 ?_
        exact ⟨_, rfl, rfl⟩
      · refine gT_n 5 ?_
        refine ⟨rfl, rfl, gTM.use (m_readsF h0 hf) (Nat.le_refl _) (fun r u hq => ?_)⟩
        obtain ⟨rfl, rfl⟩ := hq  -- X12_reads[R171]
        refine gT_n 2 ?_
        exact ⟨_, rfl, rfl⟩
    · refine gT_n 5 ?_
      refine ⟨rfl, rfl, gTM.use (m_readsF h0 hf) (Nat.le_refl _) (fun r u hq => ?_)⟩
      obtain ⟨rfl, rfl⟩ := hq  -- X12_reads[R171]
      refine gT_n 2 ?_
      exact ⟨_, rfl, rfl⟩
  · exact absurd hf (by assumption)
theorem m_readsSort {d : Nat} {I X : Nat → Nat → Int32} {J Y : Nat → Nat → Int64} {P : Nat → Nat} {n : Nat} {b : Nat → Nat} (hT : tpm I n b) {q : tk3} (hta : tIs n b q) (hq : okT n b X q) : gTM (d + 2) 192 [.ref 171] (gST (xM I X) (xJ J Y) P) (fun r u => (∃ f X', ((noW b q ∧ f = (2, q.1)) ∨ (∃ so, soW b q so ∧ adv n b q.2.1 (.inl f))) ∧ (∃ x, r = some (.int x)) ∧ u = gST (xM I X') (xJ J Y) P ∧ xFr X X' ∧ fT X' f) ∨ (∃ so q' X', soW b q so ∧ so < 3 ∧ adv n b q.2.1 (.inr q') ∧ r = some (.int (nI so)) ∧ u = gST (xM I X') (xJ J Y) P ∧ xFr X X' ∧ okT n b X' q')) := by
  have hn2 := hT.2.1
  have hta0 := hta
  obtain ⟨aq, hadv⟩ := hta
  obtain ⟨r1, r2, r3, r4, r5, r6, r7, r8⟩ := adv_r hadv
  by_cases h97 : isWd b q [97]
  · have hw := h97
    have hlen : q.2.1 - q.1 = 1 := hw.2.1
    refine gT_n 4 ?_
    refine ⟨rfl, fun c => absurd c (kpT (p := fun z : Int32 => ¬ (0 < z)) (show _ = (0 : Int32) from hq.1) (by decide)), fun _ => ?_⟩
    refine gT_n 4 ?_
    refine ⟨rfl, fun c => absurd c (kpT (p := fun z : Int32 => ¬ (¬ z = 1)) (show _ = (1 : Int32) from (hq.2.2.2.1.trans (by rw [hw.1]; rfl))) (by decide)), fun _ => ?_⟩
    refine gT_n 7 ?_
    refine ⟨rfl, rfl, pk_ne (q.2.1 - q.1) 1 (fun κ1 => ?_) (fun κ1 => ?_) (pk_subE (n := q.2.1) (k := q.1) (hq.2.1) (hq.2.2.1) (by omega)) (rfl) (by omega) (by omega)⟩
    · exact absurd hlen (by omega)
    · refine gT_n 4 ?_
      refine ⟨rfl, fun _ => ?_, fun c => absurd (kpT (p := fun z : Int32 => z = 97) (show _ = (97 : Int32) from (hq.2.2.2.2.trans (wd_vl hw))) (by decide)) c⟩
      refine gT_n 4 ?_
      refine ⟨rfl, rfl, gTM.use (m_must1 (c := 2)) (Nat.le_refl _) (fun r u hq => ?_)⟩
      obtain ⟨xx, rfl, rfl⟩ := hq  -- X12_must[R171, K1, K2]
      refine gT_n 5 ?_
      refine ⟨rfl, fun c => absurd c (kpT (p := fun z : Int32 => ¬ (¬ z = 97)) (show _ = (97 : Int32) from (hq.2.2.2.2.trans (wd_vl hw))) (by decide)), fun _ => ?_⟩
      refine gT_n 5 ?_
      refine ⟨rfl, rfl, gTM.use (m_reads hT r3 hq.1 hq.2.1) (Nat.le_refl _) (fun r u hq => ?_)⟩
      obtain ⟨rfl, ⟨f, X1, hra, rfl, hf1, ho⟩ | ⟨q1, X1, hra, rfl, hf1, ho⟩⟩ := hq  -- X12_reads[R171]
      · refine gT_n 2 ?_
        exact Or.inl ⟨f, X1, Or.inr ⟨0, Or.inl ⟨rfl, hw⟩, hra⟩, ⟨_, rfl⟩, rfl, hf1, ho⟩
      · refine gT_n 2 ?_
        exact Or.inr ⟨0, q1, X1, Or.inl ⟨rfl, hw⟩, by decide, hra, rfl, rfl, hf1, ho⟩
  · by_cases h116 : isWd b q [116]
    · have hw := h116
      have hlen : q.2.1 - q.1 = 1 := hw.2.1
      refine gT_n 4 ?_
      refine ⟨rfl, fun c => absurd c (kpT (p := fun z : Int32 => ¬ (0 < z)) (show _ = (0 : Int32) from hq.1) (by decide)), fun _ => ?_⟩
      refine gT_n 4 ?_
      refine ⟨rfl, fun c => absurd c (kpT (p := fun z : Int32 => ¬ (¬ z = 1)) (show _ = (1 : Int32) from (hq.2.2.2.1.trans (by rw [hw.1]; rfl))) (by decide)), fun _ => ?_⟩
      refine gT_n 7 ?_
      refine ⟨rfl, rfl, pk_ne (q.2.1 - q.1) 1 (fun κ1 => ?_) (fun κ1 => ?_) (pk_subE (n := q.2.1) (k := q.1) (hq.2.1) (hq.2.2.1) (by omega)) (rfl) (by omega) (by omega)⟩
      · exact absurd hlen (by omega)
      · refine gT_n 4 ?_
        refine ⟨rfl, fun c => absurd c (kpT (p := fun z : Int32 => ¬ (z = 97)) (show _ = (116 : Int32) from (hq.2.2.2.2.trans (wd_vl hw))) (by decide)), fun _ => ?_⟩
        refine gT_n 4 ?_
        refine ⟨rfl, fun _ => ?_, fun c => absurd (kpT (p := fun z : Int32 => z = 116) (show _ = (116 : Int32) from (hq.2.2.2.2.trans (wd_vl hw))) (by decide)) c⟩
        refine gT_n 4 ?_
        refine ⟨rfl, rfl, gTM.use (m_must1 (c := 2)) (Nat.le_refl _) (fun r u hq => ?_)⟩
        obtain ⟨xx, rfl, rfl⟩ := hq  -- X12_must[R171, K1, K2]
        refine gT_n 5 ?_
        refine ⟨rfl, fun _ => ?_, fun c => absurd c (kpT (p := fun z : Int32 => ¬ z = 97) (show _ = (116 : Int32) from (hq.2.2.2.2.trans (wd_vl hw))) (by decide))⟩
        refine gT_n 4 ?_
        refine ⟨rfl, fun c => absurd c (kpT (p := fun z : Int32 => ¬ (¬ z = 116)) (show _ = (116 : Int32) from (hq.2.2.2.2.trans (wd_vl hw))) (by decide)), fun _ => ?_⟩
        refine gT_n 5 ?_
        refine ⟨rfl, rfl, gTM.use (m_reads hT r3 hq.1 hq.2.1) (Nat.le_refl _) (fun r u hq => ?_)⟩
        obtain ⟨rfl, ⟨f, X1, hra, rfl, hf1, ho⟩ | ⟨q1, X1, hra, rfl, hf1, ho⟩⟩ := hq  -- X12_reads[R171]
        · refine gT_n 2 ?_
          exact Or.inl ⟨f, X1, Or.inr ⟨1, Or.inr (Or.inl ⟨rfl, h97, hw⟩), hra⟩, ⟨_, rfl⟩, rfl, hf1, ho⟩
        · refine gT_n 2 ?_
          exact Or.inr ⟨1, q1, X1, Or.inr (Or.inl ⟨rfl, h97, hw⟩), by decide, hra, rfl, rfl, hf1, ho⟩
    · by_cases h109 : isWd b q [109]
      · have hw := h109
        have hlen : q.2.1 - q.1 = 1 := hw.2.1
        refine gT_n 4 ?_
        refine ⟨rfl, fun c => absurd c (kpT (p := fun z : Int32 => ¬ (0 < z)) (show _ = (0 : Int32) from hq.1) (by decide)), fun _ => ?_⟩
        refine gT_n 4 ?_
        refine ⟨rfl, fun c => absurd c (kpT (p := fun z : Int32 => ¬ (¬ z = 1)) (show _ = (1 : Int32) from (hq.2.2.2.1.trans (by rw [hw.1]; rfl))) (by decide)), fun _ => ?_⟩
        refine gT_n 7 ?_
        refine ⟨rfl, rfl, pk_ne (q.2.1 - q.1) 1 (fun κ1 => ?_) (fun κ1 => ?_) (pk_subE (n := q.2.1) (k := q.1) (hq.2.1) (hq.2.2.1) (by omega)) (rfl) (by omega) (by omega)⟩
        · exact absurd hlen (by omega)
        · refine gT_n 4 ?_
          refine ⟨rfl, fun c => absurd c (kpT (p := fun z : Int32 => ¬ (z = 97)) (show _ = (109 : Int32) from (hq.2.2.2.2.trans (wd_vl hw))) (by decide)), fun _ => ?_⟩
          refine gT_n 4 ?_
          refine ⟨rfl, fun c => absurd c (kpT (p := fun z : Int32 => ¬ (z = 116)) (show _ = (109 : Int32) from (hq.2.2.2.2.trans (wd_vl hw))) (by decide)), fun _ => ?_⟩
          refine gT_n 4 ?_
          refine ⟨rfl, fun c => absurd c (kpT (p := fun z : Int32 => ¬ (¬ z = 109)) (show _ = (109 : Int32) from (hq.2.2.2.2.trans (wd_vl hw))) (by decide)), fun _ => ?_⟩
          refine gT_n 4 ?_
          refine ⟨rfl, rfl, gTM.use (m_must1 (c := 2)) (Nat.le_refl _) (fun r u hq => ?_)⟩
          obtain ⟨xx, rfl, rfl⟩ := hq  -- X12_must[R171, K1, K2]
          refine gT_n 5 ?_
          refine ⟨rfl, fun _ => ?_, fun c => absurd c (kpT (p := fun z : Int32 => ¬ z = 97) (show _ = (109 : Int32) from (hq.2.2.2.2.trans (wd_vl hw))) (by decide))⟩
          refine gT_n 4 ?_
          refine ⟨rfl, fun _ => ?_, fun c => absurd c (kpT (p := fun z : Int32 => ¬ z = 116) (show _ = (109 : Int32) from (hq.2.2.2.2.trans (wd_vl hw))) (by decide))⟩
          refine gT_n 4 ?_
          refine ⟨rfl, rfl, gTM.use (m_reads hT r3 hq.1 hq.2.1) (Nat.le_refl _) (fun r u hq => ?_)⟩
          obtain ⟨rfl, ⟨f, X1, hra, rfl, hf1, ho⟩ | ⟨q1, X1, hra, rfl, hf1, ho⟩⟩ := hq  -- X12_reads[R171]
          · refine gT_n 2 ?_
            exact Or.inl ⟨f, X1, Or.inr ⟨2, Or.inr (Or.inr ⟨rfl, h97, h116, hw⟩), hra⟩, ⟨_, rfl⟩, rfl, hf1, ho⟩
          · refine gT_n 2 ?_
            exact Or.inr ⟨2, q1, X1, Or.inr (Or.inr ⟨rfl, h97, h116, hw⟩), by decide, hra, rfl, rfl, hf1, ho⟩
      · refine gT_n 4 ?_
        refine ⟨rfl, fun c => absurd c (kpT (p := fun z : Int32 => ¬ (0 < z)) (show _ = (0 : Int32) from hq.1) (by decide)), fun _ => ?_⟩
        refine gT_n 4 ?_
        refine ⟨rfl, px_ne (X := (nI (tkc q.2.2))) (Y := (1)) (hq.2.2.2.1) (rfl) (fun κ1 => ?_) (fun κ1 => ?_)⟩
        · refine gT_n 3 ?_
          refine ⟨rfl, rfl, gTM.use (m_must0 (c := 2) (h := nI q.1) hq.1 hq.2.2.1) (Nat.le_refl _) (fun r u hq => ?_)⟩
          obtain ⟨xx, rfl, rfl⟩ := hq  -- X12_must[R171, K0, K2]
          refine gT_n 5 ?_
          refine ⟨rfl, px_ne (X := (vlc n b q)) (Y := (97)) (hq.2.2.2.2) (rfl) (fun κ1 => ?_) (fun κ1 => ?_)⟩
          · refine gT_n 4 ?_
            refine ⟨rfl, px_ne (X := (vlc n b q)) (Y := (116)) (hq.2.2.2.2) (rfl) (fun κ2 => ?_) (fun κ2 => ?_)⟩
            · refine gT_n 4 ?_
              refine ⟨rfl, rfl, gTM.use (m_readsF (f := 2) rfl (by decide)) (Nat.le_refl _) (fun r u hq => ?_)⟩
              obtain ⟨rfl, rfl⟩ := hq  -- X12_reads[R171]
              refine gT_n 2 ?_
              exact Or.inl ⟨(2, q.1), _, Or.inl ⟨⟨h97, h116, h109⟩, rfl⟩, ⟨_, rfl⟩, rfl, xFr_f, fT_s (by decide)⟩
            · refine gT_n 5 ?_
              refine ⟨rfl, rfl, gTM.use (m_readsF (f := 2) rfl (by decide)) (Nat.le_refl _) (fun r u hq => ?_)⟩
              obtain ⟨rfl, rfl⟩ := hq  -- X12_reads[R171]
              refine gT_n 2 ?_
              exact Or.inl ⟨(2, q.1), _, Or.inl ⟨⟨h97, h116, h109⟩, rfl⟩, ⟨_, rfl⟩, rfl, xFr_f, fT_s (by decide)⟩
          · refine gT_n 5 ?_
            refine ⟨rfl, rfl, gTM.use (m_readsF (f := 2) rfl (by decide)) (Nat.le_refl _) (fun r u hq => ?_)⟩
            obtain ⟨rfl, rfl⟩ := hq  -- X12_reads[R171]
            refine gT_n 2 ?_
            exact Or.inl ⟨(2, q.1), _, Or.inl ⟨⟨h97, h116, h109⟩, rfl⟩, ⟨_, rfl⟩, rfl, xFr_f, fT_s (by decide)⟩
        · refine gT_n 7 ?_
          refine ⟨rfl, rfl, pk_ne (q.2.1 - q.1) 1 (fun κ2 => ?_) (fun κ2 => ?_) (pk_subE (n := q.2.1) (k := q.1) (hq.2.1) (hq.2.2.1) (by omega)) (rfl) (by omega) (by omega)⟩
          · refine gT_n 3 ?_
            refine ⟨rfl, rfl, gTM.use (m_must0 (c := 2) (h := nI q.1) hq.1 hq.2.2.1) (Nat.le_refl _) (fun r u hq => ?_)⟩
            obtain ⟨xx, rfl, rfl⟩ := hq  -- X12_must[R171, K0, K2]
            refine gT_n 5 ?_
            refine ⟨rfl, px_ne (X := (vlc n b q)) (Y := (97)) (hq.2.2.2.2) (rfl) (fun κ1 => ?_) (fun κ1 => ?_)⟩
            · refine gT_n 4 ?_
              refine ⟨rfl, px_ne (X := (vlc n b q)) (Y := (116)) (hq.2.2.2.2) (rfl) (fun κ2 => ?_) (fun κ2 => ?_)⟩
              · refine gT_n 4 ?_
                refine ⟨rfl, rfl, gTM.use (m_readsF (f := 2) rfl (by decide)) (Nat.le_refl _) (fun r u hq => ?_)⟩
                obtain ⟨rfl, rfl⟩ := hq  -- X12_reads[R171]
                refine gT_n 2 ?_
                exact Or.inl ⟨(2, q.1), _, Or.inl ⟨⟨h97, h116, h109⟩, rfl⟩, ⟨_, rfl⟩, rfl, xFr_f, fT_s (by decide)⟩
              · refine gT_n 5 ?_
                refine ⟨rfl, rfl, gTM.use (m_readsF (f := 2) rfl (by decide)) (Nat.le_refl _) (fun r u hq => ?_)⟩
                obtain ⟨rfl, rfl⟩ := hq  -- X12_reads[R171]
                refine gT_n 2 ?_
                exact Or.inl ⟨(2, q.1), _, Or.inl ⟨⟨h97, h116, h109⟩, rfl⟩, ⟨_, rfl⟩, rfl, xFr_f, fT_s (by decide)⟩
            · refine gT_n 5 ?_
              refine ⟨rfl, rfl, gTM.use (m_readsF (f := 2) rfl (by decide)) (Nat.le_refl _) (fun r u hq => ?_)⟩
              obtain ⟨rfl, rfl⟩ := hq  -- X12_reads[R171]
              refine gT_n 2 ?_
              exact Or.inl ⟨(2, q.1), _, Or.inl ⟨⟨h97, h116, h109⟩, rfl⟩, ⟨_, rfl⟩, rfl, xFr_f, fT_s (by decide)⟩
          · have hb0 : b q.1 < 128 := (hT.2.2 q.1 (by omega)).2
            have hK1 : nI (tkc q.2.2) = 1 := by assumption
            refine gT_n 4 ?_
            refine ⟨rfl, px_eq (X := (vlc n b q)) (Y := (97)) (hq.2.2.2.2) (rfl) (fun κ1 => ?_) (fun κ1 => ?_)⟩
            · exact absurd (wd_of (c := 97) hK1 (by omega) κ1 (by decide) hb0) h97
            · refine gT_n 4 ?_
              refine ⟨rfl, px_eq (X := (vlc n b q)) (Y := (116)) (hq.2.2.2.2) (rfl) (fun κ2 => ?_) (fun κ2 => ?_)⟩
              · exact absurd (wd_of (c := 116) hK1 (by omega) κ2 (by decide) hb0) h116
              · refine gT_n 4 ?_
                refine ⟨rfl, px_ne (X := (vlc n b q)) (Y := (109)) (hq.2.2.2.2) (rfl) (fun κ3 => ?_) (fun κ3 => ?_)⟩
                · refine gT_n 3 ?_
                  refine ⟨rfl, rfl, gTM.use (m_must0 (c := 2) (h := nI q.1) hq.1 hq.2.2.1) (Nat.le_refl _) (fun r u hq => ?_)⟩
                  obtain ⟨xx, rfl, rfl⟩ := hq  -- X12_must[R171, K0, K2]
                  refine gT_n 5 ?_
                  refine ⟨rfl, px_ne (X := (vlc n b q)) (Y := (97)) (hq.2.2.2.2) (rfl) (fun κ1 => ?_) (fun κ1 => ?_)⟩
                  · refine gT_n 4 ?_
                    refine ⟨rfl, px_ne (X := (vlc n b q)) (Y := (116)) (hq.2.2.2.2) (rfl) (fun κ2 => ?_) (fun κ2 => ?_)⟩
                    · refine gT_n 4 ?_
                      refine ⟨rfl, rfl, gTM.use (m_readsF (f := 2) rfl (by decide)) (Nat.le_refl _) (fun r u hq => ?_)⟩
                      obtain ⟨rfl, rfl⟩ := hq  -- X12_reads[R171]
                      refine gT_n 2 ?_
                      exact Or.inl ⟨(2, q.1), _, Or.inl ⟨⟨h97, h116, h109⟩, rfl⟩, ⟨_, rfl⟩, rfl, xFr_f, fT_s (by decide)⟩
                    · refine gT_n 5 ?_
                      refine ⟨rfl, rfl, gTM.use (m_readsF (f := 2) rfl (by decide)) (Nat.le_refl _) (fun r u hq => ?_)⟩
                      obtain ⟨rfl, rfl⟩ := hq  -- X12_reads[R171]
                      refine gT_n 2 ?_
                      exact Or.inl ⟨(2, q.1), _, Or.inl ⟨⟨h97, h116, h109⟩, rfl⟩, ⟨_, rfl⟩, rfl, xFr_f, fT_s (by decide)⟩
                  · refine gT_n 5 ?_
                    refine ⟨rfl, rfl, gTM.use (m_readsF (f := 2) rfl (by decide)) (Nat.le_refl _) (fun r u hq => ?_)⟩
                    obtain ⟨rfl, rfl⟩ := hq  -- X12_reads[R171]
                    refine gT_n 2 ?_
                    exact Or.inl ⟨(2, q.1), _, Or.inl ⟨⟨h97, h116, h109⟩, rfl⟩, ⟨_, rfl⟩, rfl, xFr_f, fT_s (by decide)⟩
                · exact absurd (wd_of (c := 109) hK1 (by omega) κ3 (by decide) hb0) h109
def rRq (n : Nat) (b : Nat → Nat) (D : zD) (q : tk3) (r : zF ⊕ (zD × Nat)) : Prop := ∃ r1, rNa n b q r1 ∧ match r1 with
    | .inl f => r = .inl f
    | .inr g => pif (isWd b g.2 [97]) (rRc2 n b D g.1 0 g.2 r) (pif (isWd b g.2 [116]) (rRc2 n b D g.1 1 g.2 r) (pif (isWd b g.2 [109]) (rRc2 n b D g.1 2 g.2 r) (r = .inl (2, g.2.1))))
theorem rRq_n {n : Nat} {b : Nat → Nat} {D : zD} {q : tk3} {m : Nat} {q1 : tk3} (h : rNa n b q (.inr (m, q1))) (hw : noW b q1) : rRq n b D q (.inl (2, q1.1)) := ⟨_, h, (pif_neg hw.1).mpr ((pif_neg hw.2.1).mpr ((pif_neg hw.2.2).mpr rfl))⟩
theorem rRq_s {n : Nat} {b : Nat → Nat} {D : zD} {q : tk3} {m so : Nat} {q1 : tk3} {r : zF ⊕ (zD × Nat)} (h : rNa n b q (.inr (m, q1))) (hw : soW b q1 so) (g : rRc2 n b D m so q1 r) : rRq n b D q r := by
  rcases hw with ⟨rfl, h0⟩ | ⟨rfl, h0, h1⟩ | ⟨rfl, h0, h1, h2⟩
  · exact ⟨_, h, (pif_pos h0).mpr g⟩
  · exact ⟨_, h, (pif_neg h0).mpr ((pif_pos h1).mpr g)⟩
  · exact ⟨_, h, (pif_neg h0).mpr ((pif_neg h1).mpr ((pif_pos h2).mpr g))⟩
theorem rc_f1 {n : Nat} {b : Nat → Nat} {D : zD} {m so : Nat} {q1 : tk3} {f : zF} (h : adv n b q1.2.1 (.inl f)) : rRc2 n b D m so q1 (.inl f) := ⟨_, ⟨_, h, rfl⟩, rfl⟩
theorem rNu_r {n : Nat} {b : Nat → Nat} {lo hi : Nat} {q q' : tk3} (h : rNu n b lo hi q (.inr q')) : q.2.2 = 2 ∧ (lo ≤ num b q ∧ num b q ≤ hi) ∧ adv n b q.2.1 (.inr q') := by
  by_cases c : q.2.2 = 2
  · have h := (pif_pos c).mp h
    by_cases c2 : lo ≤ num b q ∧ num b q ≤ hi
    · exact ⟨c, c2, (pif_pos c2).mp h⟩
    · exact inr_l ((pif_neg c2).mp h)
  · exact inr_l ((pif_neg c).mp h)
theorem rc_f2 {n : Nat} {b : Nat → Nat} {D : zD} {m so : Nat} {q1 q2 : tk3} {f : zF} (h : adv n b q1.2.1 (.inr q2)) (g : rNu n b 0 99 q2 (.inl f)) : rRc2 n b D m so q1 (.inl f) := by
  by_cases c : q2.2.2 = 2
  · have g := (pif_pos c).mp g
    have g := (pif_pos ⟨Nat.zero_le _, num_99 h c⟩).mp g
    exact ⟨_, ⟨_, h, (pif_pos c).mpr rfl⟩, _, ⟨_, g, rfl⟩, rfl⟩
  · have g := (pif_neg c).mp g
    cases g
    exact ⟨_, ⟨_, h, (pif_neg c).mpr rfl⟩, rfl⟩
theorem rc_f3 {n : Nat} {b : Nat → Nat} {D : zD} {m so : Nat} {q1 q2 q3 : tk3} (h : adv n b q1.2.1 (.inr q2)) (g : rNu n b 0 99 q2 (.inr q3)) (c5 : ¬ q3.2.2 = 5) : rRc2 n b D m so q1 (.inl (2, q3.1)) := by
  obtain ⟨c, -, g⟩ := rNu_r g
  exact ⟨_, ⟨_, h, (pif_pos c).mpr rfl⟩, _, ⟨_, g, (pif_neg c5).mpr rfl⟩, rfl⟩
theorem rc_k {n : Nat} {b : Nat → Nat} {D : zD} {m so : Nat} {q1 q2 q3 : tk3} {r : zF ⊕ (zD × Nat)} (h : adv n b q1.2.1 (.inr q2)) (g : rNu n b 0 99 q2 (.inr q3)) (c5 : q3.2.2 = 5) (k : pif (rno D.2.1 m so) (r = .inr ((D.1, D.2.1 ++ [(m, so, num b q2)], D.2.2), q3.2.1)) (r = .inl (5, q3.1))) : rRc2 n b D m so q1 r := by
  obtain ⟨c, -, g⟩ := rNu_r g
  exact ⟨_, ⟨_, h, (pif_pos c).mpr rfl⟩, _, ⟨_, g, (pif_pos c5).mpr rfl⟩, k⟩
