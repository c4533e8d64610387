/-! the next token: the reference -/
theorem m_readsT {d a0 s : Nat} {X0 : Nat → Nat → Int32} {I X : Nat → Nat → Int32} {J Y : Nat → Nat → Int64} {P : Nat → Nat} {n : Nat} {b : Nat → Nat} (hT : tpm I n b) (hsp : isSp n b a0 s) (hfr : xFr X0 X) (h19 : X 171 19 = 0) (h21 : X 171 21 = nI s) : gT (d + 1) 183 34 [(0, .ref 171)] [] (0, 0) (gST (xM I X) (xJ J Y) P) (fun r u => r = none ∧ ((∃ f X', adv n b a0 (.inl f) ∧ u = gST (xM I X') (xJ J Y) P ∧ xFr X0 X' ∧ fT X' f) ∨ (∃ q X', adv n b a0 (.inr q) ∧ u = gST (xM I X') (xJ J Y) P ∧ xFr X0 X' ∧ okT n b X' q))) := by
  have hn2 := hT.2.1
  have hsn := hsp.2.1
  refine gT_n 4 ?_
  refine ⟨rfl, rfl, ?_⟩
  refine gT_xP rfl (X := (nI s)) (h21) ?_
  refine gT_n 4 ?_
  refine ⟨rfl, rfl, rfl, gTM.useA (m_byteAt (k := s) hT (by omega)) (Nat.le_refl _) (aR (aI (h21) (rfl))) (fun r u hq => ?_)⟩
  obtain ⟨rfl, ⟨hlt, rfl⟩ | ⟨hge, rfl⟩⟩ := hq  -- X12_byteAt[R171, nI s]
  · refine gT_n 4 ?_
    refine ⟨rfl, ?_⟩
    refine gT_xP rfl (X := (nI ((b s)))) (rfl) ?_
    refine gT_n 3 ?_
    refine ⟨fun _ => ?_, fun c => absurd c (nI_neg (rfl) (by have := (hT.2.2 s (by omega)).2; omega))⟩
    refine gT_n 5 ?_
    refine ⟨rfl, gTM.use (m_inN (c := b s) (lo := 97) (hi := 122) rfl rfl (by have := (hT.2.2 s (by omega)).2; omega) (by decide) (by decide)) (Nat.le_refl _) (fun r u hq => ?_)⟩
    obtain ⟨rfl, ⟨rfl, β1⟩ | ⟨rfl, β1⟩⟩ := hq  -- X12_in[L(nI ((b s))).toInt64, lN 97, lN 122]
    · refine gT_n 1 ?_
      refine ⟨fun c => absurd c (by decide), fun _ => ?_⟩
      refine gT_n 3 ?_
      refine ⟨rfl, ?_⟩
      refine gT_xP rfl (X := 1) (rfl) ?_
      exact gT_k (m_wordL hT hsp hlt β1 s (by omega) _ (xFr_g (xFr_g (xFr_g hfr (f := 22) (x := nI s) (by decide)) (f := 24) (x := nI (b s)) (by decide)) (f := 23) (x := 1) (by decide)) h19 h21 rfl rfl rfl (Nat.le_refl _) (fun j h1 h2 => absurd h1 (by omega))) ⟨rfl, trivial⟩ rfl
    · refine gT_n 1 ?_
      refine ⟨fun _ => ?_, fun c => absurd (by decide) c⟩
      refine gT_n 5 ?_
      refine ⟨rfl, gTM.use (m_inN (c := b s) (lo := 48) (hi := 57) rfl rfl (by have := (hT.2.2 s (by omega)).2; omega) (by decide) (by decide)) (Nat.le_refl _) (fun r u hq => ?_)⟩
      obtain ⟨rfl, ⟨rfl, β2⟩ | ⟨rfl, β2⟩⟩ := hq  -- X12_in[L(nI ((b s))).toInt64, lN 48, lN 57]
      · refine gT_n 1 ?_
        refine ⟨fun c => absurd c (by decide), fun _ => ?_⟩
        refine gT_n 3 ?_
        refine ⟨rfl, ?_⟩
        refine gT_xP rfl (X := 2) (rfl) ?_
        refine gT_n 3 ?_
        refine ⟨rfl, ?_⟩
        refine gT_xP rfl (X := 0) (rfl) ?_
        exact gT_k (m_numL hT hsp hlt β2 s (by omega) _ (xFr_g (xFr_g (xFr_g (xFr_g hfr (f := 22) (x := nI s) (by decide)) (f := 24) (x := nI (b s)) (by decide)) (f := 23) (x := 2) (by decide)) (f := 24) (x := 0) (by decide)) h19 h21 rfl rfl (show (0 : Int32) = nI (nv b s s) from congrArg nI (if_pos (Nat.le_refl s)).symm) (Nat.le_refl _) (fun j h1 h2 => absurd h1 (by omega))) ⟨rfl, trivial⟩ rfl
      · refine gT_n 1 ?_
        refine ⟨fun _ => ?_, fun c => absurd (by decide) c⟩
        refine gT_n 3 ?_
        refine ⟨rfl, ?_⟩
        refine gT_xP rfl (X := 3) (rfl) ?_
        refine gT_n 4 ?_
        refine pk_eq ((b s)) 46 (fun κ3 => ?_) (fun κ3 => ?_) (rfl) (rfl) (by have := (hT.2.2 s (by omega)).2; omega) (by omega)
        · refine gT_n 4 ?_
          refine ⟨rfl, rfl, gTM.use (m_must1 (c := 1)) (Nat.le_refl _) (fun r u hq => ?_)⟩
          obtain ⟨xx, rfl, rfl⟩ := hq  -- X12_must[R171, K1, K1]
          refine gT_n 7 ?_
          refine ⟨rfl, rfl, ?_⟩
          refine gT_xP rfl (X := (nI (s + 1))) (pk_addE (n := s) (k := 1) (h21) (rfl)) ?_
          refine gT_n 1 ?_
          refine ⟨rfl, ?_⟩
          exact ⟨rfl, Or.inr ⟨(s, s + 1, 3), _, ⟨(s, s + 1, 3), ⟨hsp, (pif_pos (c := s < n) hlt).mpr ((pif_neg (c := 97 ≤ b s ∧ b s ≤ 122) β1).mpr ((pif_neg (c := 48 ≤ b s ∧ b s ≤ 57) β2).mpr ⟨(by show 3 = sgn (b s); unfold sgn; rw [if_pos (by omega)]), rfl⟩))⟩, (pif_neg (by unfold tBad; simp)).mpr rfl⟩, rfl, xFr_g (xFr_g (xFr_g (xFr_g hfr (by decide)) (by decide)) (by decide)) (by decide), h19, rfl, rfl, rfl, rfl⟩⟩
        · refine gT_n 3 ?_
          refine pk_eq ((b s)) 42 (fun κ4 => ?_) (fun κ4 => ?_) (rfl) (rfl) (by have := (hT.2.2 s (by omega)).2; omega) (by omega)
          · refine gT_n 4 ?_
            refine ⟨rfl, rfl, gTM.use (m_must1 (c := 1)) (Nat.le_refl _) (fun r u hq => ?_)⟩
            obtain ⟨xx, rfl, rfl⟩ := hq  -- X12_must[R171, K1, K1]
            refine gT_n 7 ?_
            refine ⟨rfl, rfl, ?_⟩
            refine gT_xP rfl (X := (nI (s + 1))) (pk_addE (n := s) (k := 1) (h21) (rfl)) ?_
            refine gT_n 1 ?_
            refine ⟨rfl, ?_⟩
            exact ⟨rfl, Or.inr ⟨(s, s + 1, 4), _, ⟨(s, s + 1, 4), ⟨hsp, (pif_pos (c := s < n) hlt).mpr ((pif_neg (c := 97 ≤ b s ∧ b s ≤ 122) β1).mpr ((pif_neg (c := 48 ≤ b s ∧ b s ≤ 57) β2).mpr ⟨(by show 4 = sgn (b s); unfold sgn; rw [if_neg (by omega), if_pos (by omega)]), rfl⟩))⟩, (pif_neg (by unfold tBad; simp)).mpr rfl⟩, rfl, xFr_g (xFr_g (xFr_g (xFr_g hfr (by decide)) (by decide)) (by decide)) (by decide), h19, rfl, rfl, rfl, rfl⟩⟩
          · refine gT_n 3 ?_
            refine pk_ne ((b s)) 59 (fun κ5 => ?_) (fun κ5 => ?_) (rfl) (rfl) (by have := (hT.2.2 s (by omega)).2; omega) (by omega)
            · refine gT_n 3 ?_
              refine ⟨rfl, rfl, gTM.use (m_must0 (c := 1) (h := nI s) h19 rfl) (Nat.le_refl _) (fun r u hq => ?_)⟩
              obtain ⟨xx, rfl, rfl⟩ := hq  -- X12_must[R171, K0, K1]
              refine gT_n 7 ?_
              refine ⟨rfl, rfl, ?_⟩
              refine gT_xP rfl (X := (nI (s + 1))) (pk_addE (n := s) (k := 1) (h21) (rfl)) ?_
              refine gT_n 1 ?_
              refine ⟨rfl, ?_⟩
              exact ⟨rfl, Or.inl ⟨(1, s), _, ⟨(s, s + 1, 6), ⟨hsp, (pif_pos (c := s < n) hlt).mpr ((pif_neg (c := 97 ≤ b s ∧ b s ≤ 122) β1).mpr ((pif_neg (c := 48 ≤ b s ∧ b s ≤ 57) β2).mpr ⟨(by show 6 = sgn (b s); unfold sgn; rw [if_neg (by omega), if_neg (by omega), if_neg (by omega)]), rfl⟩))⟩, (pif_pos (Or.inl rfl)).mpr rfl⟩, rfl, xFr_g (xFr_g (xFr_g (xFr_g (xFr_g (xFr_g hfr (by decide)) (by decide)) (by decide)) (by decide)) (by decide)) (by decide), rfl, rfl, (by decide : (0 : Int32) < 1)⟩⟩
            · refine gT_n 4 ?_
              refine ⟨rfl, rfl, gTM.use (m_must1 (c := 1)) (Nat.le_refl _) (fun r u hq => ?_)⟩
              obtain ⟨xx, rfl, rfl⟩ := hq  -- X12_must[R171, K1, K1]
              refine gT_n 7 ?_
              refine ⟨rfl, rfl, ?_⟩
              refine gT_xP rfl (X := (nI (s + 1))) (pk_addE (n := s) (k := 1) (h21) (rfl)) ?_
              refine gT_n 1 ?_
              refine ⟨rfl, ?_⟩
              exact ⟨rfl, Or.inr ⟨(s, s + 1, 5), _, ⟨(s, s + 1, 5), ⟨hsp, (pif_pos (c := s < n) hlt).mpr ((pif_neg (c := 97 ≤ b s ∧ b s ≤ 122) β1).mpr ((pif_neg (c := 48 ≤ b s ∧ b s ≤ 57) β2).mpr ⟨(by show 5 = sgn (b s); unfold sgn; rw [if_neg (by omega), if_neg (by omega), if_pos (by omega)]), rfl⟩))⟩, (pif_neg (by unfold tBad; simp)).mpr rfl⟩, rfl, xFr_g (xFr_g (xFr_g (xFr_g hfr (by decide)) (by decide)) (by decide)) (by decide), h19, rfl, rfl, rfl, rfl⟩⟩
  · refine gT_n 4 ?_
    refine ⟨rfl, ?_⟩
    refine gT_xP rfl (X := (-4)) (rfl) ?_
    refine gT_n 3 ?_
    refine ⟨fun c => absurd (by decide) c, fun _ => ?_⟩
    refine gT_n 3 ?_
    refine ⟨rfl, ?_⟩
    refine gT_xP rfl (X := 0) (rfl) ?_
    refine gT_n 2 ?_
    refine ⟨rfl, ?_⟩
    exact ⟨rfl, Or.inr ⟨(s, s, 0), _, ⟨(s, s, 0), ⟨hsp, (pif_neg (c := s < n) (by omega)).mpr ⟨rfl, rfl⟩⟩, (pif_neg (by unfold tBad; simp)).mpr rfl⟩, rfl, xFr_g (xFr_g (xFr_g hfr (by decide)) (by decide)) (by decide), h19, h21, rfl, rfl, rfl⟩⟩
theorem m_reads {d a0 : Nat} {I X0 : Nat → Nat → Int32} {J Y : Nat → Nat → Int64} {P : Nat → Nat} {n : Nat} {b : Nat → Nat} (hT : tpm I n b) (ha0n : a0 ≤ n) (h190 : X0 171 19 = 0) (h210 : X0 171 21 = nI a0) : gTM (d + 1) 183 [.ref 171] (gST (xM I X0) (xJ J Y) P) (fun r u => r = none ∧ ((∃ f X', adv n b a0 (.inl f) ∧ u = gST (xM I X') (xJ J Y) P ∧ xFr X0 X' ∧ fT X' f) ∨ (∃ q X', adv n b a0 (.inr q) ∧ u = gST (xM I X') (xJ J Y) P ∧ xFr X0 X' ∧ okT n b X' q))) := by
  have hn2 := hT.2.1
  have loop : ∀ a, a ≤ n → ∀ X : Nat → Nat → Int32, xFr X0 X → X 171 19 = 0 → X 171 21 = nI a → a0 ≤ a → (∀ j, a0 ≤ j → j < a → b j = 32) → gT (d + 1) 183 8 [(0, .ref 171)] [] (0, 0) (gST (xM I X) (xJ J Y) P) (fun r u => r = none ∧ ((∃ f X', adv n b a0 (.inl f) ∧ u = gST (xM I X') (xJ J Y) P ∧ xFr X0 X' ∧ fT X' f) ∨ (∃ q X', adv n b a0 (.inr q) ∧ u = gST (xM I X') (xJ J Y) P ∧ xFr X0 X' ∧ okT n b X' q))) := by
    refine loopU n (fun a hi2 ih => ?_)
    intro X hfr h19 h21 ha0 hno
    refine gT_n 4 ?_
    refine ⟨rfl, rfl, rfl, gTM.useA (m_byteAt (k := a) hT (by omega)) (Nat.le_refl _) (aR (aI (h21) (rfl))) (fun r u hq => ?_)⟩
    obtain ⟨rfl, ⟨hlt, rfl⟩ | ⟨hge, rfl⟩⟩ := hq  -- X12_byteAt[R171, nI a]
    · refine gT_n 2 ?_
      refine pk_ne ((b a)) 32 (fun κ1 => ?_) (fun κ1 => ?_) (rfl) (rfl) (by have := (hT.2.2 a (by omega)).2; omega) (by omega)
      · exact gT_k (m_readsT hT ⟨ha0, by omega, hno, by omega⟩ hfr h19 h21) ⟨rfl, trivial⟩ rfl
      · refine gT_n 6 ?_
        refine ⟨rfl, rfl, ?_⟩
        refine gT_xP rfl (X := (nI (a + 1))) (pk_addE (n := a) (k := 1) (h21) (rfl)) ?_
        refine gT_n 1 ?_
        have e' := ih (a + 1) (by omega) (by omega) (gupI X 171 21 (nI (a + 1))) (xFr_g hfr (by decide)) h19 gupI_rr (by omega) (fun j h1 h2 => by
          rcases Nat.lt_or_ge j a with g | g
          · exact hno j h1 g
          · obtain rfl : j = a := by omega
            assumption)
        exact gT_k e' ⟨rfl, trivial⟩ rfl
    · refine gT_n 2 ?_
      refine ⟨fun _ => ?_, fun c => absurd c (by decide)⟩
      exact gT_k (m_readsT hT ⟨ha0, by omega, hno, by omega⟩ hfr h19 h21) ⟨rfl, trivial⟩ rfl
  refine gT_n 3 ?_
  refine ⟨rfl, fun _ => ?_, fun c => absurd (kpT (p := fun z : Int32 => z ≤ 0) (show _ = (0 : Int32) from h190) (by decide)) c⟩
  exact gT_k (loop a0 ha0n X0 xFr_s h190 h210 (Nat.le_refl _) (fun j h1 h2 => absurd h1 (by omega))) ⟨rfl, trivial⟩ rfl
theorem sg_b {n : Nat} {b : Nat → Nat} {q : tk3} (h : tIs n b q) (h3 : 3 ≤ q.2.2) : q.2.2 = sgn (b q.1) ∧ b q.1 < 2 ^ 31 ∨ True := Or.inr trivial
theorem isK_sg {n : Nat} {b : Nat → Nat} {q : tk3} (h : tIs n b q) (h3 : 3 ≤ q.2.2) : q.2.2 = sgn (b q.1) := by
  obtain ⟨a, q', h1, h2⟩ := h
  by_cases c : tBad q'
  · exact absurd ((pif_pos c).mp h2) (by simp)
  · have e := (pif_neg c).mp h2
    cases e
    have g := h1.2
    by_cases c1 : q.1 < n
    · have g := (pif_pos c1).mp g
      by_cases c2 : 97 ≤ b q.1 ∧ b q.1 ≤ 122
      · have := ((pif_pos c2).mp g).1; omega
      · have g := (pif_neg c2).mp g
        by_cases c3 : 48 ≤ b q.1 ∧ b q.1 ≤ 57
        · have := ((pif_pos c3).mp g).1; omega
        · exact ((pif_neg c3).mp g).1
    · have := ((pif_neg c1).mp g).1; omega
theorem sgn_k {c k : Nat} (h : k = sgn c) : (k = 3 ↔ c = 46) ∧ (k = 4 ↔ c = 42) ∧ (k = 5 ↔ c = 59) := by
  unfold sgn at h
  by_cases d1 : c = 46
  · rw [if_pos d1] at h; omega
  · rw [if_neg d1] at h
    by_cases d2 : c = 42
    · rw [if_pos d2] at h; omega
    · rw [if_neg d2] at h
      by_cases d3 : c = 59
      · rw [if_pos d3] at h; omega
      · rw [if_neg d3] at h; omega
theorem tkc_3 {k : Nat} : nI (tkc k) = 3 ↔ 3 ≤ k := by
  unfold tkc
  by_cases c : k ≤ 2
  · rw [if_pos c]
    constructor
    · intro h
      have := (nI_eq (a := k) (b := 3) (by omega) (by omega)).mp h
      omega
    · intro h; omega
  · rw [if_neg c]
    exact ⟨fun _ => by omega, fun _ => rfl⟩
theorem tkc_s {k m : Nat} (hm : m ≤ 2) : nI (tkc k) = nI m ↔ k = m := by
  unfold tkc
  by_cases c : k ≤ 2
  · rw [if_pos c]; exact nI_eq (by omega) (by omega)
  · rw [if_neg c]
    constructor
    · intro h
      have := (nI_eq (a := 3) (b := m) (by omega) (by omega)).mp h
      omega
    · intro h; omega
theorem tIs_128 {n : Nat} {b : Nat → Nat} {q : tk3} (hb : ∀ k, k < n → b k < 128) (h : tIs n b q) (h0 : ¬ q.2.2 = 0) : b q.1 < 128 := by
  obtain ⟨a, h1⟩ := h
  have g := adv_r h1
  exact hb _ (by omega)
theorem m_isSign3 {d : Nat} {I X : Nat → Nat → Int32} {J Y : Nat → Nat → Int64} {P : Nat → Nat} {n : Nat} {b : Nat → Nat} (hT : tpm I n b) {q : tk3} (hta : tIs n b q) (hq : okT n b X q) : gTM d 184 [.ref 171, .int 46] (gST (xM I X) (xJ J Y) P) (gB (gST (xM I X) (xJ J Y) P) (q.2.2 = 3)) := by
  refine gT_n 4 ?_
  refine ⟨rfl, px_ne (X := (nI (tkc q.2.2))) (Y := (3)) (hq.2.2.2.1) (rfl) (fun κ1 => ?_) (fun κ1 => ?_)⟩
  · refine gT_n 2 ?_
    refine ⟨(Or.inl rfl), ?_⟩
    exact ⟨rfl, Or.inr ⟨rfl, fun c => κ1 (tkc_3.mpr (by omega))⟩⟩
  · refine gT_n 4 ?_
    refine ⟨rfl, px_ne (X := (vlc n b q)) (Y := (46)) (hq.2.2.2.2) (rfl) (fun κ2 => ?_) (fun κ2 => ?_)⟩
    · refine gT_n 2 ?_
      refine ⟨(Or.inl rfl), ?_⟩
      have h3 := tkc_3.mp κ1
      have e : vlc n b q = nI (b q.1) := by unfold vlc; rw [if_neg (by omega), if_neg (by omega)]
      exact ⟨rfl, Or.inr ⟨rfl, fun c => κ2 (by rw [e, (sgn_k (isK_sg hta h3)).1.mp c]; rfl)⟩⟩
    · refine gT_n 3 ?_
      refine ⟨(Or.inr rfl), ?_⟩
      have h3 := tkc_3.mp κ1
      have e : vlc n b q = nI (b q.1) := by unfold vlc; rw [if_neg (by omega), if_neg (by omega)]
      rw [e] at κ2
      have e2 := (nI_eq (a := b q.1) (b := 46) (by have := tIs_128 (fun k hk => (hT.2.2 k hk).2) hta (by omega); omega) (by omega)).mp κ2
      exact ⟨rfl, Or.inl ⟨rfl, (sgn_k (isK_sg hta h3)).1.mpr e2⟩⟩
theorem m_isSign4 {d : Nat} {I X : Nat → Nat → Int32} {J Y : Nat → Nat → Int64} {P : Nat → Nat} {n : Nat} {b : Nat → Nat} (hT : tpm I n b) {q : tk3} (hta : tIs n b q) (hq : okT n b X q) : gTM d 184 [.ref 171, .int 42] (gST (xM I X) (xJ J Y) P) (gB (gST (xM I X) (xJ J Y) P) (q.2.2 = 4)) := by
  refine gT_n 4 ?_
  refine ⟨rfl, px_ne (X := (nI (tkc q.2.2))) (Y := (3)) (hq.2.2.2.1) (rfl) (fun κ1 => ?_) (fun κ1 => ?_)⟩
  · refine gT_n 2 ?_
    refine ⟨(Or.inl rfl), ?_⟩
    exact ⟨rfl, Or.inr ⟨rfl, fun c => κ1 (tkc_3.mpr (by omega))⟩⟩
  · refine gT_n 4 ?_
    refine ⟨rfl, px_ne (X := (vlc n b q)) (Y := (42)) (hq.2.2.2.2) (rfl) (fun κ2 => ?_) (fun κ2 => ?_)⟩
    · refine gT_n 2 ?_
      refine ⟨(Or.inl rfl), ?_⟩
      have h3 := tkc_3.mp κ1
      have e : vlc n b q = nI (b q.1) := by unfold vlc; rw [if_neg (by omega), if_neg (by omega)]
      exact ⟨rfl, Or.inr ⟨rfl, fun c => κ2 (by rw [e, (sgn_k (isK_sg hta h3)).2.1.mp c]; rfl)⟩⟩
    · refine gT_n 3 ?_
      refine ⟨(Or.inr rfl), ?_⟩
      have h3 := tkc_3.mp κ1
      have e : vlc n b q = nI (b q.1) := by unfold vlc; rw [if_neg (by omega), if_neg (by omega)]
      rw [e] at κ2
      have e2 := (nI_eq (a := b q.1) (b := 42) (by have := tIs_128 (fun k hk => (hT.2.2 k hk).2) hta (by omega); omega) (by omega)).mp κ2
      exact ⟨rfl, Or.inl ⟨rfl, (sgn_k (isK_sg hta h3)).2.1.mpr e2⟩⟩
theorem m_isSign5 {d : Nat} {I X : Nat → Nat → Int32} {J Y : Nat → Nat → Int64} {P : Nat → Nat} {n : Nat} {b : Nat → Nat} (hT : tpm I n b) {q : tk3} (hta : tIs n b q) (hq : okT n b X q) : gTM d 184 [.ref 171, .int 59] (gST (xM I X) (xJ J Y) P) (gB (gST (xM I X) (xJ J Y) P) (q.2.2 = 5)) := by
  refine gT_n 4 ?_
  refine ⟨rfl, px_ne (X := (nI (tkc q.2.2))) (Y := (3)) (hq.2.2.2.1) (rfl) (fun κ1 => ?_) (fun κ1 => ?_)⟩
  · refine gT_n 2 ?_
    refine ⟨(Or.inl rfl), ?_⟩
    exact ⟨rfl, Or.inr ⟨rfl, fun c => κ1 (tkc_3.mpr (by omega))⟩⟩
  · refine gT_n 4 ?_
    refine ⟨rfl, px_ne (X := (vlc n b q)) (Y := (59)) (hq.2.2.2.2) (rfl) (fun κ2 => ?_) (fun κ2 => ?_)⟩
    · refine gT_n 2 ?_
      refine ⟨(Or.inl rfl), ?_⟩
      have h3 := tkc_3.mp κ1
      have e : vlc n b q = nI (b q.1) := by unfold vlc; rw [if_neg (by omega), if_neg (by omega)]
      exact ⟨rfl, Or.inr ⟨rfl, fun c => κ2 (by rw [e, (sgn_k (isK_sg hta h3)).2.2.mp c]; rfl)⟩⟩
    · refine gT_n 3 ?_
      refine ⟨(Or.inr rfl), ?_⟩
      have h3 := tkc_3.mp κ1
      have e : vlc n b q = nI (b q.1) := by unfold vlc; rw [if_neg (by omega), if_neg (by omega)]
      rw [e] at κ2
      have e2 := (nI_eq (a := b q.1) (b := 59) (by have := tIs_128 (fun k hk => (hT.2.2 k hk).2) hta (by omega); omega) (by omega)).mp κ2
      exact ⟨rfl, Or.inl ⟨rfl, (sgn_k (isK_sg hta h3)).2.2.mpr e2⟩⟩
