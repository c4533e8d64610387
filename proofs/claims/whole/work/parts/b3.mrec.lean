/-! records read: the reference -/
def rNw (l : zR) (m i : Nat) (sv : Int32) : Prop := ∀ j, j < i → ¬ ((rg l j).1 = m ∧ nI (rg l j).2.1 = sv)
def rNc (l : zR) (m i : Nat) (sv c : Int32) : Prop := (c = 1 ∧ rNw l m i sv) ∨ (c = 0 ∧ ¬ rNw l m i sv)
theorem rNc_0 {l : zR} {m i : Nat} {sv c : Int32} (h : rNc l m i sv c) (e : c = 0) : ¬ rNw l m i sv := by
  rcases h with g | g
  · exact absurd (g.1.symm.trans e) (by decide)
  · exact g.2
theorem rNc_1 {l : zR} {m i : Nat} {sv c : Int32} (h : rNc l m i sv c) (e : ¬ c = 0) (g : ¬ ((rg l i).1 = m ∧ nI (rg l i).2.1 = sv)) : rNw l m (i + 1) sv := by
  rcases h with k | k
  · intro j hj
    rcases Nat.lt_or_ge j i with a | a
    · exact k.2 j a
    · obtain rfl : j = i := by omega
      exact g
  · exact absurd k.1 e
theorem rNw_all {l : zR} {m so : Nat} (hr : rOK l) (hs : so < 3) : rNw l m l.length (nI so) ↔ rno l m so := by
  constructor
  · intro h i hi e
    exact h i hi ⟨e.1, congrArg nI e.2⟩
  · intro h i hi e
    exact h i hi ⟨e.1, (nI_eq (by have := (hr.2.1 _ (rg_mem hi)).2.1; omega) (by omega)).mp e.2⟩
theorem m_recL {d m : Nat} {l : zR} {sv vv : Int32} {Q : Option Value → gW → Prop} {I X : Nat → Nat → Int32} {J Y : Nat → Nat → Int64} {P : Nat → Nat} (hr : rOK l) (hD : mR (X 171 33) (Y 189) (X 190) (X 191) l) (hm : vn m) (hK : ∀ c, rNc l m l.length sv c → gT d 193 90 [(6, .int (nI l.length)), (5, .int c), (0, .ref 171), (1, .long (lN (mo m))), (3, .int sv), (4, .int vv)] [] (0, 0) (gST (xM I X) (xJ J Y) P) Q) : ∀ i, i ≤ l.length → ∀ c, rNc l m i sv c → gT d 193 40 [(6, .int (nI i)), (5, .int c), (0, .ref 171), (1, .long (lN (mo m))), (3, .int sv), (4, .int vv)] [] (0, 0) (gST (xM I X) (xJ J Y) P) Q := by
  have h4 := hr.1
  refine loopU l.length (fun i hi ih => ?_)
  intro c hc
  refine gT_n 4 ?_
  refine ⟨rfl, pk_le l.length i (fun κ1 => ?_) (fun κ1 => ?_) (hD.1) (rfl) (by omega) (by omega)⟩
  · obtain rfl : i = l.length := by omega
    exact gT_k (hK c hc) ⟨rfl, rfl, rfl, rfl, rfl, rfl, trivial⟩ rfl
  · refine gT_n 2 ?_
    refine px_eq (X := c) (Y := (0)) (rfl) (rfl) (fun κ2 => ?_) (fun κ2 => ?_)
    · refine gT_n 4 ?_
      have e' := ih (i + 1) (by omega) (by omega) 0 (Or.inr ⟨rfl, fun h => rNc_0 hc κ2 (fun j hj => h j (by omega))⟩)
      exact gT_k e' ⟨viI (nI_1 i), rfl, rfl, rfl, rfl, rfl, trivial⟩ rfl
    · refine gT_n 7 ?_
      refine ⟨rfl, rfl, (pk_in i 25 (by omega) (rfl)), pm_ne (((rg l i).1)) m (fun κ3 => ?_) (fun κ3 => ?_) ((rdJ (rfl) (by omega) (hD.2 i (by omega)).1)) (rfl) (((hr.2.1 _ (rg_mem (i := i) (by omega))).1)) (hm)⟩
      · refine gT_n 5 ?_
        have e' := ih (i + 1) (by omega) (by omega) 1 (Or.inl ⟨rfl, rNc_1 hc κ2 (fun e => κ3 e.1)⟩)
        exact gT_k e' ⟨viI (nI_1 i), rfl, rfl, rfl, rfl, rfl, trivial⟩ rfl
      · refine gT_n 6 ?_
        refine ⟨rfl, rfl, (pk_in i 25 (by omega) (rfl)), px_eq (X := (nI (rg l i).2.1)) (Y := sv) ((rdI (rfl) (by omega) (hD.2 i (by omega)).2.1)) (rfl) (fun κ4 => ?_) (fun κ4 => ?_)⟩
        · refine gT_n 4 ?_
          have e' := ih (i + 1) (by omega) (by omega) 0 (Or.inr ⟨rfl, fun h => h i (by omega) ⟨κ3, κ4⟩⟩)
          exact gT_k e' ⟨viI (nI_1 i), rfl, rfl, rfl, rfl, rfl, trivial⟩ rfl
        · refine gT_n 5 ?_
          have e' := ih (i + 1) (by omega) (by omega) 1 (Or.inl ⟨rfl, rNc_1 hc κ2 (fun e => κ4 e.2)⟩)
          exact gT_k e' ⟨viI (nI_1 i), rfl, rfl, rfl, rfl, rfl, trivial⟩ rfl
theorem m_recF {d m : Nat} {c sv vv : Int32} {D : zD} {q : tk3} {f : zF} {I X1 : Nat → Nat → Int32} {J Y : Nat → Nat → Int64} {P : Nat → Nat} {n : Nat} {b : Nat → Nat} (hr : rRq n b D q (.inl f)) (ho : fT X1 f) (hb : b8 X1) : gT (d + 5) 193 90 [(6, .int (nI D.2.1.length)), (5, .int c), (0, .ref 171), (1, .long (lN (mo m))), (3, .int sv), (4, .int vv)] [] (0, 0) (gST (xM I X1) (xJ J Y) P) (fun r u => r = none ∧ ∃ rr X' Y', rRq n b D q rr ∧ u = gST (xM I X') (xJ J Y') P ∧ mOut n X' Y' rr) := by
  refine gT_n 4 ?_
  refine ⟨rfl, px_gt (X := f.1) (Y := (0)) (ho.1) (rfl) (fun κ1 => ?_) (fun κ1 => ?_)⟩
  · refine gT_n 4 ?_
    refine ⟨rfl, rfl, gTM.use (m_mustF ho.1 ho.2.2) (Nat.le_refl _) (fun r u hq => ?_)⟩
    obtain ⟨xx, rfl, rfl⟩ := hq  -- X12_must[R171, K1, K5]
    refine gT_n 4 ?_
    refine ⟨rfl, px_ne (X := f.1) (Y := (0)) (ho.1) (rfl) (fun κ2 => ?_) (fun κ2 => ?_)⟩
    · refine gT_n 1 ?_
      refine ⟨rfl, ?_⟩
      exact ⟨rfl, .inl f, X1, Y, hr, rfl, ho, hb⟩
    · exact absurd (by assumption) (fun e : f.1 = 0 => absurd ho.2.2 (by rw [e]; decide))
  · exact absurd ho.2.2 (by assumption)
theorem mR_ap2 {c : Int32} {jn : Nat → Int64} {is iv : Nat → Int32} {l : zR} {m so v : Nat} (h : mR c jn is iv l) : mR (nI (l.length + 1)) (vp_updL jn l.length (lN (mo m))) (upd is l.length (nI so)) (upd iv l.length (nI v)) (l ++ [(m, so, v)]) := by
  refine ⟨by rw [List.length_append]; rfl, fun i hi => ?_⟩
  rw [List.length_append] at hi
  have hi : i < l.length + 1 := hi
  by_cases e : i = l.length
  · have eg : rg (l ++ [(m, so, v)]) i = (m, so, v) := by
      unfold rg
      rw [e, List.getD_eq_getElem?_getD, List.getElem?_append_right (Nat.le_refl _), Nat.sub_self]; rfl
    rw [eg, updL_y e, upd_y e, upd_y e]
    exact ⟨rfl, rfl, rfl⟩
  · have eg : rg (l ++ [(m, so, v)]) i = rg l i := by
      unfold rg
      rw [List.getD_eq_getElem?_getD, List.getD_eq_getElem?_getD, List.getElem?_append_left (by omega)]
    rw [eg, updL_ne e, upd_ne e, upd_ne e]
    exact h.2 i (by omega)
theorem dfm_rec {X : Nat → Nat → Int32} {Y : Nat → Nat → Int64} {D : zD} {m so v : Nat} (h : dfm X Y D) : dfm (gupI (gupI (gupI X 190 D.2.1.length (nI so)) 191 D.2.1.length (nI v)) 171 33 (nI (D.2.1.length + 1))) (gupL Y 189 D.2.1.length (lN (mo m))) (D.1, D.2.1 ++ [(m, so, v)], D.2.2) := ⟨h.1, h.2.1, h.2.2.1, mR_ap2 h.2.2.2.1, h.2.2.2.2.1, h.2.2.2.2.2⟩
theorem m_recK {d m so : Nat} {c : Int32} {D : zD} {q q1 q2 q3 : tk3} {I X1 : Nat → Nat → Int32} {J Y : Nat → Nat → Int64} {P : Nat → Nat} {n : Nat} {b : Nat → Nat} (hc : rNc D.2.1 m D.2.1.length (nI so) c) (hnm : rNa n b q (.inr (m, q1))) (hsw : soW b q1 so) (hs3 : so < 3) (hq2a : adv n b q1.2.1 (.inr q2)) (hnu : rNu n b 0 99 q2 (.inr q3)) (hq3 : okT n b X1 q3) (hk5 : q3.2.2 = 5) (hD1 : dfm X1 Y D) (hO : dOK D) (h24 : D.2.1.length < 24) (hvm : vn m) : gT (d + 5) 193 90 [(6, .int (nI D.2.1.length)), (5, .int c), (0, .ref 171), (1, .long (lN (mo m))), (3, .int (nI so)), (4, .int (nI ((num b q2))))] [] (0, 0) (gST (xM I X1) (xJ J Y) P) (fun r u => r = none ∧ ∃ rr X' Y', rRq n b D q rr ∧ u = gST (xM I X') (xJ J Y') P ∧ mOut n X' Y' rr) := by
  rcases hc with ⟨rfl, g⟩ | ⟨rfl, g⟩
  · have hn := (rNw_all hO.2.1 hs3).mp g
    refine gT_n 4 ?_
    refine ⟨rfl, fun c => absurd c (kpT (p := fun z : Int32 => ¬ (0 < z)) (show _ = (0 : Int32) from hq3.1) (by decide)), fun _ => ?_⟩
    refine gT_n 2 ?_
    refine ⟨fun c => absurd c (by decide), fun _ => ?_⟩
    refine gT_n 4 ?_
    refine ⟨rfl, rfl, gTM.use (m_must1 (c := 5)) (Nat.le_refl _) (fun r u hq => ?_)⟩
    obtain ⟨xx, rfl, rfl⟩ := hq  -- X12_must[R171, K1, K5]
    refine gT_n 4 ?_
    refine ⟨rfl, fun c => absurd c (kpT (p := fun z : Int32 => ¬ (¬ z = 0)) (show _ = (0 : Int32) from hq3.1) (by decide)), fun _ => ?_⟩
    refine gT_n 6 ?_
    refine ⟨rfl, rfl, rfl, (pk_inS (m := 25) (k := D.2.1.length) (rfl) (by omega) (hD1.2.2.2.1.1)), ?_⟩
    refine gT_xN (b := 189) rfl (n := D.2.1.length) (X := (lN (mo m))) (hD1.2.2.2.1.1) (by omega) (rfl) ?_
    refine gT_n 6 ?_
    refine ⟨rfl, rfl, rfl, (pk_inS (m := 25) (k := D.2.1.length) (rfl) (by omega) (hD1.2.2.2.1.1)), ?_⟩
    refine gT_xA (b := 190) rfl (n := D.2.1.length) (X := (nI so)) (hD1.2.2.2.1.1) (by omega) (rfl) ?_
    refine gT_n 6 ?_
    refine ⟨rfl, rfl, rfl, (pk_inS (m := 25) (k := D.2.1.length) (rfl) (by omega) (hD1.2.2.2.1.1)), ?_⟩
    refine gT_xA (b := 191) rfl (n := D.2.1.length) (X := (nI ((num b q2)))) (hD1.2.2.2.1.1) (by omega) (rfl) ?_
    refine gT_n 6 ?_
    refine ⟨rfl, rfl, ?_⟩
    refine gT_xP rfl (X := (nI (D.2.1.length + 1))) (pk_addE (n := D.2.1.length) (k := 1) (hD1.2.2.2.1.1) (rfl)) ?_
    refine gT_n 1 ?_
    refine ⟨rfl, ?_⟩
    exact ⟨rfl, .inr ((D.1, D.2.1 ++ [(m, so, num b q2)], D.2.2), q3.2.1), _, _, rRq_s hnm hsw (rc_k hq2a hnu hk5 ((pif_pos hn).mpr rfl)), rfl, dfm_rec hD1, ⟨hO.1, rapp_ok hO.2.1 h24 hvm hs3 (num_99 hq2a (rNu_r hnu).1) hn, hO.2.2⟩, hq3.1, hq3.2.1, (adv_r (rNu_r hnu).2.2).2.2.1⟩
  · refine gT_n 4 ?_
    refine ⟨rfl, fun c => absurd c (kpT (p := fun z : Int32 => ¬ (0 < z)) (show _ = (0 : Int32) from hq3.1) (by decide)), fun _ => ?_⟩
    refine gT_n 2 ?_
    refine ⟨fun _ => ?_, fun c => absurd (by decide) c⟩
    refine gT_n 3 ?_
    refine ⟨rfl, rfl, gTM.use (m_must0 (c := 5) (h := nI q3.1) hq3.1 hq3.2.2.1) (Nat.le_refl _) (fun r u hq => ?_)⟩
    obtain ⟨xx, rfl, rfl⟩ := hq  -- X12_must[R171, K0, K5]
    refine gT_n 4 ?_
    refine ⟨rfl, fun _ => ?_, fun c => absurd c (kpT (p := fun z : Int32 => ¬ z = 0) (show _ = (5 : Int32) from rfl) (by decide))⟩
    refine gT_n 1 ?_
    refine ⟨rfl, ?_⟩
    exact ⟨rfl, .inl (5, q3.1), _, Y, rRq_s hnm hsw (rc_k hq2a hnu hk5 ((pif_neg (fun h => g ((rNw_all hO.2.1 hs3).mpr h))).mpr rfl)), rfl, fT_s (by decide), hD1.2.2.1⟩
theorem m_readsRecord {d : Nat} {I X : Nat → Nat → Int32} {J Y : Nat → Nat → Int64} {P : Nat → Nat} {n : Nat} {b : Nat → Nat} (hT : tpm I n b) {q : tk3} (hta : tIs n b q) (hq : okT n b X q) {D : zD} (hD : dfm X Y D) (hO : dOK D) (h24 : D.2.1.length < 24) : gTM (d + 5) 193 [.ref 171] (gST (xM I X) (xJ J Y) P) (fun r u => r = none ∧ ∃ rr X' Y', rRq n b D q rr ∧ u = gST (xM I X') (xJ J Y') P ∧ mOut n X' Y' rr) := by
  refine gT_n 2 ?_
  refine ⟨rfl, rfl, gTM.use (m_readsName hT hta hq) (Nat.le_refl _) (fun r u hq => ?_)⟩
  obtain ⟨f, X1, hnm, ⟨m, rfl, hvm⟩, rfl, hfx, ho⟩ | ⟨m, q1, X1, hnm, rfl, rfl, hfx, hq1, ht1, hvm⟩ := hq  -- X12_readsName[R171]
  · have hD1 := dfm_fr hfx hD
    refine gT_n 3 ?_
    refine ⟨rfl, rfl, gTM.use (m_readsSortF ho.1 ho.2.2) (Nat.le_refl _) (fun r u hq => ?_)⟩
    obtain ⟨xs, rfl, rfl⟩ := hq  -- X12_readsSort[R171]
    refine gT_n 4 ?_
    refine ⟨rfl, px_le (X := f.1) (Y := (0)) (ho.1) (rfl) (fun κ1 => ?_) (fun κ1 => ?_)⟩
    · exact absurd ho.2.2 (Int32.not_lt.mpr (by assumption))
    · refine gT_n 5 ?_
      refine ⟨rfl, rfl, gTM.use (m_endsF ho.1 ho.2.2) (Nat.le_refl _) (fun r u hq => ?_)⟩
      obtain ⟨rfl, rfl⟩ := hq  -- X12_ends[R171]
      refine gT_n 4 ?_
      exact gT_k (m_recL (l := D.2.1) (m := m) (X := X1) hO.2.1 hD1.2.2.2.1 hvm (fun c _ => m_recF ⟨_, hnm, rfl⟩ ho hD1.2.2.1) 0 (Nat.zero_le _) 1 (Or.inl ⟨rfl, fun j hj => absurd hj (Nat.not_lt_zero j)⟩)) ⟨rfl, rfl, rfl, rfl, rfl, rfl, trivial⟩ rfl
  · have hD1 := dfm_fr hfx hD
    refine gT_n 3 ?_
    refine ⟨rfl, rfl, gTM.use (m_readsSort hT ht1 hq1) (Nat.le_refl _) (fun r u hq => ?_)⟩
    obtain ⟨f, X2, hff, ⟨xs, rfl⟩, rfl, hfx2, ho⟩ | ⟨so, q2, X2, hsw, hs3, hq2a, rfl, rfl, hfx2, hq2⟩ := hq  -- X12_readsSort[R171]
    · have hD2 := dfm_fr (fr2_x hfx2) hD1
      have hRF2 : rRq n b D q (.inl f) := by
        rcases hff with ⟨h1, rfl⟩ | ⟨so, h1, h2⟩
        · exact rRq_n hnm h1
        · exact rRq_s hnm h1 (rc_f1 h2)
      refine gT_n 4 ?_
      refine ⟨rfl, px_le (X := f.1) (Y := (0)) (ho.1) (rfl) (fun κ2 => ?_) (fun κ2 => ?_)⟩
      · exact absurd ho.2.2 (Int32.not_lt.mpr (by assumption))
      · refine gT_n 5 ?_
        refine ⟨rfl, rfl, gTM.use (m_endsF ho.1 ho.2.2) (Nat.le_refl _) (fun r u hq => ?_)⟩
        obtain ⟨rfl, rfl⟩ := hq  -- X12_ends[R171]
        refine gT_n 4 ?_
        exact gT_k (m_recL (l := D.2.1) (m := m) (X := X2) hO.2.1 hD2.2.2.2.1 hvm (fun c _ => m_recF hRF2 ho hD2.2.2.1) 0 (Nat.zero_le _) 1 (Or.inl ⟨rfl, fun j hj => absurd hj (Nat.not_lt_zero j)⟩)) ⟨rfl, rfl, rfl, rfl, rfl, rfl, trivial⟩ rfl
    · have hD2 := dfm_fr (fr2_x hfx2) hD1
      refine gT_n 4 ?_
      refine ⟨rfl, fun _ => ?_, fun c => absurd (kpT (p := fun z : Int32 => z ≤ 0) (show _ = (0 : Int32) from hq2.1) (by decide)) c⟩
      refine gT_n 4 ?_
      refine ⟨rfl, rfl, gTM.use (m_number0 hT ⟨_, hq2a⟩ hq2) (Nat.le_refl _) (fun r u hq => ?_)⟩
      obtain ⟨f, X3, hnu, ⟨xn, rfl⟩, rfl, hfx3, ho⟩ | ⟨q3, X3, hnu, rfl, rfl, hfx3, hq3⟩ := hq  -- X12_number[R171, K0, K99]
      · have hD3 := dfm_fr (fr2_x hfx3) hD2
        refine gT_n 3 ?_
        refine ⟨rfl, rfl, gTM.use (m_endsF ho.1 ho.2.2) (Nat.le_refl _) (fun r u hq => ?_)⟩
        obtain ⟨rfl, rfl⟩ := hq  -- X12_ends[R171]
        refine gT_n 4 ?_
        exact gT_k (m_recL (l := D.2.1) (m := m) (X := X3) hO.2.1 hD3.2.2.2.1 hvm (fun c _ => m_recF (rRq_s hnm hsw (rc_f2 hq2a hnu)) ho hD3.2.2.1) 0 (Nat.zero_le _) 1 (Or.inl ⟨rfl, fun j hj => absurd hj (Nat.not_lt_zero j)⟩)) ⟨rfl, rfl, rfl, rfl, rfl, rfl, trivial⟩ rfl
      · have hD3 := dfm_fr (fr2_x hfx3) hD2
        refine gT_n 3 ?_
        refine ⟨rfl, rfl, gTM.use (m_ends hT ⟨_, (rNu_r hnu).2.2⟩ hq3) (Nat.le_refl _) (fun r u hq => ?_)⟩
        obtain ⟨rfl, ⟨hk5, rfl⟩ | ⟨hk5, rfl⟩⟩ := hq  -- X12_ends[R171]
        · refine gT_n 4 ?_
          exact gT_k (m_recL (l := D.2.1) (m := m) (X := X3) hO.2.1 hD3.2.2.2.1 hvm (fun c hc => m_recK hc hnm hsw hs3 hq2a hnu hq3 hk5 hD3 hO h24 hvm) 0 (Nat.zero_le _) 1 (Or.inl ⟨rfl, fun j hj => absurd hj (Nat.not_lt_zero j)⟩)) ⟨rfl, rfl, rfl, rfl, rfl, rfl, trivial⟩ rfl
        · refine gT_n 4 ?_
          exact gT_k (m_recL (l := D.2.1) (m := m) (X := gupI (gupI X3 171 19 2) 171 20 (nI q3.1)) hO.2.1 hD3.2.2.2.1 hvm (fun c _ => m_recF (f := (2, q3.1)) (rRq_s hnm hsw (rc_f3 hq2a hnu hk5)) (fT_s (by decide)) hD3.2.2.1) 0 (Nat.zero_le _) 1 (Or.inl ⟨rfl, fun j hj => absurd hj (Nat.not_lt_zero j)⟩)) ⟨rfl, rfl, rfl, rfl, rfl, rfl, trivial⟩ rfl
