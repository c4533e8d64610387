/-! zones above a zone -/
def zc (t : zT) (z : Nat) : Nat → Nat
  | 0 => z
  | k + 1 => zpa t (zc t z k)
theorem zc_lt {t : zT} {z : Nat} (hz : zOK t) (h : z < t.1) : ∀ k, zc t z k < t.1
  | 0 => h
  | k + 1 => zof_lt hz _
theorem zc_s {t : zT} {z : Nat} : ∀ k, zc t z (k + 1) = zc t (zpa t z) k
  | 0 => rfl
  | k + 1 => congrArg (zpa t) (zc_s k)
theorem cnt_par {t : zT} {c : Nat} (hz : zOK t) (hc : c < t.1) (h0 : ¬ c = 0) : cnt (t.2.1 (zpa t c)) < cnt (t.2.1 c) := by
  have hv := hz.2.2.2.2.1 c hc
  have hn0 : ¬ t.2.1 c = 0 := fun e => by
    have := hz.2.2.2.2.2 c 0 hc (by omega) (e.trans hz.2.2.1.symm); omega
  have hp := cnt_pos hv hn0
  have h4 := cnt_le (t.2.1 c)
  have hf : vn (nfst (t.2.1 c) (cnt (t.2.1 c) - 1)) := vn_fst hv (by omega)
  have e := congrArg cnt (zof_pre hz hf.lt)
  rw [nfst_cnt hf.1 (cnt_le _), nfst_cnt hv.1 (by omega)] at e
  show cnt (t.2.1 (zof t (nfst (t.2.1 c) (cnt (t.2.1 c) - 1)))) < _
  omega
theorem zpa_0 {t : zT} (hz : zOK t) : zpa t 0 = 0 := by
  have h := zof_pre hz (n := nfst (t.2.1 0) (cnt (t.2.1 0) - 1)) (by rw [hz.2.2.1]; decide)
  have h1 := zof_le hz (n := nfst (t.2.1 0) (cnt (t.2.1 0) - 1)) (by rw [hz.2.2.1]; decide)
  have h2 := nfst_le (t.2.1 0) (cnt (t.2.1 0) - 1)
  rw [hz.2.2.1] at h2
  have h3 : t.2.1 (zpa t 0) = 0 := by
    have : t.2.1 (zpa t 0) ≤ nfst (t.2.1 0) (cnt (t.2.1 0) - 1) := h1
    rw [hz.2.2.1] at this
    omega
  exact hz.2.2.2.2.2 _ 0 (zof_lt hz _) hz.1 (h3.trans hz.2.2.1.symm)
theorem zc_3 {t : zT} {z : Nat} (hz : zOK t) (h : z < t.1) : zc t z 3 = 0 := by
  have h4 := hz.2.1
  by_cases a0 : z = 0
  · subst a0
    show zpa t (zpa t (zpa t 0)) = 0
    rw [zpa_0 hz, zpa_0 hz, zpa_0 hz]
  · have l1 := zc_lt hz h 1
    have c1 := cnt_par hz h a0
    by_cases a1 : zpa t z = 0
    · show zpa t (zpa t (zpa t z)) = 0
      rw [a1, zpa_0 hz, zpa_0 hz]
    · have l2 := zc_lt hz h 2
      have c2 : cnt (t.2.1 (zpa t (zpa t z))) < cnt (t.2.1 (zpa t z)) := cnt_par hz l1 a1
      by_cases a2 : zpa t (zpa t z) = 0
      · show zpa t (zpa t (zpa t z)) = 0
        rw [a2, zpa_0 hz]
      · have l3 := zc_lt hz h 3
        have c3 := cnt_par hz l2 a2
        by_cases a3 : zc t z 3 = 0
        · exact a3
        · exfalso
          have e1 : zc t z 1 = zpa t z := rfl
          have e2 : zc t z 2 = zpa t (zpa t z) := rfl
          have e3 : zc t z 3 = zpa t (zpa t (zpa t z)) := rfl
          rw [e1] at l1; rw [e2] at l2; rw [e3] at l3 a3
          have n01 : ¬ zpa t z = z := fun e => by rw [e] at c1; omega
          have n12 : ¬ zpa t (zpa t z) = zpa t z := fun e => by rw [e] at c2; omega
          have n23 : ¬ zpa t (zpa t (zpa t z)) = zpa t (zpa t z) := fun e => by
            have c3' : cnt (t.2.1 (zpa t (zpa t (zpa t z)))) < cnt (t.2.1 (zpa t (zpa t z))) := c3
            rw [e] at c3'; omega
          have n02 : ¬ zpa t (zpa t z) = z := fun e => by rw [e] at c2; omega
          have n13 : ¬ zpa t (zpa t (zpa t z)) = zpa t z := fun e => by
            have c3' : cnt (t.2.1 (zpa t (zpa t (zpa t z)))) < cnt (t.2.1 (zpa t (zpa t z))) := c3
            rw [e] at c3'
            have c2' : cnt (t.2.1 (zpa t (zpa t z))) < cnt (t.2.1 (zpa t z)) := c2
            omega
          have n03 : ¬ zpa t (zpa t (zpa t z)) = z := fun e => by
            have c3' : cnt (t.2.1 (zpa t (zpa t (zpa t z)))) < cnt (t.2.1 (zpa t (zpa t z))) := c3
            rw [e] at c3'
            have c2' : cnt (t.2.1 (zpa t (zpa t z))) < cnt (t.2.1 (zpa t z)) := c2
            omega
          omega
theorem zc_ge {t : zT} {z : Nat} (hz : zOK t) (h : z < t.1) : ∀ k, 3 ≤ k → zc t z k = 0 := by
  intro k
  induction k with
  | zero => intro c; omega
  | succ k ih =>
    intro c
    by_cases e : k = 2
    · subst e; exact zc_3 hz h
    · show zpa t (zc t z k) = 0
      rw [ih (by omega), zpa_0 hz]
/-- signed, and all above it -/
def aSg (t : zT) (z : Nat) : Prop := ∀ k, t.2.2.1 (zc t z k) = true
theorem aSg_0 {t : zT} (hz : zOK t) : aSg t 0 := by
  intro k
  have : zc t 0 k = 0 := by
    induction k with
    | zero => rfl
    | succ k ih => show zpa t (zc t 0 k) = 0; rw [ih, zpa_0 hz]
  rw [this]; exact hz.2.2.2.1
theorem aSg_s {t : zT} {z : Nat} : aSg t z ↔ (t.2.2.1 z = true ∧ aSg t (zpa t z)) := by
  constructor
  · exact fun h => ⟨h 0, fun k => by rw [← zc_s]; exact h (k + 1)⟩
  · rintro ⟨h0, h⟩ k
    cases k with
    | zero => exact h0
    | succ k => rw [zc_s]; exact h k
theorem c_sgDown {d z : Nat} {t : zT} {I : Nat → Nat → Int32} {J : Nat → Nat → Int64} {P : Nat → Nat} (hz : zOK t) (hT : cTr I J t) (hzz : z < t.1) : gTM (d + 1) 91 [.ref 12, .int (nI z)] (gST I J P) (gB (gST I J P) (aSg t z)) := by
  have h4 := hz.2.1
  have loop : ∀ k, k ≤ 4 → (∀ j, j < k → t.2.2.1 (zc t z j) = true) → gT (d + 1) 91 4 [(3, .int (nI k)), (2, .int (nI ((zc t z k)))), (0, .ref 12), (1, .int (nI z))] [] (0, 0) (gST I J P) (gB (gST I J P) (aSg t z)) := by
    refine loopU 4 (fun k hk4 ih hs => ?_)
    have hk := zc_lt hz hzz k
    refine gT_n 3 ?_
    refine pk_le 4 k (fun κ1 => ?_) (fun κ1 => ?_) (rfl) (rfl) (by omega) (by omega)
    · refine gT_n 2 ?_
      refine ⟨(Or.inr rfl), ?_⟩
      exact ⟨rfl, Or.inl ⟨rfl, fun j => by
        rcases Nat.lt_or_ge j k with g | g
        · exact hs j g
        · rw [zc_ge hz hzz j (by omega)]; exact hz.2.2.2.1⟩⟩
    · refine gT_n 3 ?_
      refine ⟨rfl, rfl, gTM.use (c_has1 hz hT.1 ⟨_, hk, rfl⟩) (Nat.le_refl _) (fun r u hq => ?_)⟩
      obtain ⟨rfl, rfl⟩ := hq  -- X8_has[R12, nI ((zc t z k))]
      refine gT_n 1 ?_
      refine ⟨fun c => absurd c (by decide), fun _ => ?_⟩
      refine gT_n 5 ?_
      refine ⟨rfl, (Or.inr rfl), (pk_in ((zc t z k)) 4 (by omega) (rfl)), px_ne (X := (bI (t.2.2.1 (zc t z k)))) (Y := (0)) ((rdI (rfl) (by omega) (hT.1.2.2.2.1 _ hk))) (rfl) (fun κ2 => ?_) (fun κ2 => ?_)⟩
      · refine gT_n 5 ?_
        refine ⟨rfl, rfl, (pk_in ((zc t z k)) 4 (by omega) (rfl)), ?_⟩
        refine gT_k (L := [(2, .int (zpI t (zc t z k))), (3, .int (nI k)), (0, .ref 12), (1, .int (nI z))]) ?_ ⟨(viI ((rdI (rfl) (by omega) (hT.2.2 _ hk)))), rfl, rfl, rfl, trivial⟩ rfl
        have hsk : ∀ j, j < k + 1 → t.2.2.1 (zc t z j) = true := fun j hj => by
          by_cases g : j = k
          · rw [g]; exact bI_1 κ2
          · exact hs j (by omega)
        by_cases g0 : zc t z k = 0
        · refine gT_k (L := [(2, .int (-4)), (3, .int (nI k)), (0, .ref 12), (1, .int (nI z))]) ?_ ⟨viI (by unfold zpI; rw [if_pos g0]), rfl, rfl, rfl, trivial⟩ rfl
          have hall : aSg t z := fun j => by
            rcases Nat.lt_or_ge j (k + 1) with q | q
            · exact hsk j q
            · have : ∀ i, zc t z (k + i) = 0 := fun i => by
                induction i with
                | zero => exact g0
                | succ i ih => show zpa t (zc t z (k + i)) = 0; rw [ih, zpa_0 hz]
              have e := this (j - k)
              rw [show k + (j - k) = j by omega] at e
              rw [e]; exact hz.2.2.2.1
          refine gT_n 5 ?_
          refine pk_le 4 (k + 1) (fun κ1 => ?_) (fun κ1 => ?_) (rfl) (nI_1 _) (by omega) (by omega)
          · refine gT_n 2 ?_
            refine ⟨(Or.inr rfl), ?_⟩
            exact ⟨rfl, Or.inl ⟨rfl, hall⟩⟩
          · refine gT_n 3 ?_
            refine ⟨rfl, rfl, gTM.use (c_has0 hz hT.1 (fun ⟨j, _, e⟩ => nI_neg (n := j) rfl (by omega) e.symm)) (Nat.le_refl _) (fun r u hq => ?_)⟩
            obtain ⟨rfl, rfl⟩ := hq  -- X8_has[R12, K-4]
            refine gT_n 1 ?_
            refine ⟨fun _ => ?_, fun c => absurd (by decide) c⟩
            refine gT_n 2 ?_
            refine ⟨(Or.inr rfl), ?_⟩
            exact ⟨rfl, Or.inl ⟨rfl, hall⟩⟩
        · refine gT_k (L := [(2, .int (nI (zc t z (k + 1)))), (3, .int (nI k)), (0, .ref 12), (1, .int (nI z))]) ?_ ⟨viI (by unfold zpI; rw [if_neg g0]; rfl), rfl, rfl, rfl, trivial⟩ rfl
          refine gT_n 2 ?_
          exact gT_k (ih (k + 1) (by omega) (by omega) hsk) ⟨viI (nI_1 k), rfl, rfl, rfl, trivial⟩ rfl
      · refine gT_n 2 ?_
        refine ⟨(Or.inl rfl), ?_⟩
        exact ⟨rfl, Or.inr ⟨rfl, fun q => absurd (q k) (by rw [bI_0 κ2]; decide)⟩⟩
  refine gT_n 4 ?_
  exact loop 0 (by omega) (fun j hj => absurd hj (by omega))
theorem gTB_iff {d y pc : Nat} {L : gL} {st : List Value} {cu : Nat × Nat} {w u : gW} {A B : Prop} (h : gT d y pc L st cu w (gB u A)) (e : A ↔ B) : gT d y pc L st cu w (gB u B) := by
  rw [← propext e]; exact h
theorem m_areSigned {d z : Nat} {t : zT} {I : Nat → Nat → Int32} {J : Nat → Nat → Int64} {P : Nat → Nat} (hz : zOK t) (hT : mT (I 171 2) (J 172) (I 173) t) (hzz : z < t.1) : gTM (d + 6) 214 [.ref 171, .int (nI z)] (gST I J P) (gB (gST I J P) (aSg t z)) := by
  have h4 := hz.2.1
  have loop : ∀ c y, y < t.1 → cnt (t.2.1 y) = c → ∀ b : Bool, gT (d + 6) 214 4 [(3, .int (nI y)), (2, .int (bI b)), (0, .ref 171), (1, .int (nI z))] [] (0, 0) (gST I J P) (gB (gST I J P) (b = true ∧ aSg t y)) := by
    refine loopD (fun c ih y hy hc b => ?_)
    cases b with
    | true =>
      refine gT_n 3 ?_
      refine ⟨fun c => absurd c (nI_neg (rfl) (by omega)), fun _ => ?_⟩
      refine gT_n 2 ?_
      refine ⟨fun c => absurd c (by decide), fun _ => ?_⟩
      refine gT_n 5 ?_
      refine ⟨rfl, (Or.inr rfl), (pk_in y 4 (by omega) (rfl)), px_eq (X := (bI (t.2.2.1 y))) (Y := (0)) ((rdI (rfl) (by omega) (hT.2.2.1 y hy))) (rfl) (fun κ1 => ?_) (fun κ1 => ?_)⟩
      · refine gT_n 5 ?_
        refine ⟨rfl, rfl, gTM.use (m_parentOf hz hT hy) (Nat.le_refl _) (fun r u hq => ?_)⟩
        obtain ⟨rfl, rfl⟩ := hq  -- X12_parentOf[R171, nI y]
        refine gT_n 1 ?_
        by_cases g0 : y = 0
        · refine gT_k (L := [(3, .int (-4)), (2, .int 0), (0, .ref 171), (1, .int (nI z))]) ?_ ⟨viI (by unfold zpI; rw [if_pos g0]), rfl, rfl, rfl, trivial⟩ rfl
          refine gT_n 4 ?_
          refine ⟨fun _ => ?_, fun c => absurd (by decide) c⟩
          refine gT_n 2 ?_
          refine ⟨(Or.inl rfl), ?_⟩
          exact ⟨rfl, Or.inr ⟨rfl, fun w => absurd (w.2 0) (by rw [show t.2.2.1 (zc t y 0) = false from bI_0 κ1]; decide)⟩⟩
        · refine gT_k (L := [(3, .int (nI (zpa t y))), (2, .int 0), (0, .ref 171), (1, .int (nI z))]) ?_ ⟨viI (by unfold zpI; rw [if_neg g0]), rfl, rfl, rfl, trivial⟩ rfl
          refine gT_n 1 ?_
          exact gTB_iff (ih _ (by rw [← hc]; exact cnt_par hz hy g0) (zpa t y) (zof_lt hz _) rfl false) ⟨fun w => absurd w.1 (by decide), fun w => absurd (w.2 0) (by rw [show t.2.2.1 (zc t y 0) = false from bI_0 κ1]; decide)⟩
      · refine gT_n 6 ?_
        refine ⟨rfl, rfl, gTM.use (m_parentOf hz hT hy) (Nat.le_refl _) (fun r u hq => ?_)⟩
        obtain ⟨rfl, rfl⟩ := hq  -- X12_parentOf[R171, nI y]
        refine gT_n 1 ?_
        by_cases g0 : y = 0
        · refine gT_k (L := [(3, .int (-4)), (2, .int 1), (0, .ref 171), (1, .int (nI z))]) ?_ ⟨viI (by unfold zpI; rw [if_pos g0]), rfl, rfl, rfl, trivial⟩ rfl
          refine gT_n 4 ?_
          refine ⟨fun _ => ?_, fun c => absurd (by decide) c⟩
          refine gT_n 2 ?_
          refine ⟨(Or.inr rfl), ?_⟩
          exact ⟨rfl, Or.inl ⟨rfl, ⟨rfl, g0.symm ▸ aSg_0 hz⟩⟩⟩
        · refine gT_k (L := [(3, .int (nI (zpa t y))), (2, .int 1), (0, .ref 171), (1, .int (nI z))]) ?_ ⟨viI (by unfold zpI; rw [if_neg g0]), rfl, rfl, rfl, trivial⟩ rfl
          refine gT_n 1 ?_
          exact gTB_iff (ih _ (by rw [← hc]; exact cnt_par hz hy g0) (zpa t y) (zof_lt hz _) rfl true) ⟨fun w => ⟨rfl, aSg_s.mpr ⟨bI_1 κ1, w.2⟩⟩, fun w => ⟨rfl, (aSg_s.mp w.2).2⟩⟩
    | false =>
      refine gT_n 3 ?_
      refine ⟨fun c => absurd c (nI_neg (rfl) (by omega)), fun _ => ?_⟩
      refine gT_n 2 ?_
      refine ⟨fun _ => ?_, fun c => absurd (by decide) c⟩
      refine gT_n 5 ?_
      refine ⟨rfl, rfl, gTM.use (m_parentOf hz hT hy) (Nat.le_refl _) (fun r u hq => ?_)⟩
      obtain ⟨rfl, rfl⟩ := hq  -- X12_parentOf[R171, nI y]
      refine gT_n 1 ?_
      by_cases g0 : y = 0
      · refine gT_k (L := [(3, .int (-4)), (2, .int 0), (0, .ref 171), (1, .int (nI z))]) ?_ ⟨viI (by unfold zpI; rw [if_pos g0]), rfl, rfl, rfl, trivial⟩ rfl
        refine gT_n 4 ?_
        refine ⟨fun _ => ?_, fun c => absurd (by decide) c⟩
        refine gT_n 2 ?_
        refine ⟨(Or.inl rfl), ?_⟩
        exact ⟨rfl, Or.inr ⟨rfl, fun w => absurd w.1 (by decide)⟩⟩
      · refine gT_k (L := [(3, .int (nI (zpa t y))), (2, .int 0), (0, .ref 171), (1, .int (nI z))]) ?_ ⟨viI (by unfold zpI; rw [if_neg g0]), rfl, rfl, rfl, trivial⟩ rfl
        refine gT_n 1 ?_
        exact gTB_iff (ih _ (by rw [← hc]; exact cnt_par hz hy g0) (zpa t y) (zof_lt hz _) rfl false) ⟨fun w => absurd w.1 (by decide), fun w => absurd w.1 (by decide)⟩
  refine gT_n 4 ?_
  exact gTB_iff (loop _ z hzz rfl true) ⟨fun w => w.2, fun w => ⟨rfl, w⟩⟩
