/-! ask: the reference -/
theorem bM_self {I : Nat → Nat → Int32} {c : Int32} (h : I 171 45 = c) : bM I c (I 193) (I 194) (I 197) (I 198) (I 199) (I 200) = I := by
  funext a
  by_cases h1 : a = 171
  · subst h1
    show upd (I 171) 45 c = I 171
    rw [← h]; exact upd_self
  by_cases h2 : a = 193
  · subst h2; rfl
  by_cases h3 : a = 194
  · subst h3; rfl
  by_cases h4 : a = 197
  · subst h4; rfl
  by_cases h5 : a = 198
  · subst h5; rfl
  by_cases h6 : a = 199
  · subst h6; rfl
  by_cases h7 : a = 200
  · subst h7; rfl
  unfold bM
  rw [beq_ne h1, beq_ne h2, beq_ne h3, beq_ne h4, beq_ne h5, beq_ne h6, beq_ne h7]; rfl
theorem bJ_self {J : Nat → Nat → Int64} : bMJ J (J 195) (J 196) = J := by
  funext a
  by_cases h2 : a = 195
  · subst h2; rfl
  by_cases h3 : a = 196
  · subst h3; rfl
  unfold bMJ
  rw [beq_ne h2, beq_ne h3]; rfl
theorem m_chains {d z m : Nat} {t : zT} {I : Nat → Nat → Int32} {J : Nat → Nat → Int64} {P : Nat → Nat} (hz : zOK t) (hT : mT (I 171 2) (J 172) (I 173) t) (hw : z < t.1) (hm : m ≤ 3) (hm0 : zc t z m = 0) (hnz : ∀ k, k < m → ¬ zc t z k = 0) : gTM (d + 6) 227 [.ref 171, .int (nI z)] (gST I J P) (fun r u => r = none ∧ ∃ A : Nat → Int32, u = gST (m1 (gupI I 171 51 (nI (m + 1))) 201 A) J P ∧ ∀ k, k ≤ m → A k = nI (zc t z (m - k))) := by
  have : m = 0 ∨ m = 1 ∨ m = 2 ∨ m = 3 := by omega
  rcases this with rfl | rfl | rfl | rfl
  · refine gTM.use (m_chains1 hz hT hw  hm0) (Nat.le_refl _) (fun r u h => ?_)
    obtain ⟨h1, A, h2, g0⟩ := h
    refine ⟨h1, A, h2, fun k hk => ?_⟩
    have : k = 0 := by omega
    subst this
    exact g0
  · refine gTM.use (m_chains2 hz hT hw (hnz 0 (by omega)) hm0) (Nat.le_refl _) (fun r u h => ?_)
    obtain ⟨h1, A, h2, g0, g1⟩ := h
    refine ⟨h1, A, h2, fun k hk => ?_⟩
    have : k = 0 ∨ k = 1 := by omega
    rcases this with rfl | rfl
    · exact g0
    · exact g1
  · refine gTM.use (m_chains3 hz hT hw (hnz 0 (by omega)) (hnz 1 (by omega)) hm0) (Nat.le_refl _) (fun r u h => ?_)
    obtain ⟨h1, A, h2, g0, g1, g2⟩ := h
    refine ⟨h1, A, h2, fun k hk => ?_⟩
    have : k = 0 ∨ k = 1 ∨ k = 2 := by omega
    rcases this with rfl | rfl | rfl
    · exact g0
    · exact g1
    · exact g2
  · refine gTM.use (m_chains4 hz hT hw (hnz 0 (by omega)) (hnz 1 (by omega)) (hnz 2 (by omega)) hm0) (Nat.le_refl _) (fun r u h => ?_)
    obtain ⟨h1, A, h2, g0, g1, g2, g3⟩ := h
    refine ⟨h1, A, h2, fun k hk => ?_⟩
    have : k = 0 ∨ k = 1 ∨ k = 2 ∨ k = 3 := by omega
    rcases this with rfl | rfl | rfl | rfl
    · exact g0
    · exact g1
    · exact g2
    · exact g3
theorem m_chainLoop {d M w : Nat} {I : Nat → Nat → Int32} {J : Nat → Nat → Int64} {P : Nat → Nat} {t : zT} {W : zW} {lm : zR} (hz : zOK t) (oW : wOK t W) (hT : mT (I 171 2) (J 172) (I 173) t) (hr : rOK lm) (hp : lm.Perm W.1) (hR : mR (I 171 7) (J 174) (I 175) (I 176) lm) (hac : mAc (I 180) t W.2.2.2.1) (hK : mKs 3 (I 179) (I 177) (I 178) W.2.1) (hD : mKs 2 (I 183) (I 181) (I 182) W.2.2.1) (hw : w < t.1) (hM : M ≤ 3) (h51 : I 171 51 = nI (M + 1)) (hch : ∀ k, k ≤ M → I 201 k = nI (zc t w (M - k))) {b : Bool} {l' : List zI} : ∀ m k, k + m = M + 1 → (∀ j, j < m → ¬ zc t w j = 0) → ∀ (kd zn so nu sg mk : Nat → Int32) (jo jx : Nat → Int64) (a : List zI), mB kd zn so nu sg mk jo jx (a.map qS) → a.length + 2 * m ≤ 7 → t.2.2.1 (zc t w m) = true → fCh t W w m a b l' → gT (d + 9) 228 12 [(2, .int (nI k)), (1, .int (nI w)), (0, .ref 171)] [] (0, 0) (gST (bM I (nI (a.map qS).length) kd zn so nu sg mk) (bMJ J jo jx) P) (fun r u => ∃ kd' zn' so' nu' sg' mk' jo' jx', u = gST (bM I (nI (l'.map qS).length) kd' zn' so' nu' sg' mk') (bMJ J jo' jx') P ∧ r = some (.int (bI b)) ∧ mB kd' zn' so' nu' sg' mk' jo' jx' (l'.map qS)) := by
  have h4 := hz.2.1
  intro m
  induction m with
  | zero =>
    intro k hkm hnz kd zn so nu sg mk jo jx a hB hl7 hsg hS
    refine gT_n 4 ?_
    refine ⟨rfl, pk_le ((M + 1)) k (fun κ1 => ?_) (fun κ1 => ?_) (h51) (rfl) (by omega) (by omega)⟩
    · refine gT_n 2 ?_
      refine ⟨(Or.inr rfl), ?_⟩
      obtain ⟨rfl, rfl⟩ := hS
      exact ⟨_, _, _, _, _, _, _, _, rfl, rfl, hB⟩
    · exact absurd hkm (by omega)
  | succ m ih =>
    intro k hkm hnz kd zn so nu sg mk jo jx a hB hl7 hsg hS
    have hpz := zc_lt hz hw (m + 1)
    have hm := zc_lt hz hw m
    have hva := hz.2.2.2.2.1 _ hm
    have hc0 := hnz m (by omega)
    by_cases hs : t.2.2.1 (zc t w m) = true
    · have hs1 : I 173 (zc t w m) = 1 := by rw [hT.2.2.1 _ hm, hs]; rfl
      refine gT_n 4 ?_
      refine ⟨rfl, pk_le ((M + 1)) k (fun κ1 => ?_) (fun κ1 => ?_) (h51) (rfl) (by omega) (by omega)⟩
      · refine gT_n 2 ?_
        refine ⟨(Or.inr rfl), ?_⟩
        exact absurd hkm (by omega)
      · refine gT_n 5 ?_
        refine ⟨rfl, rfl, (pk_in k 4 (by omega) (rfl)), ?_⟩
        refine gT_k (L := [(3, .int (nI ((zc t w m)))), (2, .int (nI k)), (1, .int (nI w)), (0, .ref 171)]) ?_ ⟨(viI ((rdI (rfl) (by omega) ((hch _ (by omega)).trans (congrArg (fun q => nI (zc t w q)) (by omega)))))), rfl, rfl, rfl, trivial⟩ rfl
        refine gT_n 5 ?_
        refine ⟨rfl, (Or.inr rfl), (pk_in ((zc t w m)) 4 (by omega) (rfl)), fun _ => ?_, fun c => absurd c (kpT (p := fun z : Int32 => ¬ z = 0) (show _ = (1 : Int32) from (rdI (rfl) (by omega) hs1)) (by decide))⟩
        refine gT_n 3 ?_
        refine ⟨rfl, rfl, gTM.use (m_digestsCome (I := I) (J := J) hz oW hT hr hp hR hac (by rw [List.length_map]; omega) hB hD (by omega) hm hsg) (Nat.le_refl _) (fun r u hq => ?_)⟩
        obtain ⟨rfl, kd1, zn1, so1, nu1, sg1, mk1, jo1, jx1, rfl, hB1⟩ := hq  -- X12_digestsCome[R171, nI ((zc t w m))]
        refine gT_n 3 ?_
        refine ⟨rfl, rfl, gTM.use (m_keysCome (I := I) (J := J) hz oW hT hr hp hR hac (by rw [List.length_append, List.length_map]; show a.length + 1 < 10; omega) hB1 hK hm hs) (Nat.le_refl _) (fun r u hq => ?_)⟩
        obtain ⟨rfl, kd2, zn2, so2, nu2, sg2, mk2, jo2, jx2, rfl, hB2⟩ := hq  -- X12_keysCome[R171, nI ((zc t w m))]
        refine gT_n 2 ?_
        have hS2 := (pif_pos hs).mp hS
        have em : ((a.map qS) ++ [qS (qDig t W (zc t w m))]) ++ [qS (qKey t W (zc t w m))] = ((a ++ [qDig t W (zc t w m)]) ++ [qKey t W (zc t w m)]).map qS := by rw [List.map_append, List.map_append]; rfl
        rw [em] at hB2 ⊢
        have e := ih (k + 1) (by omega) (fun j hj => hnz j (by omega)) _ _ _ _ _ _ _ _ _ hB2 (by rw [List.length_append, List.length_append]; show a.length + 1 + 1 + 2 * m ≤ 7; omega) hs hS2
        rw [← nI_1 k] at e
        exact gT_k e ⟨rfl, rfl, rfl, trivial⟩ rfl
    · have hs0 : t.2.2.1 (zc t w m) = false := by cases h : t.2.2.1 (zc t w m); exact rfl; exact absurd h hs
      have hs1 : I 173 (zc t w m) = 0 := by rw [hT.2.2.1 _ hm, hs0]; rfl
      obtain ⟨rfl, os, i, hos, h28, hi, ei, rfl⟩ := (pif_neg hs).mp hS
      have hom : oIs os (fG t lm (zc t w (m + 1))) := oIs_ext hos (fun n => fG_perm hp.symm)
      refine gT_n 4 ?_
      refine ⟨rfl, pk_le ((M + 1)) k (fun κ1 => ?_) (fun κ1 => ?_) (h51) (rfl) (by omega) (by omega)⟩
      · refine gT_n 2 ?_
        refine ⟨(Or.inr rfl), ?_⟩
        exact absurd hkm (by omega)
      · refine gT_n 5 ?_
        refine ⟨rfl, rfl, (pk_in k 4 (by omega) (rfl)), ?_⟩
        refine gT_k (L := [(3, .int (nI ((zc t w m)))), (2, .int (nI k)), (1, .int (nI w)), (0, .ref 171)]) ?_ ⟨(viI ((rdI (rfl) (by omega) ((hch _ (by omega)).trans (congrArg (fun q => nI (zc t w q)) (by omega)))))), rfl, rfl, rfl, trivial⟩ rfl
        refine gT_n 5 ?_
        refine ⟨rfl, (Or.inr rfl), (pk_in ((zc t w m)) 4 (by omega) (rfl)), fun c => absurd c (kpT (p := fun z : Int32 => ¬ (¬ z = 0)) (show _ = (0 : Int32) from (rdI (rfl) (by omega) hs1)) (by decide)), fun _ => ?_⟩
        refine gT_n 4 ?_
        refine ⟨rfl, rfl, gTM.use (m_parentOf1 (I := bM I _ _ _ _ _ _ _) (J := bMJ J _ _) hz hT (by omega) hm) (Nat.le_refl _) (fun r u hq => ?_)⟩
        obtain ⟨rfl, rfl⟩ := hq  -- X12_parentOf[R171, nI ((zc t w m))]
        refine gT_n 5 ?_
        refine ⟨rfl, rfl, (pk_in ((zc t w m)) 4 (by omega) (rfl)), rfl, rfl, gTM.useA (m_linkComes (I := I) (J := J) hz oW hT hr hp hR hac (by rw [List.length_map]; omega) hB hom hi hpz hsg) (Nat.le_refl _) (aR (aI (rfl) (aL ((Eq.trans ((rdJ (rfl) (by omega) (hT.2.1 ((zc t w m)) (by omega)))) (congrArg (fun q => lN (mo q)) (Eq.symm ei)))) (rfl)))) (fun r u hq => ?_)⟩
        obtain ⟨rfl, kd2, zn2, so2, nu2, sg2, mk2, jo2, jx2, rfl, hB2⟩ := hq  -- X12_linkComes[R171, nI ((zc t w (m + 1))), L(lN (mo (og os i).1))]
        refine gT_n 2 ?_
        refine ⟨(Or.inl rfl), ?_⟩
        have em : (a.map qS) ++ [qS (qLnk W (zc t w (m + 1)) os i)] = (a ++ [qLnk W (zc t w (m + 1)) os i]).map qS := by rw [List.map_append]; rfl
        rw [em] at hB2 ⊢
        exact ⟨_, _, _, _, _, _, _, _, rfl, rfl, hB2⟩
theorem gT_mem {d y pc : Nat} {L : gL} {st : List Value} {cu : Nat × Nat} {w w' : gW} {Q : Option Value → gW → Prop} (e : w = w') (h : gT d y pc L st cu w' Q) : gT d y pc L st cu w Q := e ▸ h
theorem m_chainComes {d m w : Nat} {I : Nat → Nat → Int32} {J : Nat → Nat → Int64} {P : Nat → Nat} {t : zT} {W : zW} {lm : zR} (hz : zOK t) (oW : wOK t W) (hT : mT (I 171 2) (J 172) (I 173) t) (hr : rOK lm) (hp : lm.Perm W.1) (hR : mR (I 171 7) (J 174) (I 175) (I 176) lm) (hac : mAc (I 180) t W.2.2.2.1) (hK : mKs 3 (I 179) (I 177) (I 178) W.2.1) (hD : mKs 2 (I 183) (I 181) (I 182) W.2.2.1) (hw : w < t.1) (hm : m ≤ 3) (hm0 : zc t w m = 0) (hnz : ∀ k, k < m → ¬ zc t w k = 0) (h45 : I 171 45 = 0) {b : Bool} {l' : List zI} (hS : fCh t W w m [qKey t W 0] b l') : gTM (d + 9) 228 [.ref 171, .int (nI w)] (gST I J P) (fun r u => ∃ A kd' zn' so' nu' sg' mk' jo' jx', u = gST (bM (m1 (gupI I 171 51 (nI (m + 1))) 201 A) (nI (l'.map qS).length) kd' zn' so' nu' sg' mk') (bMJ J jo' jx') P ∧ r = some (.int (bI b)) ∧ mB kd' zn' so' nu' sg' mk' jo' jx' (l'.map qS)) := by
  have h4 := hz.2.1
  refine gT_n 3 ?_
  refine ⟨rfl, rfl, gTM.use (m_chains hz hT hw hm hm0 hnz) (Nat.le_refl _) (fun r u hq => ?_)⟩
  obtain ⟨rfl, A, rfl, hA⟩ := hq  -- X12_chains[R171, nI w]
  have eI : (m1 (gupI I 171 51 (nI (m + 1))) 201 A) = bM (m1 (gupI I 171 51 (nI (m + 1))) 201 A) (nI ([] : List zI).length) ((m1 (gupI I 171 51 (nI (m + 1))) 201 A) 193) ((m1 (gupI I 171 51 (nI (m + 1))) 201 A) 194) ((m1 (gupI I 171 51 (nI (m + 1))) 201 A) 197) ((m1 (gupI I 171 51 (nI (m + 1))) 201 A) 198) ((m1 (gupI I 171 51 (nI (m + 1))) 201 A) 199) ((m1 (gupI I 171 51 (nI (m + 1))) 201 A) 200) := (bM_self (I := (m1 (gupI I 171 51 (nI (m + 1))) 201 A)) (show (m1 (gupI I 171 51 (nI (m + 1))) 201 A) 171 45 = nI 0 from h45)).symm
  have eJ : J = bMJ J (J 195) (J 196) := bJ_self.symm
  rw [eI]
  refine gT_mem (w' := gST (bM (m1 (gupI I 171 51 (nI (m + 1))) 201 A) (nI ([] : List zI).length) ((m1 (gupI I 171 51 (nI (m + 1))) 201 A) 193) ((m1 (gupI I 171 51 (nI (m + 1))) 201 A) 194) ((m1 (gupI I 171 51 (nI (m + 1))) 201 A) 197) ((m1 (gupI I 171 51 (nI (m + 1))) 201 A) 198) ((m1 (gupI I 171 51 (nI (m + 1))) 201 A) 199) ((m1 (gupI I 171 51 (nI (m + 1))) 201 A) 200)) (bMJ J (J 195) (J 196)) P) (by rw [bJ_self]) ?_
  refine gT_n 3 ?_
  refine ⟨rfl, rfl, gTM.use (m_keysCome (I := (m1 (gupI I 171 51 (nI (m + 1))) 201 A)) (J := J) (z := 0) (l := []) hz oW hT hr hp hR hac (by decide) (fun k hk => absurd hk (Nat.not_lt_zero k)) hK hz.1 hz.2.2.2.1) (Nat.le_refl _) (fun r u hq => ?_)⟩
  obtain ⟨rfl, kd1, zn1, so1, nu1, sg1, mk1, jo1, jx1, rfl, hB1⟩ := hq  -- X12_keysCome[R171, K0]
  refine gT_n 2 ?_
  have e := m_chainLoop (d := d) (I := (m1 (gupI I 171 51 (nI (m + 1))) 201 A)) (J := J) (P := P) hz oW hT hr hp hR hac hK hD hw hm rfl hA m 1 (by omega) hnz _ _ _ _ _ _ _ _ [qKey t W 0] hB1 (by show 1 + 2 * m ≤ 7; omega) (by rw [hm0]; exact hz.2.2.2.1) hS
  refine gT_k (gT_mono _ _ _ _ _ _ _ _ _ (fun r u h => ?_) e) ⟨rfl, rfl, rfl, trivial⟩ rfl
  exact ⟨A, h⟩
