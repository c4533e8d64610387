/-! text: the reference's call -/
def ovc (I X : Nat → Nat → Int32) : Nat → Nat → Int32 := fun a => cond (Nat.ble 171 a) (X a) (I a)
def ovcJ (J Y : Nat → Nat → Int64) : Nat → Nat → Int64 := fun a => cond (Nat.ble 171 a) (Y a) (J a)
theorem ovc_of {I X : Nat → Nat → Int32} (h : ∀ a, a < 171 → X a = I a) : X = ovc I X := by
  funext a
  unfold ovc
  cases e : Nat.ble 171 a
  · exact h a (Nat.lt_of_not_le (fun g => by rw [Nat.ble_eq_true_of_le g] at e; cases e))
  · rfl
theorem ovcJ_of {J Y : Nat → Nat → Int64} (h : ∀ a, a < 171 → Y a = J a) : Y = ovcJ J Y := by
  funext a
  unfold ovcJ
  cases e : Nat.ble 171 a
  · exact h a (Nat.lt_of_not_le (fun g => by rw [Nat.ble_eq_true_of_le g] at e; cases e))
  · rfl
theorem RC_ovc {s : zS} {I X : Nat → Nat → Int32} {J Y : Nat → Nat → Int64} {P : Nat → Nat} (hC : RC s I J P) (h : ∀ a, a < 171 → X a = I a) (g : ∀ a, a < 171 → Y a = J a) : RC s X Y P := by
  rw [ovc_of h, ovcJ_of g]; exact hC
theorem kz_kg {t : zT} {z i : Nat} (h : i < (kz t z).length) : (z < t.1 ∧ t.2.2.1 z = true) ∧ i = 0 ∧ kg (kz t z) i = (nI (10 + z), 0) := by
  unfold kz at h ⊢
  by_cases c : z < t.1 ∧ t.2.2.1 z = true
  · rw [if_pos c] at h ⊢
    have h : i < 1 := h
    obtain rfl : i = 0 := by omega
    exact ⟨c, rfl, rfl⟩
  · rw [if_neg c] at h
    exact absurd h (Nat.not_lt_zero i)
theorem RM_new {b : Nat → Nat} {D : zD} {X : Nat → Nat → Int32} {Y : Nat → Nat → Int64} (h18 : X 171 18 = 0) (h19 : X 171 19 = 0) (hT : mT (X 171 2) (Y 172) (X 173) D.1) (h3 : X 171 3 = nI D.1.2.2.2) (hR : mR (X 171 7) (Y 174) (X 175) (X 176) D.2.1) (hA : aDn D.1 X 4) (q : X 171 15 = 0 ∧ X 171 56 = 0 ∧ X 171 46 = 0 ∧ X 171 57 = 0 ∧ X 209 0 = 0 ∧ X 209 1 = 0 ∧ Y 171 16 = lN 0) (hb : ∀ z, z < 4 → X 188 z = 0 ∨ X 188 z = 1) (hL : cLit (X 185) (X 186)) (hO : dOK D) : RM (newS b D) X Y := by
  obtain ⟨q1, q2, q3, q4, q5, q6, q7⟩ := q
  have h4 := hO.1.2.1
  refine ⟨⟨h18, fun k hk => absurd hk (Nat.not_lt_zero k)⟩, h19, hT, h3, ⟨⟨D.2.1, List.Perm.refl _, hR⟩, fun z hz => ⟨(hA z hz).1, fun i hi => ?_⟩, fun z hz => ⟨(hA z hz).2.1, fun i hi => ?_⟩, fun z hz => ?_, q1, ⟨q2, fun i hi => absurd hi (Nat.not_lt_zero i)⟩⟩, q7.trans (show lN 0 = lN (mo 0) from rfl), ⟨q3, fun p hp => absurd hp (by simp [newS])⟩, ⟨q4, fun p hp => absurd hp (by simp [newS])⟩, ⟨q5, fun p hp => absurd hp (by simp [newS])⟩, ⟨q6, fun p hp => absurd hp (by simp [newS])⟩, hb, hL⟩
  · obtain ⟨c, rfl, e⟩ := kz_kg hi
    show X 177 (3 * z + 0) = (kg (kz D.1 z) 0).1 ∧ X 178 (3 * z + 0) = (kg (kz D.1 z) 0).2
    rw [e]
    have g := (hA z hz).2.2.2 c
    exact ⟨g.1, g.2.1⟩
  · obtain ⟨c, rfl, e⟩ := kz_kg hi
    show X 181 (2 * z + 0) = (kg (kz D.1 z) 0).1 ∧ X 182 (2 * z + 0) = (kg (kz D.1 z) 0).2
    rw [e]
    have g := (hA z hz).2.2.2 c
    exact ⟨g.2.2.1, g.2.2.2⟩
  · have hz : z < D.1.1 := hz
    have g := (hA z (by omega)).2.2.1
    show X 180 z = if D.1.2.2.1 z = true then az D.1 z else -4
    rw [g]
    unfold az
    by_cases c : D.1.2.2.1 z = true
    · rw [if_pos ⟨hz, c⟩, if_pos c, if_pos ⟨hz, c⟩]
    · rw [if_neg (fun k => c k.2), if_neg c]
theorem o_text_m {d : Nat} {s s' : zS} {x : Int32} {I : Nat → Nat → Int32} {J : Nat → Nat → Int64} {P : Nat → Nat} (hO : sOK s) (hS : (fTxt s) x s') (hC : RC s' I J P) (hM : RM s I J) : gTM (d + 14) 197 [.ref 171] (gST I J P) (pM x s') := by
  obtain ⟨tp, fn, t, W, nm, pr, ch, i0, i1⟩ := s
  have hO0 := hO
  have hM0 := hM
  obtain ⟨oTp, oT, oW, oN, oP, oI0, oI1⟩ := hO
  obtain ⟨jTp, jF, jT, jSp, jW, jN, jP, jC, jI0, jI1, jB, jL⟩ := hM
  dsimp only at oTp oT oW oN oP oI0 oI1 jTp jF jT jSp jW jN jP jC jI0 jI1
  try dsimp only at hS
  have hT : tpm I tp.1 tp.2 := ⟨jTp.1, oTp.1, fun k hk => ⟨jTp.2 k hk, oTp.2 k hk⟩⟩
  have hn2 := hT.2.1
  obtain ⟨rr, hrl, hS⟩ := hS
  have finF : ∀ (f : zF) (X : Nat → Nat → Int32) (Y : Nat → Nat → Int64) (k : Int32), rr = .inl f → fT X f → b8 X → gT (d + 14) 197 61 [(1, .int k), (0, .ref 171)] [] (0, 0) (gST (xM I X) (xJ J Y) P) (pM x s') := fun f X Y k e ho hb => by
    subst e
    obtain ⟨rfl, rfl⟩ := hS
    refine gT_n 6 ?_
    refine ⟨rfl, rfl, px_le (X := f.1) (Y := (0)) (ho.1) (rfl) (fun κ1 => ?_) (fun κ1 => ?_)⟩
    · exact absurd ho.2.2 (Int32.not_lt.mpr (by assumption))
    · refine gT_n 5 ?_
      refine ⟨rfl, ?_⟩
      refine ⟨_, _, P, rfl, ri (congrArg (fun q => (-10 : Int32) - q) ho.2.1), hC, ⟨⟨rfl, fun k hk => absurd hk (Nat.not_lt_zero k)⟩, ho.1, jT, jSp, jW, jN, jP, jC, jI0, jI1, hb, jL⟩⟩
  have finK : ∀ (D : zD) (k : Nat) (X : Nat → Nat → Int32) (Y : Nat → Nat → Int64), rr = .inr (D, k) → dfm X Y D → dOK D → X 171 19 = 0 → gT (d + 14) 197 61 [(1, .int (nI k)), (0, .ref 171)] [] (0, 0) (gST (xM I X) (xJ J Y) P) (pM x s') := fun D k X Y e hd hO h19 => by
    subst e
    obtain ⟨rfl, -, rfl⟩ := hS
    have hJ0 : xJ J Y 172 0 = lN (mo 0) := (jT.2.1 0 oT.1).trans (by rw [oT.2.2.1])
    have hI0 : (gupI (xM I X) 171 18 0) 173 0 = 1 := (jT.2.2.1 0 oT.1).trans (by rw [oT.2.2.2.1]; rfl)
    refine gT_n 6 ?_
    refine ⟨rfl, rfl, fun _ => ?_, fun c => absurd (kpT (p := fun z : Int32 => z ≤ 0) (show _ = (0 : Int32) from h19) (by decide)) c⟩
    refine gT_n 2 ?_
    refine ⟨rfl, rfl, gTM.use (m_takesDraft (D := D) (I := (gupI (xM I X) 171 18 0)) (J := xJ J Y) hd hO hJ0 hI0 jT.2.2.2) (Nat.le_refl _) (fun r u hq => ?_)⟩
    obtain ⟨rfl, X1, Y1, rfl, c1, c2, c3, c4, c5, ⟨c6, c7, c8, c9, c10⟩, c11, c12⟩ := hq  -- X12_takesDraft[R171]
    refine gT_n 2 ?_
    exact ⟨X1, Y1, P, rfl, rfl, RC_ovc (I := (gupI (xM I X) 171 18 0)) (J := xJ J Y) hC c11 c12, RM_new c6 (c7.trans h19) c1 c2 c3 c4 c5 (fun z hz => by rw [c8]; exact hd.2.2.1 z hz) (by rw [c9, c10]; exact jL) hO⟩
  have loop : ∀ f (D : zD) (k : Nat) (q : tk3) (X : Nat → Nat → Int32) (Y : Nat → Nat → Int64), rLq tp.1 tp.2 f D k q rr → f + k ≤ 201 → okT tp.1 tp.2 X q → tIs tp.1 tp.2 q → dfm X Y D → dOK D → gT (d + 14) 197 37 [(1, .int (nI k)), (0, .ref 171)] [] (0, 0) (gST (xM I X) (xJ J Y) P) (pM x s') := by
    intro f
    induction f with
    | zero =>
      intro D k q X Y hl hfk hq hta hd hO
      refine gT_n 3 ?_
      refine ⟨rfl, fun c => absurd c (kpT (p := fun z : Int32 => ¬ (¬ z = 0)) (show _ = (0 : Int32) from hq.1) (by decide)), fun _ => ?_⟩
      refine gT_n 3 ?_
      refine ⟨rfl, px_eq (X := (nI (tkc q.2.2))) (Y := (0)) (hq.2.2.2.1) (rfl) (fun κ1 => ?_) (fun κ1 => ?_)⟩
      · exact gT_k (finK D k X Y ((pif_pos ((tkc_s (m := 0) (by decide)).mp κ1)).mp hl) hd hO hq.1) ⟨rfl, rfl, trivial⟩ rfl
      · refine gT_n 2 ?_
        refine ⟨rfl, rfl, gTM.use (m_readsLine (d := d + 7) hT jL hta hq hd hO) (Nat.le_refl _) (fun r u hq => ?_)⟩
        obtain ⟨rfl, ⟨f0, X1, Y1, hrl1, rfl, ho, hb⟩ | ⟨D1, q1, X1, Y1, hrl1, rfl, hd1, hO1, hq1, ht1⟩⟩ := hq  -- X12_readsLine[R171]
        · refine gT_n 2 ?_
          have hq0 : ¬ q.2.2 = 0 := (fun e => κ1 ((tkc_s (m := 0) (by decide)).mpr e))
          refine gT_k (L := [(1, .int (nI ((k + 1)))), (0, .ref 171)]) ?_ ⟨viI (nI_1 k), rfl, trivial⟩ rfl
          refine gT_n 3 ?_
          refine ⟨rfl, px_ne (X := f0.1) (Y := (0)) (ho.1) (rfl) (fun κ1 => ?_) (fun κ1 => ?_)⟩
          · exact gT_k (finF f0 X1 Y1 (nI (k + 1)) (rLq_l hl hq0 hrl1) ho hb) ⟨rfl, rfl, trivial⟩ rfl
          · exact absurd (by assumption) (fun e : f0.1 = 0 => absurd ho.2.2 (by rw [e]; decide))
        · refine gT_n 2 ?_
          obtain ⟨f2, e2, -⟩ := rLq_r hl (fun e => κ1 ((tkc_s (m := 0) (by decide)).mpr e)) hrl1
          exact absurd e2 (by omega)
    | succ f ih =>
      intro D k q X Y hl hfk hq hta hd hO
      refine gT_n 3 ?_
      refine ⟨rfl, fun c => absurd c (kpT (p := fun z : Int32 => ¬ (¬ z = 0)) (show _ = (0 : Int32) from hq.1) (by decide)), fun _ => ?_⟩
      refine gT_n 3 ?_
      refine ⟨rfl, px_eq (X := (nI (tkc q.2.2))) (Y := (0)) (hq.2.2.2.1) (rfl) (fun κ1 => ?_) (fun κ1 => ?_)⟩
      · exact gT_k (finK D k X Y ((pif_pos ((tkc_s (m := 0) (by decide)).mp κ1)).mp hl) hd hO hq.1) ⟨rfl, rfl, trivial⟩ rfl
      · refine gT_n 2 ?_
        refine ⟨rfl, rfl, gTM.use (m_readsLine (d := d + 7) hT jL hta hq hd hO) (Nat.le_refl _) (fun r u hq => ?_)⟩
        obtain ⟨rfl, ⟨f0, X1, Y1, hrl1, rfl, ho, hb⟩ | ⟨D1, q1, X1, Y1, hrl1, rfl, hd1, hO1, hq1, ht1⟩⟩ := hq  -- X12_readsLine[R171]
        · refine gT_n 2 ?_
          have hq0 : ¬ q.2.2 = 0 := (fun e => κ1 ((tkc_s (m := 0) (by decide)).mpr e))
          refine gT_k (L := [(1, .int (nI ((k + 1)))), (0, .ref 171)]) ?_ ⟨viI (nI_1 k), rfl, trivial⟩ rfl
          refine gT_n 3 ?_
          refine ⟨rfl, px_ne (X := f0.1) (Y := (0)) (ho.1) (rfl) (fun κ1 => ?_) (fun κ1 => ?_)⟩
          · exact gT_k (finF f0 X1 Y1 (nI (k + 1)) (rLq_l hl hq0 hrl1) ho hb) ⟨rfl, rfl, trivial⟩ rfl
          · exact absurd (by assumption) (fun e : f0.1 = 0 => absurd ho.2.2 (by rw [e]; decide))
        · refine gT_n 2 ?_
          obtain ⟨f2, e2, hl2⟩ := rLq_r hl (fun e => κ1 ((tkc_s (m := 0) (by decide)).mpr e)) hrl1
          obtain rfl : f = f2 := by omega
          have e' := ih D1 (k + 1) q1 X1 Y1 hl2 (by omega) hq1 ht1 hd1 hO1
          exact gT_k e' ⟨viI (nI_1 k), rfl, trivial⟩ rfl
  have key : gTM (d + 14) 197 [.ref 171] (gST (xM I I) (xJ J J) P) (pM x s') := by
    refine gT_n 3 ?_
    refine ⟨rfl, ?_⟩
    refine gT_xP rfl (X := 0) (rfl) ?_
    refine gT_n 3 ?_
    refine ⟨rfl, ?_⟩
    refine gT_xP rfl (X := 0) (rfl) ?_
    refine gT_n 3 ?_
    refine ⟨rfl, ?_⟩
    refine gT_xP rfl (X := 1) (rfl) ?_
    refine gT_n 3 ?_
    refine ⟨rfl, ?_⟩
    refine gT_xP rfl (X := 0) (rfl) ?_
    refine gT_n 3 ?_
    refine ⟨rfl, ?_⟩
    refine gT_xP rfl (X := 10) (rfl) ?_
    refine gT_n 3 ?_
    refine ⟨rfl, (Or.inl rfl), ?_⟩
    refine gT_xP rfl (X := 0) (rfl) ?_
    refine gT_n 4 ?_
    refine ⟨rfl, rfl, gTM.use (m_reads (X0 := (gupI (gupI (gupI (gupI (gupI (gupI I 171 19 0) 171 21 0) 171 29 1) 171 33 0) 171 34 10) 171 35 0)) (Y := J) (a0 := 0) hT (Nat.zero_le _) rfl rfl) (Nat.le_refl _) (fun r u hq => ?_)⟩
    obtain ⟨rfl, ⟨f, X1, hra, rfl, hf1, ho⟩ | ⟨q1, X1, hra, rfl, hf1, hq1⟩⟩ := hq  -- X12_reads[R171]
    · have hd1 : dfm X1 J D0 := dfm_fr (X := (gupI (gupI (gupI (gupI (gupI (gupI I 171 19 0) 171 21 0) 171 29 1) 171 33 0) 171 34 10) 171 35 0)) (fr2_x hf1) ⟨rfl, fun z h1 h2 => absurd h2 (by show ¬ z < 1; omega), jB, ⟨rfl, fun i hi => absurd hi (Nat.not_lt_zero i)⟩, rfl, rfl⟩
      refine gT_k (L := [(1, .int 0), (0, .ref 171)]) ?_ ⟨rfl, rfl, trivial⟩ rfl
      refine gT_n 3 ?_
      refine ⟨rfl, px_ne (X := f.1) (Y := (0)) (ho.1) (rfl) (fun κ1 => ?_) (fun κ1 => ?_)⟩
      · exact gT_k (finF f X1 J 0 (rLs_l hrl hra) ho hd1.2.2.1) ⟨rfl, rfl, trivial⟩ rfl
      · exact absurd (by assumption) (fun e : f.1 = 0 => absurd ho.2.2 (by rw [e]; decide))
    · have hd1 : dfm X1 J D0 := dfm_fr (X := (gupI (gupI (gupI (gupI (gupI (gupI I 171 19 0) 171 21 0) 171 29 1) 171 33 0) 171 34 10) 171 35 0)) (fr2_x hf1) ⟨rfl, fun z h1 h2 => absurd h2 (by show ¬ z < 1; omega), jB, ⟨rfl, fun i hi => absurd hi (Nat.not_lt_zero i)⟩, rfl, rfl⟩
      obtain ⟨f2, e2, hl2⟩ := rLs_r hrl hra
      obtain rfl : tp.1 = f2 := Nat.succ.inj e2
      exact gT_k (loop tp.1 D0 0 q1 X1 J hl2 (by omega) hq1 ⟨_, hra⟩ hd1 D0_ok) ⟨rfl, rfl, trivial⟩ rfl
  rw [xM_self, xJ_self] at key
  exact key

