/-! keys put out and taken back -/
def setK (s : zS) (n : Nat) (l : zK) : zS := (s.1, s.2.1, s.2.2.1, (s.2.2.2.1.1, kup s.2.2.2.1.2.1 n l, s.2.2.2.1.2.2), s.2.2.2.2)
def setD (s : zS) (n : Nat) (l : zK) : zS := (s.1, s.2.1, s.2.2.1, (s.2.2.2.1.1, s.2.2.2.1.2.1, kup s.2.2.2.1.2.2.1 n l, s.2.2.2.1.2.2.2), s.2.2.2.2)
def setA (s : zS) (n : Nat) (x : Int32) : zS := (s.1, s.2.1, s.2.2.1, (s.2.2.2.1.1, s.2.2.2.1.2.1, s.2.2.2.1.2.2.1, aup s.2.2.2.1.2.2.2.1 n x, s.2.2.2.1.2.2.2.2), s.2.2.2.2)
theorem setK_ok {s : zS} {n : Nat} {l : zK} (h : sOK s) (hl : l.length ≤ 3) : sOK (setK s n l) := by
  obtain ⟨h1, h2, ⟨w1, w2, w3⟩, h4⟩ := h
  exact ⟨h1, h2, ⟨w1, kup_len w2 hl, w3⟩, h4⟩
theorem setD_ok {s : zS} {n : Nat} {l : zK} (h : sOK s) (hl : l.length ≤ 2) : sOK (setD s n l) := by
  obtain ⟨h1, h2, ⟨w1, w2, w3, w4⟩, h4⟩ := h
  exact ⟨h1, h2, ⟨w1, w2, kup_len w3 hl, w4⟩, h4⟩
theorem setA_ok {s : zS} {n : Nat} {x : Int32} (h : sOK s) (hx : 0 < x) : sOK (setA s n x) := by
  obtain ⟨h1, h2, ⟨w1, w2, w3, w4, w5⟩, h4⟩ := h
  refine ⟨h1, h2, ⟨w1, w2, w3, fun z hz hs => ?_, w5⟩, h4⟩
  show 0 < cond (Nat.beq z n) x (s.2.2.2.1.2.2.2.1 z)
  cases Nat.beq z n
  · exact w4 z hz hs
  · exact hx
theorem kins_len {l : zK} {k c : Int32} {m : Nat} (h : l.length < m) (hm : m ≤ 3) : (kins l k c).length ≤ m := by
  rcases zK2 (l := l) (by omega) with rfl | ⟨a1, a2, rfl⟩ | ⟨a1, a2, b1, b2, rfl⟩
  · exact h
  · show (if k < a1 then [(k, c), (a1, a2)] else [(a1, a2), (k, c)]).length ≤ m
    have h' : 1 < m := h
    split <;> exact h'
  · show (if k < b1 then (if k < a1 then [(k, c), (a1, a2), (b1, b2)] else [(a1, a2), (k, c), (b1, b2)]) else [(a1, a2), (b1, b2), (k, c)]).length ≤ m
    have h' : 2 < m := h
    split
    · split <;> exact h'
    · exact h'
theorem kdel_len {l : zK} {k : Int32} {m : Nat} (h : l.length ≤ m) (hm : m ≤ 3) : (kdel l k).length ≤ m := by
  rcases zK3 (l := l) (by omega) with rfl | ⟨a1, a2, rfl⟩ | ⟨a1, a2, b1, b2, rfl⟩ | ⟨a1, a2, b1, b2, c1, c2, rfl⟩
  · exact h
  · show (if a1 = k then ([] : zK) else [(a1, a2)]).length ≤ m
    split
    · exact Nat.zero_le _
    · exact h
  · show (if a1 = k then [(b1, b2)] else if b1 = k then [(a1, a2)] else [(a1, a2), (b1, b2)]).length ≤ m
    have h' : 2 ≤ m := h
    split
    · exact Nat.le_of_succ_le h'
    · split
      · exact Nat.le_of_succ_le h'
      · exact h
  · show (if a1 = k then [(b1, b2), (c1, c2)] else if b1 = k then [(a1, a2), (c1, c2)] else if c1 = k then [(a1, a2), (b1, b2)] else [(a1, a2), (b1, b2), (c1, c2)]).length ≤ m
    have h' : 3 ≤ m := h
    split
    · exact Nat.le_of_succ_le h'
    · split
      · exact Nat.le_of_succ_le h'
      · split
        · exact Nat.le_of_succ_le h'
        · exact h
/-- a, where c; b, where not -/
def pif (c a b : Prop) : Prop := (c → a) ∧ (¬ c → b)
theorem pif_pos {c a b : Prop} (h : c) : pif c a b ↔ a := ⟨fun z => z.1 h, fun z => ⟨fun _ => z, fun n => absurd h n⟩⟩
theorem pif_neg {c a b : Prop} (h : ¬ c) : pif c a b ↔ b := ⟨fun z => z.2 h, fun z => ⟨fun n => absurd n h, fun _ => z⟩⟩
/-- calls of a zone and a key -/
def zk (s : zS) (z k : Int32) (F : Nat → Int32 → zS → Prop) (x : Int32) (s' : zS) : Prop := pif (inZ s.2.2.1.1 z ∧ (1 ≤ k ∧ k ≤ 999)) (∃ n, n < s.2.2.1.1 ∧ z = nI n ∧ F n x s') (x = -1 ∧ s' = s)
theorem zk_yes {s s' : zS} {k x : Int32} {n : Nat} {F : Nat → Int32 → zS → Prop} (hn : n < s.2.2.1.1) (h4 : s.2.2.1.1 ≤ 4) (hk : 1 ≤ k ∧ k ≤ 999) : zk s (nI n) k F x s' ↔ F n x s' := by
  unfold zk
  rw [pif_pos ⟨⟨n, hn, rfl⟩, hk⟩]
  constructor
  · rintro ⟨m, hm, e, h⟩
    rw [(nI_eq (by omega) (by omega)).mp e]; exact h
  · exact fun h => ⟨n, hn, rfl, h⟩
theorem zk_no {s s' : zS} {z k x : Int32} {F : Nat → Int32 → zS → Prop} (h : ¬ (inZ s.2.2.1.1 z ∧ (1 ≤ k ∧ k ≤ 999))) : zk s z k F x s' ↔ x = -1 ∧ s' = s := by
  unfold zk
  rw [pif_neg h]
def fIn (m : Nat) (sg : Bool) (l : zK) (k c : Int32) (S : zK → zS) (s : zS) (x : Int32) (s' : zS) : Prop := pif (sg = true ∧ ¬ khas l k) (pif (l.length < m) (x = nI (kins l k c).length ∧ s' = S (kins l k c)) (x = -3 ∧ s' = s)) (x = -2 ∧ s' = s)
def fOut (sg : Bool) (b : Prop) (l : zK) (k : Int32) (S : zK → zS) (s : zS) (x : Int32) (s' : zS) : Prop := pif (sg = true ∧ khas l k ∧ b) (x = nI (kdel l k).length ∧ s' = S (kdel l k)) (x = -2 ∧ s' = s)
section
variable {m : Nat} {sg : Bool} {b : Prop} {l l1 l' : zK} {k c x : Int32} {S : zK → zS} {s s' : zS}
theorem fIn_ok (hL : l = l1) (hs : sg = true) (hk : ¬ khas l1 k) (hm : l1.length < m) (hi : kins l1 k c = l') : fIn m sg l k c S s x s' ↔ x = nI l'.length ∧ s' = S l' := by
  subst hL hi
  unfold fIn
  rw [pif_pos ⟨hs, hk⟩, pif_pos hm]
theorem fIn_full (hL : l = l1) (hs : sg = true) (hk : ¬ khas l1 k) (hm : ¬ l1.length < m) : fIn m sg l k c S s x s' ↔ x = -3 ∧ s' = s := by
  subst hL
  unfold fIn
  rw [pif_pos ⟨hs, hk⟩, pif_neg hm]
theorem fIn_st (hL : l = l1) (hk : khas l1 k) : fIn m sg l k c S s x s' ↔ x = -2 ∧ s' = s := by
  subst hL
  unfold fIn
  rw [pif_neg (fun z => z.2 hk)]
theorem fIn_pl (hs : sg = false) : fIn m sg l k c S s x s' ↔ x = -2 ∧ s' = s := by
  subst hs
  unfold fIn
  rw [pif_neg (fun z => absurd z.1 (by decide))]
theorem fOut_ok (hL : l = l1) (hs : sg = true) (hk : khas l1 k) (hb : b) (hd : kdel l1 k = l') : fOut sg b l k S s x s' ↔ x = nI l'.length ∧ s' = S l' := by
  subst hL hd
  unfold fOut
  rw [pif_pos ⟨hs, hk, hb⟩]
theorem fOut_no (hL : l = l1) (h : ¬ (khas l1 k ∧ b)) : fOut sg b l k S s x s' ↔ x = -2 ∧ s' = s := by
  subst hL
  unfold fOut
  rw [pif_neg (fun z => h z.2)]
theorem fOut_pl (hs : sg = false) : fOut sg b l k S s x s' ↔ x = -2 ∧ s' = s := by
  subst hs
  unfold fOut
  rw [pif_neg (fun z => absurd z.1 (by decide))]
end
/-- what stands against a key -/
def fWhy (sg : Bool) (ac : Int32) (lo ld : zK) (ck sp k : Int32) (nz : Prop) (x : Int32) : Prop :=
  pif (sg = true) (pif (ac = k) (x = 1) (pif (khas lo k) (pif (ck - ksin lo k < sp) (x = 3) (pif (khas ld k) (pif (nz ∧ ck - ksin ld k < sp) (x = 5) (x = 0)) (x = 4))) (x = 2))) (x = -2)
def fObs (ac : Int32) (lo ld : zK) (ck sp k : Int32) (nz : Prop) (x : Int32) : Prop :=
  pif (ac = k) (x = 1) (pif (khas lo k) (pif (ck - ksin lo k < sp) (x = 3) (pif (khas ld k) (pif (nz ∧ ck - ksin ld k < sp) (x = 5) (x = 0)) (x = 4))) (x = 2))
theorem fObs_one {ac : Int32} {lo ld : zK} {ck sp k x y : Int32} {nz : Prop} (h : fObs ac lo ld ck sp k nz x) (g : fObs ac lo ld ck sp k nz y) : x = y := by
  have P1 : ∀ {c a b a' b' : Prop}, pif c a b → pif c a' b' → (a → a' → x = y) → (b → b' → x = y) → x = y := fun {c a b a' b'} h g f1 f2 => by
    by_cases hc : c
    · exact f1 (h.1 hc) (g.1 hc)
    · exact f2 (h.2 hc) (g.2 hc)
  have E1 : ∀ {v : Int32}, x = v → y = v → x = y := fun a b => a.trans b.symm
  exact P1 h g E1 (fun h g => P1 h g (fun h g => P1 h g E1 (fun h g => P1 h g (fun h g => P1 h g E1 E1) E1)) E1)
theorem fObs_12 {ac : Int32} {lo ld : zK} {ck sp k x : Int32} {nz : Prop} (h : fObs ac lo ld ck sp k nz x) : (1 ≤ x ∧ x ≤ 2) ↔ ¬ (khas lo k ∧ ¬ ac = k) := by
  have C : ∀ {v : Int32}, x = v → ¬ (1 ≤ v ∧ v ≤ 2) → ¬ (1 ≤ x ∧ x ≤ 2) := fun e h => e ▸ h
  have Y : ∀ {v : Int32}, x = v → (1 ≤ v ∧ v ≤ 2) → (1 ≤ x ∧ x ≤ 2) := fun e h => e ▸ h
  by_cases h0 : ac = k
  · exact ⟨fun _ z => z.2 h0, fun _ => Y (h.1 h0) (by decide)⟩
  · have h := h.2 h0
    by_cases h1 : khas lo k
    · have h := h.1 h1
      refine ⟨fun z => ?_, fun z => absurd ⟨h1, h0⟩ z⟩
      exfalso
      revert z
      by_cases h2 : ck - ksin lo k < sp
      · exact C (h.1 h2) (by decide)
      · have h := h.2 h2
        by_cases h3 : khas ld k
        · have h := h.1 h3
          by_cases h4 : nz ∧ ck - ksin ld k < sp
          · exact C (h.1 h4) (by decide)
          · exact C (h.2 h4) (by decide)
        · exact C (h.2 h3) (by decide)
    · exact ⟨fun _ z => h1 z.1, fun _ => Y (h.2 h1) (by decide)⟩
def fAct (sg : Bool) (ac : Int32) (lo : zK) (k : Int32) (S : Int32 → zS) (s : zS) (x : Int32) (s' : zS) : Prop := pif (sg = true ∧ khas lo k ∧ ¬ ac = k) (x = ac ∧ s' = S k) (x = -2 ∧ s' = s)
/-! rows and the state around them -/
theorem aa_ref {R : Nat → Option Nat} {k b : Nat} {x : Int32} (e : x = nI k) (hk : k < 2 ^ 31) (h : R k = some b) : va_rf (R x.toNatClampNeg) = .ref b := by
  rw [e, nI_clamp hk, h]; rfl
section
variable {s : zS} {I : Nat → Nat → Int32} {J : Nat → Nat → Int64} {P : Nat → Nat} {W : zW} {z : Nat} {n : Int32} {f g : Nat → Int32} {l : zK}
theorem cK_out (hW : cW 17 I J W) (hz : z < 4) : cK (I (34 + 6 * z) 2) (I (34 + 6 * z + 1)) (I (34 + 6 * z + 2)) (W.2.1 z) := by
  have : z = 0 ∨ z = 1 ∨ z = 2 ∨ z = 3 := by omega
  rcases this with rfl | rfl | rfl | rfl
  · exact hW.2.1.1
  · exact hW.2.1.2.1
  · exact hW.2.1.2.2.1
  · exact hW.2.1.2.2.2
theorem cK_dig (hW : cW 17 I J W) (hz : z < 4) : cK (I (37 + 6 * z) 2) (I (37 + 6 * z + 1)) (I (37 + 6 * z + 2)) (W.2.2.1 z) := by
  have : z = 0 ∨ z = 1 ∨ z = 2 ∨ z = 3 := by omega
  rcases this with rfl | rfl | rfl | rfl
  · exact hW.2.2.1.1
  · exact hW.2.2.1.2.1
  · exact hW.2.2.1.2.2.1
  · exact hW.2.2.1.2.2.2
theorem cA_at (hW : cW 17 I J W) (hz : z < 4) : I 24 z = W.2.2.2.1 z := by
  have : z = 0 ∨ z = 1 ∨ z = 2 ∨ z = 3 := by omega
  rcases this with rfl | rfl | rfl | rfl
  · exact hW.2.2.2.1.1
  · exact hW.2.2.2.1.2.1
  · exact hW.2.2.2.1.2.2.1
  · exact hW.2.2.2.1.2.2.2
theorem RC_out (hz : z < 4) (hC : RC s I J P) (hK : cK n f g l) : RC (setK s z l) (kset I (34 + 6 * z) n f g) J P := by
  obtain ⟨kTp, kF, kT, ⟨kR, ⟨kK0, kK1, kK2, kK3⟩, ⟨kD0, kD1, kD2, kD3⟩, kA, kCk, kE⟩, kN, kP, kC, kI0, kI1, kB, kPP⟩ := hC
  have : z = 0 ∨ z = 1 ∨ z = 2 ∨ z = 3 := by omega
  rcases this with rfl | rfl | rfl | rfl
  · exact ⟨kTp, kF, kT, ⟨kR, ⟨hK, kK1, kK2, kK3⟩, ⟨kD0, kD1, kD2, kD3⟩, kA, kCk, kE⟩, kN, kP, kC, kI0, kI1, kB, kPP⟩
  · exact ⟨kTp, kF, kT, ⟨kR, ⟨kK0, hK, kK2, kK3⟩, ⟨kD0, kD1, kD2, kD3⟩, kA, kCk, kE⟩, kN, kP, kC, kI0, kI1, kB, kPP⟩
  · exact ⟨kTp, kF, kT, ⟨kR, ⟨kK0, kK1, hK, kK3⟩, ⟨kD0, kD1, kD2, kD3⟩, kA, kCk, kE⟩, kN, kP, kC, kI0, kI1, kB, kPP⟩
  · exact ⟨kTp, kF, kT, ⟨kR, ⟨kK0, kK1, kK2, hK⟩, ⟨kD0, kD1, kD2, kD3⟩, kA, kCk, kE⟩, kN, kP, kC, kI0, kI1, kB, kPP⟩
theorem RM_out (hz : z < 4) (hM : RM s I J) : RM s (kset I (34 + 6 * z) n f g) J := by
  have : z = 0 ∨ z = 1 ∨ z = 2 ∨ z = 3 := by omega
  rcases this with rfl | rfl | rfl | rfl <;> exact hM
theorem RC_dig (hz : z < 4) (hC : RC s I J P) (hK : cK n f g l) : RC (setD s z l) (kset I (37 + 6 * z) n f g) J P := by
  obtain ⟨kTp, kF, kT, ⟨kR, ⟨kK0, kK1, kK2, kK3⟩, ⟨kD0, kD1, kD2, kD3⟩, kA, kCk, kE⟩, kN, kP, kC, kI0, kI1, kB, kPP⟩ := hC
  have : z = 0 ∨ z = 1 ∨ z = 2 ∨ z = 3 := by omega
  rcases this with rfl | rfl | rfl | rfl
  · exact ⟨kTp, kF, kT, ⟨kR, ⟨kK0, kK1, kK2, kK3⟩, ⟨hK, kD1, kD2, kD3⟩, kA, kCk, kE⟩, kN, kP, kC, kI0, kI1, kB, kPP⟩
  · exact ⟨kTp, kF, kT, ⟨kR, ⟨kK0, kK1, kK2, kK3⟩, ⟨kD0, hK, kD2, kD3⟩, kA, kCk, kE⟩, kN, kP, kC, kI0, kI1, kB, kPP⟩
  · exact ⟨kTp, kF, kT, ⟨kR, ⟨kK0, kK1, kK2, kK3⟩, ⟨kD0, kD1, hK, kD3⟩, kA, kCk, kE⟩, kN, kP, kC, kI0, kI1, kB, kPP⟩
  · exact ⟨kTp, kF, kT, ⟨kR, ⟨kK0, kK1, kK2, kK3⟩, ⟨kD0, kD1, kD2, hK⟩, kA, kCk, kE⟩, kN, kP, kC, kI0, kI1, kB, kPP⟩
theorem RM_dig (hz : z < 4) (hM : RM s I J) : RM s (kset I (37 + 6 * z) n f g) J := by
  have : z = 0 ∨ z = 1 ∨ z = 2 ∨ z = 3 := by omega
  rcases this with rfl | rfl | rfl | rfl <;> exact hM
end
theorem o_publish_c {d : Nat} {s : zS} {I : Nat → Nat → Int32} {J : Nat → Nat → Int64} {P : Nat → Nat} {z k : Int32} (hO : sOK s) (hC : RC s I J P) (hM : RM s I J) : gTM (d + 9) 141 [.ref 0, .int z, .int k] (gST I J P) (pC s (zk s z k fun n => fIn 3 (s.2.2.1.2.2.1 n) (s.2.2.2.1.2.1 n) k s.2.2.2.1.2.2.2.2.1 (setK s n) s)) := by
  obtain ⟨tp, fn, t, W, nm, pr, ch, i0, i1⟩ := s
  have hO0 := hO
  have hC0 := hC
  have hM0 := hM
  obtain ⟨oTp, oT, oW, oN, oP, oI0, oI1⟩ := hO
  obtain ⟨kTp, kF, kT, kW, kN, kP, kC, kI0, kI1, kB, kPP⟩ := hC
  obtain ⟨jTp, jF, jT, jSp, jW, jN, jP, jC, jI0, jI1, jB, jL⟩ := hM
  dsimp only at oTp oT oW oN oP oI0 oI1 kTp kF kT kW kN kP kC kI0 kI1 jTp jF jT jSp jW jN jP jC jI0 jI1
  try dsimp only
  have h4 := oT.2.1
  by_cases hh : inZ t.1 z ∧ (1 ≤ k ∧ k ≤ 999)
  · obtain ⟨⟨z, hz, rfl⟩, hk⟩ := hh
    have hz4 : z < 4 := by omega
    obtain ⟨hb, hr⟩ := kRow_out (P := P) hz4
    have hK := cK_out kW hz4
    have hl := oW.2.1 z hz4
    have hl3 : (W.2.1 z).length ≤ 3 := by omega
    have e1 := kT.1.2.2.2.1 z hz
    rcases Bool.eq_false_or_eq_true (t.2.2.1 z) with hs | hs
    · rw [hs] at e1
      refine gT_n 4 ?_
      refine ⟨rfl, rfl, rfl, gTM.use (c_has1 oT kT.1 ⟨z, hz, rfl⟩) (Nat.le_refl _) (fun r u hq => ?_)⟩
      obtain ⟨rfl, rfl⟩ := hq  -- X8_has[R12, nI z]
      refine gT_n 1 ?_
      refine ⟨fun c => absurd c (by decide), fun _ => ?_⟩
      refine gT_n 2 ?_
      refine ⟨rfl, gTM.use (c_isKey1 hk) (Nat.le_refl _) (fun r u hq => ?_)⟩
      obtain ⟨rfl, rfl⟩ := hq  -- X11_isKey[k]
      refine gT_n 1 ?_
      refine ⟨fun _ => ?_, fun c => absurd c (by decide)⟩
      refine gT_n 5 ?_
      refine ⟨rfl, rfl, rfl, (pk_in z 4 (by omega) (rfl)), ?_⟩
      refine gT_top (aa_ref (rfl) (by omega) hr) ?_
      refine gT_n 7 ?_
      refine ⟨rfl, rfl, (Or.inr rfl), (pk_in z 4 (by omega) (rfl)), fun c => absurd c (kpT (p := fun z : Int32 => ¬ (z = 0)) (show _ = (1 : Int32) from (rdI (rfl) (by omega) e1)) (by decide)), fun _ => ?_⟩
      refine gT_n 3 ?_
      refine ⟨hb.ob, rfl, gTM.use (c_khas hb hl3 hK) (Nat.le_refl _) (fun r u hq => ?_)⟩
      obtain ⟨rfl, ⟨rfl, β1⟩ | ⟨rfl, β1⟩⟩ := hq  -- X2_has[Rb, k]
      · refine gT_n 1 ?_
        refine ⟨fun c => absurd c (by decide), fun _ => ?_⟩
        refine gT_n 2 ?_
        exact ⟨_, _, I, J, P, rfl, rfl, ⟨(zk_yes hz h4 hk).mpr ((fIn_st rfl β1).mpr ⟨rfl, rfl⟩), hO0⟩, hC0, hM0⟩
      · refine gT_n 1 ?_
        refine ⟨fun _ => ?_, fun c => absurd (by decide) c⟩
        refine gT_n 4 ?_
        refine ⟨hb.ob, pk_lt ((W.2.1 z).length) 3 (fun κ2 => ?_) (fun κ2 => ?_) (hK.1) (rfl) (by omega) (by omega)⟩
        · refine gT_n 6 ?_
          refine ⟨rfl, rfl, hb.ob, rfl, gTM.useA (c_kins hb (by omega) hK) (Nat.le_refl _) (aR (aI (rfl) (aI (kW.2.2.2.2.1) (rfl)))) (fun r u hq => ?_)⟩
          obtain ⟨rfl, n1, f1, g1, rfl, hK1⟩ := hq  -- X2_insert[Rb, k, W.2.2.2.2.1]
          refine gT_n 3 ?_
          refine ⟨hb.ob, ?_⟩
          exact ⟨_, _, _, _, P, rfl, ri (Eq.trans ks_0 hK1.1), ⟨(zk_yes hz h4 hk).mpr ((fIn_ok rfl hs β1 (by omega) rfl).mpr ⟨rfl, rfl⟩), setK_ok hO0 (kins_len (m := 3) (by omega) (by omega))⟩, RC_out hz4 hC0 hK1, RM_out hz4 hM0⟩
        · refine gT_n 2 ?_
          exact ⟨_, _, I, J, P, rfl, rfl, ⟨(zk_yes hz h4 hk).mpr ((fIn_full rfl hs β1 (by omega)).mpr ⟨rfl, rfl⟩), hO0⟩, hC0, hM0⟩
    · rw [hs] at e1
      refine gT_n 4 ?_
      refine ⟨rfl, rfl, rfl, gTM.use (c_has1 oT kT.1 ⟨z, hz, rfl⟩) (Nat.le_refl _) (fun r u hq => ?_)⟩
      obtain ⟨rfl, rfl⟩ := hq  -- X8_has[R12, nI z]
      refine gT_n 1 ?_
      refine ⟨fun c => absurd c (by decide), fun _ => ?_⟩
      refine gT_n 2 ?_
      refine ⟨rfl, gTM.use (c_isKey1 hk) (Nat.le_refl _) (fun r u hq => ?_)⟩
      obtain ⟨rfl, rfl⟩ := hq  -- X11_isKey[k]
      refine gT_n 1 ?_
      refine ⟨fun _ => ?_, fun c => absurd c (by decide)⟩
      refine gT_n 5 ?_
      refine ⟨rfl, rfl, rfl, (pk_in z 4 (by omega) (rfl)), ?_⟩
      refine gT_top (aa_ref (rfl) (by omega) hr) ?_
      refine gT_n 7 ?_
      refine ⟨rfl, rfl, (Or.inr rfl), (pk_in z 4 (by omega) (rfl)), fun _ => ?_, fun c => absurd (kpT (p := fun z : Int32 => z = 0) (show _ = (0 : Int32) from (rdI (rfl) (by omega) e1)) (by decide)) c⟩
      refine gT_n 2 ?_
      exact ⟨_, _, I, J, P, rfl, rfl, ⟨(zk_yes hz h4 hk).mpr ((fIn_pl hs).mpr ⟨rfl, rfl⟩), hO0⟩, hC0, hM0⟩
  · by_cases hz : inZ t.1 z
    · have hk : ¬ (1 ≤ k ∧ k ≤ 999) := fun q => hh ⟨hz, q⟩
      refine gT_n 4 ?_
      refine ⟨rfl, rfl, rfl, gTM.use (c_has1 oT kT.1 hz) (Nat.le_refl _) (fun r u hq => ?_)⟩
      obtain ⟨rfl, rfl⟩ := hq  -- X8_has[R12, z]
      refine gT_n 1 ?_
      refine ⟨fun c => absurd c (by decide), fun _ => ?_⟩
      refine gT_n 2 ?_
      refine ⟨rfl, gTM.use (c_isKey0 hk) (Nat.le_refl _) (fun r u hq => ?_)⟩
      obtain ⟨rfl, rfl⟩ := hq  -- X11_isKey[k]
      refine gT_n 1 ?_
      refine ⟨fun c => absurd (by decide) c, fun _ => ?_⟩
      refine gT_n 2 ?_
      exact ⟨_, _, I, J, P, rfl, rfl, ⟨(zk_no hh).mpr ⟨rfl, rfl⟩, hO0⟩, hC0, hM0⟩
    · refine gT_n 4 ?_
      refine ⟨rfl, rfl, rfl, gTM.use (c_has0 oT kT.1 hz) (Nat.le_refl _) (fun r u hq => ?_)⟩
      obtain ⟨rfl, rfl⟩ := hq  -- X8_has[R12, z]
      refine gT_n 1 ?_
      refine ⟨fun _ => ?_, fun c => absurd (by decide) c⟩
      refine gT_n 2 ?_
      exact ⟨_, _, I, J, P, rfl, rfl, ⟨(zk_no hh).mpr ⟨rfl, rfl⟩, hO0⟩, hC0, hM0⟩
theorem o_publish_m {d : Nat} {s s' : zS} {x : Int32} {I : Nat → Nat → Int32} {J : Nat → Nat → Int64} {P : Nat → Nat} {z k : Int32} (hO : sOK s) (hS : (zk s z k fun n => fIn 3 (s.2.2.1.2.2.1 n) (s.2.2.2.1.2.1 n) k s.2.2.2.1.2.2.2.2.1 (setK s n) s) x s') (hC : RC s' I J P) (hM : RM s I J) : gTM (d + 9) 264 [.ref 171, .int z, .int k] (gST I J P) (pM x s') := by
  obtain ⟨tp, fn, t, W, nm, pr, ch, i0, i1⟩ := s
  have hO0 := hO
  have hM0 := hM
  obtain ⟨oTp, oT, oW, oN, oP, oI0, oI1⟩ := hO
  obtain ⟨jTp, jF, jT, jSp, jW, jN, jP, jC, jI0, jI1, jB, jL⟩ := hM
  dsimp only at oTp oT oW oN oP oI0 oI1 jTp jF jT jSp jW jN jP jC jI0 jI1
  try dsimp only at hS
  have h4 := oT.2.1
  by_cases hh : inZ t.1 z ∧ (1 ≤ k ∧ k ≤ 999)
  · obtain ⟨⟨z, hz, rfl⟩, hk⟩ := hh
    have hz4 : z < 4 := by omega
    replace hS := (zk_yes hz h4 hk).mp hS
    try dsimp only at hS
    have hl := oW.2.1 z hz4
    have e1 := jT.2.2.1 z hz
    have e2 := jW.2.2.2.1 z hz
    have key : gTM (d + 9) 264 [.ref 171, .int (nI z), .int k] (gST (mset3 I z (I 179 z) (fun i => I 177 (3 * z + i)) (fun i => I 178 (3 * z + i))) J P) (pM x s') := by
      have hK : mQ (I 179 z) (fun i => I 177 (3 * z + i)) (fun i => I 178 (3 * z + i)) (W.2.1 z) := jW.2.1 z hz4
      rw [← ms3_self (I := I) (z := z)] at hC hM0
      generalize I 179 z = n at hK hC hM0 ⊢
      generalize (fun i => I 177 (3 * z + i)) = f at hK hC hM0 ⊢
      generalize (fun i => I 178 (3 * z + i)) = g at hK hC hM0 ⊢
      rcases Bool.eq_false_or_eq_true (t.2.2.1 z) with hs | hs
      · rw [hs] at e1
        rw [if_pos hs] at e2
        rcases zK3 hl with hL | ⟨a1, a2, hL⟩ | ⟨a1, a2, b1, b2, hL⟩ | ⟨a1, a2, b1, b2, c1, c2, hL⟩
        · rw [hL] at hK
          refine gT_n 3 ?_
          refine ⟨rfl, rfl, gTM.use (m_isZone1 oT jT ⟨z, hz, rfl⟩) (Nat.le_refl _) (fun r u hq => ?_)⟩
          obtain ⟨rfl, rfl⟩ := hq  -- X12_isZone[R171, nI z]
          refine gT_n 1 ?_
          refine ⟨fun c => absurd c (by decide), fun _ => ?_⟩
          refine gT_n 2 ?_
          refine ⟨rfl, gTM.use (m_isKey1 hk) (Nat.le_refl _) (fun r u hq => ?_)⟩
          obtain ⟨rfl, rfl⟩ := hq  -- X12_isKey[k]
          refine gT_n 1 ?_
          refine ⟨fun _ => ?_, fun c => absurd c (by decide)⟩
          refine gT_n 5 ?_
          refine ⟨rfl, (Or.inr rfl), (pk_in z 4 (by omega) (rfl)), fun c => absurd c (kpT (p := fun z : Int32 => ¬ (z = 0)) (show _ = (1 : Int32) from (rdI (rfl) (by omega) e1)) (by decide)), fun _ => ?_⟩
          refine gT_n 4 ?_
          refine ⟨rfl, rfl, gTM.use (m_kAt0 (l := []) hz4 (show 0 ≤ 3 by decide) hK) (Nat.le_refl _) (fun r u hq => ?_)⟩
          obtain ⟨rfl, ⟨i, hi, rfl, β1, -⟩ | ⟨rfl, β1⟩⟩ := hq  -- X12_keyAt[R171, nI z, k]
          · refine gT_n 2 ?_
            refine ⟨fun c => absurd c (nI_neg (rfl) (Nat.lt_of_lt_of_le hi (show 0 ≤ 2 ^ 31 by decide))), fun _ => ?_⟩
            refine gT_n 2 ?_
            obtain ⟨rfl, rfl⟩ := (fIn_st hL β1).mp hS
            exact ⟨_, J, P, rfl, rfl, hC, hM0⟩
          · refine gT_n 2 ?_
            refine ⟨fun _ => ?_, fun c => absurd (by decide) c⟩
            refine gT_n 6 ?_
            refine ⟨rfl, rfl, (pk_inS (m := 4) (k := z) (rfl) (by omega) ((Eq.trans (rfl) (congrArg nI (show z = z by omega))))), fun _ => ?_, fun c => absurd c (kpT (p := fun z : Int32 => ¬ z = 3) (rdI ((Eq.trans (rfl) (congrArg nI (show z = z by omega)))) (by omega) (Eq.trans (upd_at) ((show _ = (0 : Int32) from hK.1)))) (by decide))⟩
            refine gT_n 5 ?_
            refine ⟨rfl, rfl, (pk_inS (m := 4) (k := z) (rfl) (by omega) ((Eq.trans (rfl) (congrArg nI (show z = z by omega))))), ?_⟩
            refine gT_k (L := [(3, .int 0), (0, .ref 171), (1, .int (nI z)), (2, .int k)]) ?_ ⟨(viI ((rdI ((Eq.trans (rfl) (congrArg nI (show z = z by omega)))) (by omega) (Eq.trans (upd_at) ((show _ = (0 : Int32) from hK.1)))))), rfl, rfl, rfl, trivial⟩ rfl
            refine gT_n 2 ?_
            refine ⟨fun _ => ?_, fun c => absurd (by decide) c⟩
            refine gT_n 9 ?_
            refine ⟨rfl, rfl, (pk_inS (m := 12) (k := 3 * z + 0) (rfl) (by omega) ((Eq.trans (pk_addE (n := (3 * z)) (k := 0) (pk_mulE (n := 3) (k := z) (rfl) (rfl)) (rfl)) (congrArg nI (show ((3 * z) + 0) = 3 * z + 0 by omega))))), ?_⟩
            refine gT_ms3f (k := 0) (X := k) ((Eq.trans (pk_addE (n := (3 * z)) (k := 0) (pk_mulE (n := 3) (k := z) (rfl) (rfl)) (rfl)) (congrArg nI (show ((3 * z) + 0) = 3 * z + 0 by omega)))) (by omega) (by decide) (rfl) ?_
            refine gT_n 10 ?_
            refine ⟨rfl, rfl, rfl, (pk_inS (m := 12) (k := 3 * z + 0) (rfl) (by omega) ((Eq.trans (pk_addE (n := (3 * z)) (k := 0) (pk_mulE (n := 3) (k := z) (rfl) (rfl)) (rfl)) (congrArg nI (show ((3 * z) + 0) = 3 * z + 0 by omega))))), ?_⟩
            refine gT_ms3g (k := 0) (X := W.2.2.2.2.1) ((Eq.trans (pk_addE (n := (3 * z)) (k := 0) (pk_mulE (n := 3) (k := z) (rfl) (rfl)) (rfl)) (congrArg nI (show ((3 * z) + 0) = 3 * z + 0 by omega)))) (by omega) (by decide) (jW.2.2.2.2.1) ?_
            refine gT_n 8 ?_
            refine ⟨rfl, rfl, (pk_inS (m := 4) (k := z) (rfl) (by omega) ((Eq.trans (rfl) (congrArg nI (show z = z by omega))))), rfl, (pk_inS (m := 4) (k := z) (rfl) (by omega) ((Eq.trans (rfl) (congrArg nI (show z = z by omega))))), ?_⟩
            refine gT_ms3n (k := 0) (X := 1) ((Eq.trans (rfl) (congrArg nI (show z = z by omega)))) (by omega) (by decide) ((k2E (f := fun x y : Int32 => x + y) (rdI ((Eq.trans (rfl) (congrArg nI (show z = z by omega)))) (by omega) (Eq.trans (upd_at) ((show _ = (0 : Int32) from hK.1)))) (rfl : _ = (1 : Int32)) (show ((0 : Int32) + 1) = 1 by decide))) ?_
            refine gT_n 5 ?_
            refine ⟨rfl, rfl, (pk_inS (m := 4) (k := z) (rfl) (by omega) ((Eq.trans (rfl) (congrArg nI (show z = z by omega))))), ?_⟩
            obtain ⟨rfl, rfl⟩ := (fIn_ok hL hs β1 (show 0 < 3 by decide) (show _ = [(k, W.2.2.2.2.1)] from rfl)).mp hS
            exact ⟨_, J, P, rfl, ri ((rdI ((Eq.trans (rfl) (congrArg nI (show z = z by omega)))) (by omega) (Eq.trans (upd_at) (rfl)))), hC, ⟨jTp, jF, jT, jSp, ⟨jW.1, mKs_set jW.2.1 oW.2.1 (mQ1 (rfl) ⟨rfl, rfl⟩) (show 1 ≤ 3 by decide), jW.2.2.1, jW.2.2.2⟩, jN, jP, jC, jI0, jI1, jB, jL⟩⟩
        · rw [hL] at hK
          refine gT_n 3 ?_
          refine ⟨rfl, rfl, gTM.use (m_isZone1 oT jT ⟨z, hz, rfl⟩) (Nat.le_refl _) (fun r u hq => ?_)⟩
          obtain ⟨rfl, rfl⟩ := hq  -- X12_isZone[R171, nI z]
          refine gT_n 1 ?_
          refine ⟨fun c => absurd c (by decide), fun _ => ?_⟩
          refine gT_n 2 ?_
          refine ⟨rfl, gTM.use (m_isKey1 hk) (Nat.le_refl _) (fun r u hq => ?_)⟩
          obtain ⟨rfl, rfl⟩ := hq  -- X12_isKey[k]
          refine gT_n 1 ?_
          refine ⟨fun _ => ?_, fun c => absurd c (by decide)⟩
          refine gT_n 5 ?_
          refine ⟨rfl, (Or.inr rfl), (pk_in z 4 (by omega) (rfl)), fun c => absurd c (kpT (p := fun z : Int32 => ¬ (z = 0)) (show _ = (1 : Int32) from (rdI (rfl) (by omega) e1)) (by decide)), fun _ => ?_⟩
          refine gT_n 4 ?_
          refine ⟨rfl, rfl, gTM.use (m_kAt0 (l := [(a1, a2)]) hz4 (show 1 ≤ 3 by decide) hK) (Nat.le_refl _) (fun r u hq => ?_)⟩
          obtain ⟨rfl, ⟨i, hi, rfl, β1, -⟩ | ⟨rfl, β1⟩⟩ := hq  -- X12_keyAt[R171, nI z, k]
          · refine gT_n 2 ?_
            refine ⟨fun c => absurd c (nI_neg (rfl) (Nat.lt_of_lt_of_le hi (show 1 ≤ 2 ^ 31 by decide))), fun _ => ?_⟩
            refine gT_n 2 ?_
            obtain ⟨rfl, rfl⟩ := (fIn_st hL β1).mp hS
            exact ⟨_, J, P, rfl, rfl, hC, hM0⟩
          · refine gT_n 2 ?_
            refine ⟨fun _ => ?_, fun c => absurd (by decide) c⟩
            refine gT_n 6 ?_
            refine ⟨rfl, rfl, (pk_inS (m := 4) (k := z) (rfl) (by omega) ((Eq.trans (rfl) (congrArg nI (show z = z by omega))))), fun _ => ?_, fun c => absurd c (kpT (p := fun z : Int32 => ¬ z = 3) (rdI ((Eq.trans (rfl) (congrArg nI (show z = z by omega)))) (by omega) (Eq.trans (upd_at) ((show _ = (1 : Int32) from hK.1)))) (by decide))⟩
            refine gT_n 5 ?_
            refine ⟨rfl, rfl, (pk_inS (m := 4) (k := z) (rfl) (by omega) ((Eq.trans (rfl) (congrArg nI (show z = z by omega))))), ?_⟩
            refine gT_k (L := [(3, .int 1), (0, .ref 171), (1, .int (nI z)), (2, .int k)]) ?_ ⟨(viI ((rdI ((Eq.trans (rfl) (congrArg nI (show z = z by omega)))) (by omega) (Eq.trans (upd_at) ((show _ = (1 : Int32) from hK.1)))))), rfl, rfl, rfl, trivial⟩ rfl
            refine gT_n 2 ?_
            refine ⟨fun c => absurd c (by decide), fun _ => ?_⟩
            refine gT_n 12 ?_
            refine ⟨rfl, rfl, (pk_inS (m := 12) (k := 3 * z + 0) (rfl) (by omega) ((Eq.trans (pk_subE (n := ((3 * z) + 1)) (k := 1) (pk_addE (n := (3 * z)) (k := 1) (pk_mulE (n := 3) (k := z) (rfl) (rfl)) (rfl)) (rfl) (by omega)) (congrArg nI (show (((3 * z) + 1) - 1) = 3 * z + 0 by omega))))), px_le (X := a1) (Y := k) ((rdI ((Eq.trans (pk_subE (n := ((3 * z) + 1)) (k := 1) (pk_addE (n := (3 * z)) (k := 1) (pk_mulE (n := 3) (k := z) (rfl) (rfl)) (rfl)) (rfl) (by omega)) (congrArg nI (show (((3 * z) + 1) - 1) = 3 * z + 0 by omega)))) (by omega) (Eq.trans (rowup_in (by decide)) ((hK.2 0 (show 0 < 1 by decide)).1)))) (rfl) (fun κ1 => ?_) (fun κ1 => ?_)⟩
            · refine gT_n 9 ?_
              refine ⟨rfl, rfl, (pk_inS (m := 12) (k := 3 * z + 1) (rfl) (by omega) ((Eq.trans (pk_addE (n := (3 * z)) (k := 1) (pk_mulE (n := 3) (k := z) (rfl) (rfl)) (rfl)) (congrArg nI (show ((3 * z) + 1) = 3 * z + 1 by omega))))), ?_⟩
              refine gT_ms3f (k := 1) (X := k) ((Eq.trans (pk_addE (n := (3 * z)) (k := 1) (pk_mulE (n := 3) (k := z) (rfl) (rfl)) (rfl)) (congrArg nI (show ((3 * z) + 1) = 3 * z + 1 by omega)))) (by omega) (by decide) (rfl) ?_
              refine gT_n 10 ?_
              refine ⟨rfl, rfl, rfl, (pk_inS (m := 12) (k := 3 * z + 1) (rfl) (by omega) ((Eq.trans (pk_addE (n := (3 * z)) (k := 1) (pk_mulE (n := 3) (k := z) (rfl) (rfl)) (rfl)) (congrArg nI (show ((3 * z) + 1) = 3 * z + 1 by omega))))), ?_⟩
              refine gT_ms3g (k := 1) (X := W.2.2.2.2.1) ((Eq.trans (pk_addE (n := (3 * z)) (k := 1) (pk_mulE (n := 3) (k := z) (rfl) (rfl)) (rfl)) (congrArg nI (show ((3 * z) + 1) = 3 * z + 1 by omega)))) (by omega) (by decide) (jW.2.2.2.2.1) ?_
              refine gT_n 8 ?_
              refine ⟨rfl, rfl, (pk_inS (m := 4) (k := z) (rfl) (by omega) ((Eq.trans (rfl) (congrArg nI (show z = z by omega))))), rfl, (pk_inS (m := 4) (k := z) (rfl) (by omega) ((Eq.trans (rfl) (congrArg nI (show z = z by omega))))), ?_⟩
              refine gT_ms3n (k := 0) (X := 2) ((Eq.trans (rfl) (congrArg nI (show z = z by omega)))) (by omega) (by decide) ((k2E (f := fun x y : Int32 => x + y) (rdI ((Eq.trans (rfl) (congrArg nI (show z = z by omega)))) (by omega) (Eq.trans (upd_at) ((show _ = (1 : Int32) from hK.1)))) (rfl : _ = (1 : Int32)) (show ((1 : Int32) + 1) = 2 by decide))) ?_
              refine gT_n 5 ?_
              refine ⟨rfl, rfl, (pk_inS (m := 4) (k := z) (rfl) (by omega) ((Eq.trans (rfl) (congrArg nI (show z = z by omega))))), ?_⟩
              obtain ⟨rfl, rfl⟩ := (fIn_ok hL hs β1 (show 1 < 3 by decide) (show _ = [(a1, a2), (k, W.2.2.2.2.1)] from (if_neg (Int32.not_lt.mpr κ1)))).mp hS
              exact ⟨_, J, P, rfl, ri ((rdI ((Eq.trans (rfl) (congrArg nI (show z = z by omega)))) (by omega) (Eq.trans (upd_at) (rfl)))), hC, ⟨jTp, jF, jT, jSp, ⟨jW.1, mKs_set jW.2.1 oW.2.1 (mQ2 (rfl) ⟨(hK.2 0 (show 0 < 1 by decide)).1, (hK.2 0 (show 0 < 1 by decide)).2⟩ ⟨rfl, rfl⟩) (show 2 ≤ 3 by decide), jW.2.2.1, jW.2.2.2⟩, jN, jP, jC, jI0, jI1, jB, jL⟩⟩
            · refine gT_n 18 ?_
              refine ⟨rfl, rfl, rfl, (pk_inS (m := 12) (k := 3 * z + 0) (rfl) (by omega) ((Eq.trans (pk_subE (n := ((3 * z) + 1)) (k := 1) (pk_addE (n := (3 * z)) (k := 1) (pk_mulE (n := 3) (k := z) (rfl) (rfl)) (rfl)) (rfl) (by omega)) (congrArg nI (show (((3 * z) + 1) - 1) = 3 * z + 0 by omega))))), rfl, (pk_inS (m := 12) (k := 3 * z + 1) (rfl) (by omega) ((Eq.trans (pk_addE (n := (3 * z)) (k := 1) (pk_mulE (n := 3) (k := z) (rfl) (rfl)) (rfl)) (congrArg nI (show ((3 * z) + 1) = 3 * z + 1 by omega))))), ?_⟩
              refine gT_ms3f (k := 1) (X := a1) ((Eq.trans (pk_addE (n := (3 * z)) (k := 1) (pk_mulE (n := 3) (k := z) (rfl) (rfl)) (rfl)) (congrArg nI (show ((3 * z) + 1) = 3 * z + 1 by omega)))) (by omega) (by decide) ((rdI ((Eq.trans (pk_subE (n := ((3 * z) + 1)) (k := 1) (pk_addE (n := (3 * z)) (k := 1) (pk_mulE (n := 3) (k := z) (rfl) (rfl)) (rfl)) (rfl) (by omega)) (congrArg nI (show (((3 * z) + 1) - 1) = 3 * z + 0 by omega)))) (by omega) (Eq.trans (rowup_in (by decide)) ((hK.2 0 (show 0 < 1 by decide)).1)))) ?_
              refine gT_n 18 ?_
              refine ⟨rfl, rfl, rfl, (pk_inS (m := 12) (k := 3 * z + 0) (rfl) (by omega) ((Eq.trans (pk_subE (n := ((3 * z) + 1)) (k := 1) (pk_addE (n := (3 * z)) (k := 1) (pk_mulE (n := 3) (k := z) (rfl) (rfl)) (rfl)) (rfl) (by omega)) (congrArg nI (show (((3 * z) + 1) - 1) = 3 * z + 0 by omega))))), rfl, (pk_inS (m := 12) (k := 3 * z + 1) (rfl) (by omega) ((Eq.trans (pk_addE (n := (3 * z)) (k := 1) (pk_mulE (n := 3) (k := z) (rfl) (rfl)) (rfl)) (congrArg nI (show ((3 * z) + 1) = 3 * z + 1 by omega))))), ?_⟩
              refine gT_ms3g (k := 1) (X := a2) ((Eq.trans (pk_addE (n := (3 * z)) (k := 1) (pk_mulE (n := 3) (k := z) (rfl) (rfl)) (rfl)) (congrArg nI (show ((3 * z) + 1) = 3 * z + 1 by omega)))) (by omega) (by decide) ((rdI ((Eq.trans (pk_subE (n := ((3 * z) + 1)) (k := 1) (pk_addE (n := (3 * z)) (k := 1) (pk_mulE (n := 3) (k := z) (rfl) (rfl)) (rfl)) (rfl) (by omega)) (congrArg nI (show (((3 * z) + 1) - 1) = 3 * z + 0 by omega)))) (by omega) (Eq.trans (rowup_in (by decide)) ((hK.2 0 (show 0 < 1 by decide)).2)))) ?_
              refine gT_n 4 ?_
              refine ⟨fun _ => ?_, fun c => absurd (by decide) c⟩
              refine gT_n 9 ?_
              refine ⟨rfl, rfl, (pk_inS (m := 12) (k := 3 * z + 0) (rfl) (by omega) ((Eq.trans (pk_addE (n := (3 * z)) (k := 0) (pk_mulE (n := 3) (k := z) (rfl) (rfl)) (rfl)) (congrArg nI (show ((3 * z) + 0) = 3 * z + 0 by omega))))), ?_⟩
              refine gT_ms3f (k := 0) (X := k) ((Eq.trans (pk_addE (n := (3 * z)) (k := 0) (pk_mulE (n := 3) (k := z) (rfl) (rfl)) (rfl)) (congrArg nI (show ((3 * z) + 0) = 3 * z + 0 by omega)))) (by omega) (by decide) (rfl) ?_
              refine gT_n 10 ?_
              refine ⟨rfl, rfl, rfl, (pk_inS (m := 12) (k := 3 * z + 0) (rfl) (by omega) ((Eq.trans (pk_addE (n := (3 * z)) (k := 0) (pk_mulE (n := 3) (k := z) (rfl) (rfl)) (rfl)) (congrArg nI (show ((3 * z) + 0) = 3 * z + 0 by omega))))), ?_⟩
              refine gT_ms3g (k := 0) (X := W.2.2.2.2.1) ((Eq.trans (pk_addE (n := (3 * z)) (k := 0) (pk_mulE (n := 3) (k := z) (rfl) (rfl)) (rfl)) (congrArg nI (show ((3 * z) + 0) = 3 * z + 0 by omega)))) (by omega) (by decide) (jW.2.2.2.2.1) ?_
              refine gT_n 8 ?_
              refine ⟨rfl, rfl, (pk_inS (m := 4) (k := z) (rfl) (by omega) ((Eq.trans (rfl) (congrArg nI (show z = z by omega))))), rfl, (pk_inS (m := 4) (k := z) (rfl) (by omega) ((Eq.trans (rfl) (congrArg nI (show z = z by omega))))), ?_⟩
              refine gT_ms3n (k := 0) (X := 2) ((Eq.trans (rfl) (congrArg nI (show z = z by omega)))) (by omega) (by decide) ((k2E (f := fun x y : Int32 => x + y) (rdI ((Eq.trans (rfl) (congrArg nI (show z = z by omega)))) (by omega) (Eq.trans (upd_at) ((show _ = (1 : Int32) from hK.1)))) (rfl : _ = (1 : Int32)) (show ((1 : Int32) + 1) = 2 by decide))) ?_
              refine gT_n 5 ?_
              refine ⟨rfl, rfl, (pk_inS (m := 4) (k := z) (rfl) (by omega) ((Eq.trans (rfl) (congrArg nI (show z = z by omega))))), ?_⟩
              obtain ⟨rfl, rfl⟩ := (fIn_ok hL hs β1 (show 1 < 3 by decide) (show _ = [(k, W.2.2.2.2.1), (a1, a2)] from (if_pos (Int32.not_le.mp κ1)))).mp hS
              exact ⟨_, J, P, rfl, ri ((rdI ((Eq.trans (rfl) (congrArg nI (show z = z by omega)))) (by omega) (Eq.trans (upd_at) (rfl)))), hC, ⟨jTp, jF, jT, jSp, ⟨jW.1, mKs_set jW.2.1 oW.2.1 (mQ2 (rfl) ⟨rfl, rfl⟩ ⟨rfl, rfl⟩) (show 2 ≤ 3 by decide), jW.2.2.1, jW.2.2.2⟩, jN, jP, jC, jI0, jI1, jB, jL⟩⟩
        · rw [hL] at hK
          refine gT_n 3 ?_
          refine ⟨rfl, rfl, gTM.use (m_isZone1 oT jT ⟨z, hz, rfl⟩) (Nat.le_refl _) (fun r u hq => ?_)⟩
          obtain ⟨rfl, rfl⟩ := hq  -- X12_isZone[R171, nI z]
          refine gT_n 1 ?_
          refine ⟨fun c => absurd c (by decide), fun _ => ?_⟩
          refine gT_n 2 ?_
          refine ⟨rfl, gTM.use (m_isKey1 hk) (Nat.le_refl _) (fun r u hq => ?_)⟩
          obtain ⟨rfl, rfl⟩ := hq  -- X12_isKey[k]
          refine gT_n 1 ?_
          refine ⟨fun _ => ?_, fun c => absurd c (by decide)⟩
          refine gT_n 5 ?_
          refine ⟨rfl, (Or.inr rfl), (pk_in z 4 (by omega) (rfl)), fun c => absurd c (kpT (p := fun z : Int32 => ¬ (z = 0)) (show _ = (1 : Int32) from (rdI (rfl) (by omega) e1)) (by decide)), fun _ => ?_⟩
          refine gT_n 4 ?_
          refine ⟨rfl, rfl, gTM.use (m_kAt0 (l := [(a1, a2), (b1, b2)]) hz4 (show 2 ≤ 3 by decide) hK) (Nat.le_refl _) (fun r u hq => ?_)⟩
          obtain ⟨rfl, ⟨i, hi, rfl, β1, -⟩ | ⟨rfl, β1⟩⟩ := hq  -- X12_keyAt[R171, nI z, k]
          · refine gT_n 2 ?_
            refine ⟨fun c => absurd c (nI_neg (rfl) (Nat.lt_of_lt_of_le hi (show 2 ≤ 2 ^ 31 by decide))), fun _ => ?_⟩
            refine gT_n 2 ?_
            obtain ⟨rfl, rfl⟩ := (fIn_st hL β1).mp hS
            exact ⟨_, J, P, rfl, rfl, hC, hM0⟩
          · refine gT_n 2 ?_
            refine ⟨fun _ => ?_, fun c => absurd (by decide) c⟩
            refine gT_n 6 ?_
            refine ⟨rfl, rfl, (pk_inS (m := 4) (k := z) (rfl) (by omega) ((Eq.trans (rfl) (congrArg nI (show z = z by omega))))), fun _ => ?_, fun c => absurd c (kpT (p := fun z : Int32 => ¬ z = 3) (rdI ((Eq.trans (rfl) (congrArg nI (show z = z by omega)))) (by omega) (Eq.trans (upd_at) ((show _ = (2 : Int32) from hK.1)))) (by decide))⟩
            refine gT_n 5 ?_
            refine ⟨rfl, rfl, (pk_inS (m := 4) (k := z) (rfl) (by omega) ((Eq.trans (rfl) (congrArg nI (show z = z by omega))))), ?_⟩
            refine gT_k (L := [(3, .int 2), (0, .ref 171), (1, .int (nI z)), (2, .int k)]) ?_ ⟨(viI ((rdI ((Eq.trans (rfl) (congrArg nI (show z = z by omega)))) (by omega) (Eq.trans (upd_at) ((show _ = (2 : Int32) from hK.1)))))), rfl, rfl, rfl, trivial⟩ rfl
            refine gT_n 2 ?_
            refine ⟨fun c => absurd c (by decide), fun _ => ?_⟩
            refine gT_n 12 ?_
            refine ⟨rfl, rfl, (pk_inS (m := 12) (k := 3 * z + 1) (rfl) (by omega) ((Eq.trans (pk_subE (n := ((3 * z) + 2)) (k := 1) (pk_addE (n := (3 * z)) (k := 2) (pk_mulE (n := 3) (k := z) (rfl) (rfl)) (rfl)) (rfl) (by omega)) (congrArg nI (show (((3 * z) + 2) - 1) = 3 * z + 1 by omega))))), px_le (X := b1) (Y := k) ((rdI ((Eq.trans (pk_subE (n := ((3 * z) + 2)) (k := 1) (pk_addE (n := (3 * z)) (k := 2) (pk_mulE (n := 3) (k := z) (rfl) (rfl)) (rfl)) (rfl) (by omega)) (congrArg nI (show (((3 * z) + 2) - 1) = 3 * z + 1 by omega)))) (by omega) (Eq.trans (rowup_in (by decide)) ((hK.2 1 (show 1 < 2 by decide)).1)))) (rfl) (fun κ1 => ?_) (fun κ1 => ?_)⟩
            · refine gT_n 9 ?_
              refine ⟨rfl, rfl, (pk_inS (m := 12) (k := 3 * z + 2) (rfl) (by omega) ((Eq.trans (pk_addE (n := (3 * z)) (k := 2) (pk_mulE (n := 3) (k := z) (rfl) (rfl)) (rfl)) (congrArg nI (show ((3 * z) + 2) = 3 * z + 2 by omega))))), ?_⟩
              refine gT_ms3f (k := 2) (X := k) ((Eq.trans (pk_addE (n := (3 * z)) (k := 2) (pk_mulE (n := 3) (k := z) (rfl) (rfl)) (rfl)) (congrArg nI (show ((3 * z) + 2) = 3 * z + 2 by omega)))) (by omega) (by decide) (rfl) ?_
              refine gT_n 10 ?_
              refine ⟨rfl, rfl, rfl, (pk_inS (m := 12) (k := 3 * z + 2) (rfl) (by omega) ((Eq.trans (pk_addE (n := (3 * z)) (k := 2) (pk_mulE (n := 3) (k := z) (rfl) (rfl)) (rfl)) (congrArg nI (show ((3 * z) + 2) = 3 * z + 2 by omega))))), ?_⟩
              refine gT_ms3g (k := 2) (X := W.2.2.2.2.1) ((Eq.trans (pk_addE (n := (3 * z)) (k := 2) (pk_mulE (n := 3) (k := z) (rfl) (rfl)) (rfl)) (congrArg nI (show ((3 * z) + 2) = 3 * z + 2 by omega)))) (by omega) (by decide) (jW.2.2.2.2.1) ?_
              refine gT_n 8 ?_
              refine ⟨rfl, rfl, (pk_inS (m := 4) (k := z) (rfl) (by omega) ((Eq.trans (rfl) (congrArg nI (show z = z by omega))))), rfl, (pk_inS (m := 4) (k := z) (rfl) (by omega) ((Eq.trans (rfl) (congrArg nI (show z = z by omega))))), ?_⟩
              refine gT_ms3n (k := 0) (X := 3) ((Eq.trans (rfl) (congrArg nI (show z = z by omega)))) (by omega) (by decide) ((k2E (f := fun x y : Int32 => x + y) (rdI ((Eq.trans (rfl) (congrArg nI (show z = z by omega)))) (by omega) (Eq.trans (upd_at) ((show _ = (2 : Int32) from hK.1)))) (rfl : _ = (1 : Int32)) (show ((2 : Int32) + 1) = 3 by decide))) ?_
              refine gT_n 5 ?_
              refine ⟨rfl, rfl, (pk_inS (m := 4) (k := z) (rfl) (by omega) ((Eq.trans (rfl) (congrArg nI (show z = z by omega))))), ?_⟩
              obtain ⟨rfl, rfl⟩ := (fIn_ok hL hs β1 (show 2 < 3 by decide) (show _ = [(a1, a2), (b1, b2), (k, W.2.2.2.2.1)] from (if_neg (Int32.not_lt.mpr κ1)))).mp hS
              exact ⟨_, J, P, rfl, ri ((rdI ((Eq.trans (rfl) (congrArg nI (show z = z by omega)))) (by omega) (Eq.trans (upd_at) (rfl)))), hC, ⟨jTp, jF, jT, jSp, ⟨jW.1, mKs_set jW.2.1 oW.2.1 (mQ3 (rfl) ⟨(hK.2 0 (show 0 < 2 by decide)).1, (hK.2 0 (show 0 < 2 by decide)).2⟩ ⟨(hK.2 1 (show 1 < 2 by decide)).1, (hK.2 1 (show 1 < 2 by decide)).2⟩ ⟨rfl, rfl⟩) (show 3 ≤ 3 by decide), jW.2.2.1, jW.2.2.2⟩, jN, jP, jC, jI0, jI1, jB, jL⟩⟩
            · refine gT_n 18 ?_
              refine ⟨rfl, rfl, rfl, (pk_inS (m := 12) (k := 3 * z + 1) (rfl) (by omega) ((Eq.trans (pk_subE (n := ((3 * z) + 2)) (k := 1) (pk_addE (n := (3 * z)) (k := 2) (pk_mulE (n := 3) (k := z) (rfl) (rfl)) (rfl)) (rfl) (by omega)) (congrArg nI (show (((3 * z) + 2) - 1) = 3 * z + 1 by omega))))), rfl, (pk_inS (m := 12) (k := 3 * z + 2) (rfl) (by omega) ((Eq.trans (pk_addE (n := (3 * z)) (k := 2) (pk_mulE (n := 3) (k := z) (rfl) (rfl)) (rfl)) (congrArg nI (show ((3 * z) + 2) = 3 * z + 2 by omega))))), ?_⟩
              refine gT_ms3f (k := 2) (X := b1) ((Eq.trans (pk_addE (n := (3 * z)) (k := 2) (pk_mulE (n := 3) (k := z) (rfl) (rfl)) (rfl)) (congrArg nI (show ((3 * z) + 2) = 3 * z + 2 by omega)))) (by omega) (by decide) ((rdI ((Eq.trans (pk_subE (n := ((3 * z) + 2)) (k := 1) (pk_addE (n := (3 * z)) (k := 2) (pk_mulE (n := 3) (k := z) (rfl) (rfl)) (rfl)) (rfl) (by omega)) (congrArg nI (show (((3 * z) + 2) - 1) = 3 * z + 1 by omega)))) (by omega) (Eq.trans (rowup_in (by decide)) ((hK.2 1 (show 1 < 2 by decide)).1)))) ?_
              refine gT_n 18 ?_
              refine ⟨rfl, rfl, rfl, (pk_inS (m := 12) (k := 3 * z + 1) (rfl) (by omega) ((Eq.trans (pk_subE (n := ((3 * z) + 2)) (k := 1) (pk_addE (n := (3 * z)) (k := 2) (pk_mulE (n := 3) (k := z) (rfl) (rfl)) (rfl)) (rfl) (by omega)) (congrArg nI (show (((3 * z) + 2) - 1) = 3 * z + 1 by omega))))), rfl, (pk_inS (m := 12) (k := 3 * z + 2) (rfl) (by omega) ((Eq.trans (pk_addE (n := (3 * z)) (k := 2) (pk_mulE (n := 3) (k := z) (rfl) (rfl)) (rfl)) (congrArg nI (show ((3 * z) + 2) = 3 * z + 2 by omega))))), ?_⟩
              refine gT_ms3g (k := 2) (X := b2) ((Eq.trans (pk_addE (n := (3 * z)) (k := 2) (pk_mulE (n := 3) (k := z) (rfl) (rfl)) (rfl)) (congrArg nI (show ((3 * z) + 2) = 3 * z + 2 by omega)))) (by omega) (by decide) ((rdI ((Eq.trans (pk_subE (n := ((3 * z) + 2)) (k := 1) (pk_addE (n := (3 * z)) (k := 2) (pk_mulE (n := 3) (k := z) (rfl) (rfl)) (rfl)) (rfl) (by omega)) (congrArg nI (show (((3 * z) + 2) - 1) = 3 * z + 1 by omega)))) (by omega) (Eq.trans (rowup_in (by decide)) ((hK.2 1 (show 1 < 2 by decide)).2)))) ?_
              refine gT_n 4 ?_
              refine ⟨fun c => absurd c (by decide), fun _ => ?_⟩
              refine gT_n 12 ?_
              refine ⟨rfl, rfl, (pk_inS (m := 12) (k := 3 * z + 0) (rfl) (by omega) ((Eq.trans (pk_subE (n := ((3 * z) + 1)) (k := 1) (pk_addE (n := (3 * z)) (k := 1) (pk_mulE (n := 3) (k := z) (rfl) (rfl)) (rfl)) (rfl) (by omega)) (congrArg nI (show (((3 * z) + 1) - 1) = 3 * z + 0 by omega))))), px_le (X := a1) (Y := k) ((rdI ((Eq.trans (pk_subE (n := ((3 * z) + 1)) (k := 1) (pk_addE (n := (3 * z)) (k := 1) (pk_mulE (n := 3) (k := z) (rfl) (rfl)) (rfl)) (rfl) (by omega)) (congrArg nI (show (((3 * z) + 1) - 1) = 3 * z + 0 by omega)))) (by omega) (Eq.trans (rowup_in (by decide)) ((hK.2 0 (show 0 < 2 by decide)).1)))) (rfl) (fun κ2 => ?_) (fun κ2 => ?_)⟩
              · refine gT_n 9 ?_
                refine ⟨rfl, rfl, (pk_inS (m := 12) (k := 3 * z + 1) (rfl) (by omega) ((Eq.trans (pk_addE (n := (3 * z)) (k := 1) (pk_mulE (n := 3) (k := z) (rfl) (rfl)) (rfl)) (congrArg nI (show ((3 * z) + 1) = 3 * z + 1 by omega))))), ?_⟩
                refine gT_ms3f (k := 1) (X := k) ((Eq.trans (pk_addE (n := (3 * z)) (k := 1) (pk_mulE (n := 3) (k := z) (rfl) (rfl)) (rfl)) (congrArg nI (show ((3 * z) + 1) = 3 * z + 1 by omega)))) (by omega) (by decide) (rfl) ?_
                refine gT_n 10 ?_
                refine ⟨rfl, rfl, rfl, (pk_inS (m := 12) (k := 3 * z + 1) (rfl) (by omega) ((Eq.trans (pk_addE (n := (3 * z)) (k := 1) (pk_mulE (n := 3) (k := z) (rfl) (rfl)) (rfl)) (congrArg nI (show ((3 * z) + 1) = 3 * z + 1 by omega))))), ?_⟩
                refine gT_ms3g (k := 1) (X := W.2.2.2.2.1) ((Eq.trans (pk_addE (n := (3 * z)) (k := 1) (pk_mulE (n := 3) (k := z) (rfl) (rfl)) (rfl)) (congrArg nI (show ((3 * z) + 1) = 3 * z + 1 by omega)))) (by omega) (by decide) (jW.2.2.2.2.1) ?_
                refine gT_n 8 ?_
                refine ⟨rfl, rfl, (pk_inS (m := 4) (k := z) (rfl) (by omega) ((Eq.trans (rfl) (congrArg nI (show z = z by omega))))), rfl, (pk_inS (m := 4) (k := z) (rfl) (by omega) ((Eq.trans (rfl) (congrArg nI (show z = z by omega))))), ?_⟩
                refine gT_ms3n (k := 0) (X := 3) ((Eq.trans (rfl) (congrArg nI (show z = z by omega)))) (by omega) (by decide) ((k2E (f := fun x y : Int32 => x + y) (rdI ((Eq.trans (rfl) (congrArg nI (show z = z by omega)))) (by omega) (Eq.trans (upd_at) ((show _ = (2 : Int32) from hK.1)))) (rfl : _ = (1 : Int32)) (show ((2 : Int32) + 1) = 3 by decide))) ?_
                refine gT_n 5 ?_
                refine ⟨rfl, rfl, (pk_inS (m := 4) (k := z) (rfl) (by omega) ((Eq.trans (rfl) (congrArg nI (show z = z by omega))))), ?_⟩
                obtain ⟨rfl, rfl⟩ := (fIn_ok hL hs β1 (show 2 < 3 by decide) (show _ = [(a1, a2), (k, W.2.2.2.2.1), (b1, b2)] from (Eq.trans (if_pos (Int32.not_le.mp κ1)) (if_neg (Int32.not_lt.mpr κ2))))).mp hS
                exact ⟨_, J, P, rfl, ri ((rdI ((Eq.trans (rfl) (congrArg nI (show z = z by omega)))) (by omega) (Eq.trans (upd_at) (rfl)))), hC, ⟨jTp, jF, jT, jSp, ⟨jW.1, mKs_set jW.2.1 oW.2.1 (mQ3 (rfl) ⟨(hK.2 0 (show 0 < 2 by decide)).1, (hK.2 0 (show 0 < 2 by decide)).2⟩ ⟨rfl, rfl⟩ ⟨rfl, rfl⟩) (show 3 ≤ 3 by decide), jW.2.2.1, jW.2.2.2⟩, jN, jP, jC, jI0, jI1, jB, jL⟩⟩
              · refine gT_n 18 ?_
                refine ⟨rfl, rfl, rfl, (pk_inS (m := 12) (k := 3 * z + 0) (rfl) (by omega) ((Eq.trans (pk_subE (n := ((3 * z) + 1)) (k := 1) (pk_addE (n := (3 * z)) (k := 1) (pk_mulE (n := 3) (k := z) (rfl) (rfl)) (rfl)) (rfl) (by omega)) (congrArg nI (show (((3 * z) + 1) - 1) = 3 * z + 0 by omega))))), rfl, (pk_inS (m := 12) (k := 3 * z + 1) (rfl) (by omega) ((Eq.trans (pk_addE (n := (3 * z)) (k := 1) (pk_mulE (n := 3) (k := z) (rfl) (rfl)) (rfl)) (congrArg nI (show ((3 * z) + 1) = 3 * z + 1 by omega))))), ?_⟩
                refine gT_ms3f (k := 1) (X := a1) ((Eq.trans (pk_addE (n := (3 * z)) (k := 1) (pk_mulE (n := 3) (k := z) (rfl) (rfl)) (rfl)) (congrArg nI (show ((3 * z) + 1) = 3 * z + 1 by omega)))) (by omega) (by decide) ((rdI ((Eq.trans (pk_subE (n := ((3 * z) + 1)) (k := 1) (pk_addE (n := (3 * z)) (k := 1) (pk_mulE (n := 3) (k := z) (rfl) (rfl)) (rfl)) (rfl) (by omega)) (congrArg nI (show (((3 * z) + 1) - 1) = 3 * z + 0 by omega)))) (by omega) (Eq.trans (rowup_in (by decide)) ((hK.2 0 (show 0 < 2 by decide)).1)))) ?_
                refine gT_n 18 ?_
                refine ⟨rfl, rfl, rfl, (pk_inS (m := 12) (k := 3 * z + 0) (rfl) (by omega) ((Eq.trans (pk_subE (n := ((3 * z) + 1)) (k := 1) (pk_addE (n := (3 * z)) (k := 1) (pk_mulE (n := 3) (k := z) (rfl) (rfl)) (rfl)) (rfl) (by omega)) (congrArg nI (show (((3 * z) + 1) - 1) = 3 * z + 0 by omega))))), rfl, (pk_inS (m := 12) (k := 3 * z + 1) (rfl) (by omega) ((Eq.trans (pk_addE (n := (3 * z)) (k := 1) (pk_mulE (n := 3) (k := z) (rfl) (rfl)) (rfl)) (congrArg nI (show ((3 * z) + 1) = 3 * z + 1 by omega))))), ?_⟩
                refine gT_ms3g (k := 1) (X := a2) ((Eq.trans (pk_addE (n := (3 * z)) (k := 1) (pk_mulE (n := 3) (k := z) (rfl) (rfl)) (rfl)) (congrArg nI (show ((3 * z) + 1) = 3 * z + 1 by omega)))) (by omega) (by decide) ((rdI ((Eq.trans (pk_subE (n := ((3 * z) + 1)) (k := 1) (pk_addE (n := (3 * z)) (k := 1) (pk_mulE (n := 3) (k := z) (rfl) (rfl)) (rfl)) (rfl) (by omega)) (congrArg nI (show (((3 * z) + 1) - 1) = 3 * z + 0 by omega)))) (by omega) (Eq.trans (rowup_in (by decide)) ((hK.2 0 (show 0 < 2 by decide)).2)))) ?_
                refine gT_n 4 ?_
                refine ⟨fun _ => ?_, fun c => absurd (by decide) c⟩
                refine gT_n 9 ?_
                refine ⟨rfl, rfl, (pk_inS (m := 12) (k := 3 * z + 0) (rfl) (by omega) ((Eq.trans (pk_addE (n := (3 * z)) (k := 0) (pk_mulE (n := 3) (k := z) (rfl) (rfl)) (rfl)) (congrArg nI (show ((3 * z) + 0) = 3 * z + 0 by omega))))), ?_⟩
                refine gT_ms3f (k := 0) (X := k) ((Eq.trans (pk_addE (n := (3 * z)) (k := 0) (pk_mulE (n := 3) (k := z) (rfl) (rfl)) (rfl)) (congrArg nI (show ((3 * z) + 0) = 3 * z + 0 by omega)))) (by omega) (by decide) (rfl) ?_
                refine gT_n 10 ?_
                refine ⟨rfl, rfl, rfl, (pk_inS (m := 12) (k := 3 * z + 0) (rfl) (by omega) ((Eq.trans (pk_addE (n := (3 * z)) (k := 0) (pk_mulE (n := 3) (k := z) (rfl) (rfl)) (rfl)) (congrArg nI (show ((3 * z) + 0) = 3 * z + 0 by omega))))), ?_⟩
                refine gT_ms3g (k := 0) (X := W.2.2.2.2.1) ((Eq.trans (pk_addE (n := (3 * z)) (k := 0) (pk_mulE (n := 3) (k := z) (rfl) (rfl)) (rfl)) (congrArg nI (show ((3 * z) + 0) = 3 * z + 0 by omega)))) (by omega) (by decide) (jW.2.2.2.2.1) ?_
                refine gT_n 8 ?_
                refine ⟨rfl, rfl, (pk_inS (m := 4) (k := z) (rfl) (by omega) ((Eq.trans (rfl) (congrArg nI (show z = z by omega))))), rfl, (pk_inS (m := 4) (k := z) (rfl) (by omega) ((Eq.trans (rfl) (congrArg nI (show z = z by omega))))), ?_⟩
                refine gT_ms3n (k := 0) (X := 3) ((Eq.trans (rfl) (congrArg nI (show z = z by omega)))) (by omega) (by decide) ((k2E (f := fun x y : Int32 => x + y) (rdI ((Eq.trans (rfl) (congrArg nI (show z = z by omega)))) (by omega) (Eq.trans (upd_at) ((show _ = (2 : Int32) from hK.1)))) (rfl : _ = (1 : Int32)) (show ((2 : Int32) + 1) = 3 by decide))) ?_
                refine gT_n 5 ?_
                refine ⟨rfl, rfl, (pk_inS (m := 4) (k := z) (rfl) (by omega) ((Eq.trans (rfl) (congrArg nI (show z = z by omega))))), ?_⟩
                obtain ⟨rfl, rfl⟩ := (fIn_ok hL hs β1 (show 2 < 3 by decide) (show _ = [(k, W.2.2.2.2.1), (a1, a2), (b1, b2)] from (Eq.trans (if_pos (Int32.not_le.mp κ1)) (if_pos (Int32.not_le.mp κ2))))).mp hS
                exact ⟨_, J, P, rfl, ri ((rdI ((Eq.trans (rfl) (congrArg nI (show z = z by omega)))) (by omega) (Eq.trans (upd_at) (rfl)))), hC, ⟨jTp, jF, jT, jSp, ⟨jW.1, mKs_set jW.2.1 oW.2.1 (mQ3 (rfl) ⟨rfl, rfl⟩ ⟨rfl, rfl⟩ ⟨rfl, rfl⟩) (show 3 ≤ 3 by decide), jW.2.2.1, jW.2.2.2⟩, jN, jP, jC, jI0, jI1, jB, jL⟩⟩
        · rw [hL] at hK
          refine gT_n 3 ?_
          refine ⟨rfl, rfl, gTM.use (m_isZone1 oT jT ⟨z, hz, rfl⟩) (Nat.le_refl _) (fun r u hq => ?_)⟩
          obtain ⟨rfl, rfl⟩ := hq  -- X12_isZone[R171, nI z]
          refine gT_n 1 ?_
          refine ⟨fun c => absurd c (by decide), fun _ => ?_⟩
          refine gT_n 2 ?_
          refine ⟨rfl, gTM.use (m_isKey1 hk) (Nat.le_refl _) (fun r u hq => ?_)⟩
          obtain ⟨rfl, rfl⟩ := hq  -- X12_isKey[k]
          refine gT_n 1 ?_
          refine ⟨fun _ => ?_, fun c => absurd c (by decide)⟩
          refine gT_n 5 ?_
          refine ⟨rfl, (Or.inr rfl), (pk_in z 4 (by omega) (rfl)), fun c => absurd c (kpT (p := fun z : Int32 => ¬ (z = 0)) (show _ = (1 : Int32) from (rdI (rfl) (by omega) e1)) (by decide)), fun _ => ?_⟩
          refine gT_n 4 ?_
          refine ⟨rfl, rfl, gTM.use (m_kAt0 (l := [(a1, a2), (b1, b2), (c1, c2)]) hz4 (show 3 ≤ 3 by decide) hK) (Nat.le_refl _) (fun r u hq => ?_)⟩
          obtain ⟨rfl, ⟨i, hi, rfl, β1, -⟩ | ⟨rfl, β1⟩⟩ := hq  -- X12_keyAt[R171, nI z, k]
          · refine gT_n 2 ?_
            refine ⟨fun c => absurd c (nI_neg (rfl) (Nat.lt_of_lt_of_le hi (show 3 ≤ 2 ^ 31 by decide))), fun _ => ?_⟩
            refine gT_n 2 ?_
            obtain ⟨rfl, rfl⟩ := (fIn_st hL β1).mp hS
            exact ⟨_, J, P, rfl, rfl, hC, hM0⟩
          · refine gT_n 2 ?_
            refine ⟨fun _ => ?_, fun c => absurd (by decide) c⟩
            refine gT_n 6 ?_
            refine ⟨rfl, rfl, (pk_inS (m := 4) (k := z) (rfl) (by omega) ((Eq.trans (rfl) (congrArg nI (show z = z by omega))))), fun c => absurd c (kpT (p := fun z : Int32 => ¬ (¬ z = 3)) (rdI ((Eq.trans (rfl) (congrArg nI (show z = z by omega)))) (by omega) (Eq.trans (upd_at) ((show _ = (3 : Int32) from hK.1)))) (by decide)), fun _ => ?_⟩
            refine gT_n 2 ?_
            obtain ⟨rfl, rfl⟩ := (fIn_full hL hs β1 (show ¬ 3 < 3 by decide)).mp hS
            exact ⟨_, J, P, rfl, rfl, hC, hM0⟩
      · rw [hs] at e1
        refine gT_n 3 ?_
        refine ⟨rfl, rfl, gTM.use (m_isZone1 oT jT ⟨z, hz, rfl⟩) (Nat.le_refl _) (fun r u hq => ?_)⟩
        obtain ⟨rfl, rfl⟩ := hq  -- X12_isZone[R171, nI z]
        refine gT_n 1 ?_
        refine ⟨fun c => absurd c (by decide), fun _ => ?_⟩
        refine gT_n 2 ?_
        refine ⟨rfl, gTM.use (m_isKey1 hk) (Nat.le_refl _) (fun r u hq => ?_)⟩
        obtain ⟨rfl, rfl⟩ := hq  -- X12_isKey[k]
        refine gT_n 1 ?_
        refine ⟨fun _ => ?_, fun c => absurd c (by decide)⟩
        refine gT_n 5 ?_
        refine ⟨rfl, (Or.inr rfl), (pk_in z 4 (by omega) (rfl)), fun _ => ?_, fun c => absurd (kpT (p := fun z : Int32 => z = 0) (show _ = (0 : Int32) from (rdI (rfl) (by omega) e1)) (by decide)) c⟩
        refine gT_n 2 ?_
        obtain ⟨rfl, rfl⟩ := (fIn_pl hs).mp hS
        exact ⟨_, J, P, rfl, rfl, hC, hM0⟩
    rw [ms3_self] at key
    exact key
  · obtain ⟨rfl, rfl⟩ := (zk_no hh).mp hS
    by_cases hz : inZ t.1 z
    · have hk : ¬ (1 ≤ k ∧ k ≤ 999) := fun q => hh ⟨hz, q⟩
      refine gT_n 3 ?_
      refine ⟨rfl, rfl, gTM.use (m_isZone1 oT jT hz) (Nat.le_refl _) (fun r u hq => ?_)⟩
      obtain ⟨rfl, rfl⟩ := hq  -- X12_isZone[R171, z]
      refine gT_n 1 ?_
      refine ⟨fun c => absurd c (by decide), fun _ => ?_⟩
      refine gT_n 2 ?_
      refine ⟨rfl, gTM.use (m_isKey0 hk) (Nat.le_refl _) (fun r u hq => ?_)⟩
      obtain ⟨rfl, rfl⟩ := hq  -- X12_isKey[k]
      refine gT_n 1 ?_
      refine ⟨fun c => absurd (by decide) c, fun _ => ?_⟩
      refine gT_n 2 ?_
      exact ⟨I, J, P, rfl, rfl, hC, hM0⟩
    · refine gT_n 3 ?_
      refine ⟨rfl, rfl, gTM.use (m_isZone0 oT jT hz) (Nat.le_refl _) (fun r u hq => ?_)⟩
      obtain ⟨rfl, rfl⟩ := hq  -- X12_isZone[R171, z]
      refine gT_n 1 ?_
      refine ⟨fun _ => ?_, fun c => absurd (by decide) c⟩
      refine gT_n 2 ?_
      exact ⟨I, J, P, rfl, rfl, hC, hM0⟩
theorem o_digest_c {d : Nat} {s : zS} {I : Nat → Nat → Int32} {J : Nat → Nat → Int64} {P : Nat → Nat} {z k : Int32} (hO : sOK s) (hC : RC s I J P) (hM : RM s I J) : gTM (d + 9) 143 [.ref 0, .int z, .int k] (gST I J P) (pC s (zk s z k fun n => fIn 2 (s.2.2.1.2.2.1 n) (s.2.2.2.1.2.2.1 n) k s.2.2.2.1.2.2.2.2.1 (setD s n) s)) := by
  obtain ⟨tp, fn, t, W, nm, pr, ch, i0, i1⟩ := s
  have hO0 := hO
  have hC0 := hC
  have hM0 := hM
  obtain ⟨oTp, oT, oW, oN, oP, oI0, oI1⟩ := hO
  obtain ⟨kTp, kF, kT, kW, kN, kP, kC, kI0, kI1, kB, kPP⟩ := hC
  obtain ⟨jTp, jF, jT, jSp, jW, jN, jP, jC, jI0, jI1, jB, jL⟩ := hM
  dsimp only at oTp oT oW oN oP oI0 oI1 kTp kF kT kW kN kP kC kI0 kI1 jTp jF jT jSp jW jN jP jC jI0 jI1
  try dsimp only
  have h4 := oT.2.1
  by_cases hh : inZ t.1 z ∧ (1 ≤ k ∧ k ≤ 999)
  · obtain ⟨⟨z, hz, rfl⟩, hk⟩ := hh
    have hz4 : z < 4 := by omega
    obtain ⟨hb, hr⟩ := kRow_dig (P := P) hz4
    have hK := cK_dig kW hz4
    have hl := oW.2.2.1 z hz4
    have hl3 : (W.2.2.1 z).length ≤ 3 := by omega
    have e1 := kT.1.2.2.2.1 z hz
    rcases Bool.eq_false_or_eq_true (t.2.2.1 z) with hs | hs
    · rw [hs] at e1
      refine gT_n 4 ?_
      refine ⟨rfl, rfl, rfl, gTM.use (c_has1 oT kT.1 ⟨z, hz, rfl⟩) (Nat.le_refl _) (fun r u hq => ?_)⟩
      obtain ⟨rfl, rfl⟩ := hq  -- X8_has[R12, nI z]
      refine gT_n 1 ?_
      refine ⟨fun c => absurd c (by decide), fun _ => ?_⟩
      refine gT_n 2 ?_
      refine ⟨rfl, gTM.use (c_isKey1 hk) (Nat.le_refl _) (fun r u hq => ?_)⟩
      obtain ⟨rfl, rfl⟩ := hq  -- X11_isKey[k]
      refine gT_n 1 ?_
      refine ⟨fun _ => ?_, fun c => absurd c (by decide)⟩
      refine gT_n 5 ?_
      refine ⟨rfl, rfl, rfl, (pk_in z 4 (by omega) (rfl)), ?_⟩
      refine gT_top (aa_ref (rfl) (by omega) hr) ?_
      refine gT_n 7 ?_
      refine ⟨rfl, rfl, (Or.inr rfl), (pk_in z 4 (by omega) (rfl)), fun c => absurd c (kpT (p := fun z : Int32 => ¬ (z = 0)) (show _ = (1 : Int32) from (rdI (rfl) (by omega) e1)) (by decide)), fun _ => ?_⟩
      refine gT_n 3 ?_
      refine ⟨hb.ob, rfl, gTM.use (c_khas hb hl3 hK) (Nat.le_refl _) (fun r u hq => ?_)⟩
      obtain ⟨rfl, ⟨rfl, β1⟩ | ⟨rfl, β1⟩⟩ := hq  -- X2_has[Rb, k]
      · refine gT_n 1 ?_
        refine ⟨fun c => absurd c (by decide), fun _ => ?_⟩
        refine gT_n 2 ?_
        exact ⟨_, _, I, J, P, rfl, rfl, ⟨(zk_yes hz h4 hk).mpr ((fIn_st rfl β1).mpr ⟨rfl, rfl⟩), hO0⟩, hC0, hM0⟩
      · refine gT_n 1 ?_
        refine ⟨fun _ => ?_, fun c => absurd (by decide) c⟩
        refine gT_n 4 ?_
        refine ⟨hb.ob, pk_lt ((W.2.2.1 z).length) 2 (fun κ2 => ?_) (fun κ2 => ?_) (hK.1) (rfl) (by omega) (by omega)⟩
        · refine gT_n 6 ?_
          refine ⟨rfl, rfl, hb.ob, rfl, gTM.useA (c_kins hb (by omega) hK) (Nat.le_refl _) (aR (aI (rfl) (aI (kW.2.2.2.2.1) (rfl)))) (fun r u hq => ?_)⟩
          obtain ⟨rfl, n1, f1, g1, rfl, hK1⟩ := hq  -- X2_insert[Rb, k, W.2.2.2.2.1]
          refine gT_n 3 ?_
          refine ⟨hb.ob, ?_⟩
          exact ⟨_, _, _, _, P, rfl, ri (Eq.trans ks_0 hK1.1), ⟨(zk_yes hz h4 hk).mpr ((fIn_ok rfl hs β1 (by omega) rfl).mpr ⟨rfl, rfl⟩), setD_ok hO0 (kins_len (m := 2) (by omega) (by omega))⟩, RC_dig hz4 hC0 hK1, RM_dig hz4 hM0⟩
        · refine gT_n 2 ?_
          exact ⟨_, _, I, J, P, rfl, rfl, ⟨(zk_yes hz h4 hk).mpr ((fIn_full rfl hs β1 (by omega)).mpr ⟨rfl, rfl⟩), hO0⟩, hC0, hM0⟩
    · rw [hs] at e1
      refine gT_n 4 ?_
      refine ⟨rfl, rfl, rfl, gTM.use (c_has1 oT kT.1 ⟨z, hz, rfl⟩) (Nat.le_refl _) (fun r u hq => ?_)⟩
      obtain ⟨rfl, rfl⟩ := hq  -- X8_has[R12, nI z]
      refine gT_n 1 ?_
      refine ⟨fun c => absurd c (by decide), fun _ => ?_⟩
      refine gT_n 2 ?_
      refine ⟨rfl, gTM.use (c_isKey1 hk) (Nat.le_refl _) (fun r u hq => ?_)⟩
      obtain ⟨rfl, rfl⟩ := hq  -- X11_isKey[k]
      refine gT_n 1 ?_
      refine ⟨fun _ => ?_, fun c => absurd c (by decide)⟩
      refine gT_n 5 ?_
      refine ⟨rfl, rfl, rfl, (pk_in z 4 (by omega) (rfl)), ?_⟩
      refine gT_top (aa_ref (rfl) (by omega) hr) ?_
      refine gT_n 7 ?_
      refine ⟨rfl, rfl, (Or.inr rfl), (pk_in z 4 (by omega) (rfl)), fun _ => ?_, fun c => absurd (kpT (p := fun z : Int32 => z = 0) (show _ = (0 : Int32) from (rdI (rfl) (by omega) e1)) (by decide)) c⟩
      refine gT_n 2 ?_
      exact ⟨_, _, I, J, P, rfl, rfl, ⟨(zk_yes hz h4 hk).mpr ((fIn_pl hs).mpr ⟨rfl, rfl⟩), hO0⟩, hC0, hM0⟩
  · by_cases hz : inZ t.1 z
    · have hk : ¬ (1 ≤ k ∧ k ≤ 999) := fun q => hh ⟨hz, q⟩
      refine gT_n 4 ?_
      refine ⟨rfl, rfl, rfl, gTM.use (c_has1 oT kT.1 hz) (Nat.le_refl _) (fun r u hq => ?_)⟩
      obtain ⟨rfl, rfl⟩ := hq  -- X8_has[R12, z]
      refine gT_n 1 ?_
      refine ⟨fun c => absurd c (by decide), fun _ => ?_⟩
      refine gT_n 2 ?_
      refine ⟨rfl, gTM.use (c_isKey0 hk) (Nat.le_refl _) (fun r u hq => ?_)⟩
      obtain ⟨rfl, rfl⟩ := hq  -- X11_isKey[k]
      refine gT_n 1 ?_
      refine ⟨fun c => absurd (by decide) c, fun _ => ?_⟩
      refine gT_n 2 ?_
      exact ⟨_, _, I, J, P, rfl, rfl, ⟨(zk_no hh).mpr ⟨rfl, rfl⟩, hO0⟩, hC0, hM0⟩
    · refine gT_n 4 ?_
      refine ⟨rfl, rfl, rfl, gTM.use (c_has0 oT kT.1 hz) (Nat.le_refl _) (fun r u hq => ?_)⟩
      obtain ⟨rfl, rfl⟩ := hq  -- X8_has[R12, z]
      refine gT_n 1 ?_
      refine ⟨fun _ => ?_, fun c => absurd (by decide) c⟩
      refine gT_n 2 ?_
      exact ⟨_, _, I, J, P, rfl, rfl, ⟨(zk_no hh).mpr ⟨rfl, rfl⟩, hO0⟩, hC0, hM0⟩
theorem o_digest_m {d : Nat} {s s' : zS} {x : Int32} {I : Nat → Nat → Int32} {J : Nat → Nat → Int64} {P : Nat → Nat} {z k : Int32} (hO : sOK s) (hS : (zk s z k fun n => fIn 2 (s.2.2.1.2.2.1 n) (s.2.2.2.1.2.2.1 n) k s.2.2.2.1.2.2.2.2.1 (setD s n) s) x s') (hC : RC s' I J P) (hM : RM s I J) : gTM (d + 9) 266 [.ref 171, .int z, .int k] (gST I J P) (pM x s') := by
  obtain ⟨tp, fn, t, W, nm, pr, ch, i0, i1⟩ := s
  have hO0 := hO
  have hM0 := hM
  obtain ⟨oTp, oT, oW, oN, oP, oI0, oI1⟩ := hO
  obtain ⟨jTp, jF, jT, jSp, jW, jN, jP, jC, jI0, jI1, jB, jL⟩ := hM
  dsimp only at oTp oT oW oN oP oI0 oI1 jTp jF jT jSp jW jN jP jC jI0 jI1
  try dsimp only at hS
  have h4 := oT.2.1
  by_cases hh : inZ t.1 z ∧ (1 ≤ k ∧ k ≤ 999)
  · obtain ⟨⟨z, hz, rfl⟩, hk⟩ := hh
    have hz4 : z < 4 := by omega
    replace hS := (zk_yes hz h4 hk).mp hS
    try dsimp only at hS
    have hl := oW.2.2.1 z hz4
    have e1 := jT.2.2.1 z hz
    have e2 := jW.2.2.2.1 z hz
    have key : gTM (d + 9) 266 [.ref 171, .int (nI z), .int k] (gST (mset2 I z (I 183 z) (fun i => I 181 (2 * z + i)) (fun i => I 182 (2 * z + i))) J P) (pM x s') := by
      have hK : mQ (I 183 z) (fun i => I 181 (2 * z + i)) (fun i => I 182 (2 * z + i)) (W.2.2.1 z) := jW.2.2.1 z hz4
      rw [← ms2_self (I := I) (z := z)] at hC hM0
      generalize I 183 z = n at hK hC hM0 ⊢
      generalize (fun i => I 181 (2 * z + i)) = f at hK hC hM0 ⊢
      generalize (fun i => I 182 (2 * z + i)) = g at hK hC hM0 ⊢
      rcases Bool.eq_false_or_eq_true (t.2.2.1 z) with hs | hs
      · rw [hs] at e1
        rw [if_pos hs] at e2
        rcases zK2 hl with hL | ⟨a1, a2, hL⟩ | ⟨a1, a2, b1, b2, hL⟩
        · rw [hL] at hK
          refine gT_n 3 ?_
          refine ⟨rfl, rfl, gTM.use (m_isZone1 oT jT ⟨z, hz, rfl⟩) (Nat.le_refl _) (fun r u hq => ?_)⟩
          obtain ⟨rfl, rfl⟩ := hq  -- X12_isZone[R171, nI z]
          refine gT_n 1 ?_
          refine ⟨fun c => absurd c (by decide), fun _ => ?_⟩
          refine gT_n 2 ?_
          refine ⟨rfl, gTM.use (m_isKey1 hk) (Nat.le_refl _) (fun r u hq => ?_)⟩
          obtain ⟨rfl, rfl⟩ := hq  -- X12_isKey[k]
          refine gT_n 1 ?_
          refine ⟨fun _ => ?_, fun c => absurd c (by decide)⟩
          refine gT_n 5 ?_
          refine ⟨rfl, (Or.inr rfl), (pk_in z 4 (by omega) (rfl)), fun c => absurd c (kpT (p := fun z : Int32 => ¬ (z = 0)) (show _ = (1 : Int32) from (rdI (rfl) (by omega) e1)) (by decide)), fun _ => ?_⟩
          refine gT_n 4 ?_
          refine ⟨rfl, rfl, gTM.use (m_dAt0 (l := []) hz4 (show 0 ≤ 2 by decide) hK) (Nat.le_refl _) (fun r u hq => ?_)⟩
          obtain ⟨rfl, ⟨i, hi, rfl, β1, -⟩ | ⟨rfl, β1⟩⟩ := hq  -- X12_digestAt[R171, nI z, k]
          · refine gT_n 2 ?_
            refine ⟨fun c => absurd c (nI_neg (rfl) (Nat.lt_of_lt_of_le hi (show 0 ≤ 2 ^ 31 by decide))), fun _ => ?_⟩
            refine gT_n 2 ?_
            obtain ⟨rfl, rfl⟩ := (fIn_st hL β1).mp hS
            exact ⟨_, J, P, rfl, rfl, hC, hM0⟩
          · refine gT_n 2 ?_
            refine ⟨fun _ => ?_, fun c => absurd (by decide) c⟩
            refine gT_n 6 ?_
            refine ⟨rfl, rfl, (pk_inS (m := 4) (k := z) (rfl) (by omega) ((Eq.trans (rfl) (congrArg nI (show z = z by omega))))), fun _ => ?_, fun c => absurd c (kpT (p := fun z : Int32 => ¬ z = 2) (rdI ((Eq.trans (rfl) (congrArg nI (show z = z by omega)))) (by omega) (Eq.trans (upd_at) ((show _ = (0 : Int32) from hK.1)))) (by decide))⟩
            refine gT_n 5 ?_
            refine ⟨rfl, rfl, (pk_inS (m := 4) (k := z) (rfl) (by omega) ((Eq.trans (rfl) (congrArg nI (show z = z by omega))))), ?_⟩
            refine gT_k (L := [(3, .int 0), (0, .ref 171), (1, .int (nI z)), (2, .int k)]) ?_ ⟨(viI ((rdI ((Eq.trans (rfl) (congrArg nI (show z = z by omega)))) (by omega) (Eq.trans (upd_at) ((show _ = (0 : Int32) from hK.1)))))), rfl, rfl, rfl, trivial⟩ rfl
            refine gT_n 2 ?_
            refine ⟨fun _ => ?_, fun c => absurd (by decide) c⟩
            refine gT_n 9 ?_
            refine ⟨rfl, rfl, (pk_inS (m := 8) (k := 2 * z + 0) (rfl) (by omega) ((Eq.trans (pk_addE (n := (2 * z)) (k := 0) (pk_mulE (n := 2) (k := z) (rfl) (rfl)) (rfl)) (congrArg nI (show ((2 * z) + 0) = 2 * z + 0 by omega))))), ?_⟩
            refine gT_ms2f (k := 0) (X := k) ((Eq.trans (pk_addE (n := (2 * z)) (k := 0) (pk_mulE (n := 2) (k := z) (rfl) (rfl)) (rfl)) (congrArg nI (show ((2 * z) + 0) = 2 * z + 0 by omega)))) (by omega) (by decide) (rfl) ?_
            refine gT_n 10 ?_
            refine ⟨rfl, rfl, rfl, (pk_inS (m := 8) (k := 2 * z + 0) (rfl) (by omega) ((Eq.trans (pk_addE (n := (2 * z)) (k := 0) (pk_mulE (n := 2) (k := z) (rfl) (rfl)) (rfl)) (congrArg nI (show ((2 * z) + 0) = 2 * z + 0 by omega))))), ?_⟩
            refine gT_ms2g (k := 0) (X := W.2.2.2.2.1) ((Eq.trans (pk_addE (n := (2 * z)) (k := 0) (pk_mulE (n := 2) (k := z) (rfl) (rfl)) (rfl)) (congrArg nI (show ((2 * z) + 0) = 2 * z + 0 by omega)))) (by omega) (by decide) (jW.2.2.2.2.1) ?_
            refine gT_n 8 ?_
            refine ⟨rfl, rfl, (pk_inS (m := 4) (k := z) (rfl) (by omega) ((Eq.trans (rfl) (congrArg nI (show z = z by omega))))), rfl, (pk_inS (m := 4) (k := z) (rfl) (by omega) ((Eq.trans (rfl) (congrArg nI (show z = z by omega))))), ?_⟩
            refine gT_ms2n (k := 0) (X := 1) ((Eq.trans (rfl) (congrArg nI (show z = z by omega)))) (by omega) (by decide) ((k2E (f := fun x y : Int32 => x + y) (rdI ((Eq.trans (rfl) (congrArg nI (show z = z by omega)))) (by omega) (Eq.trans (upd_at) ((show _ = (0 : Int32) from hK.1)))) (rfl : _ = (1 : Int32)) (show ((0 : Int32) + 1) = 1 by decide))) ?_
            refine gT_n 5 ?_
            refine ⟨rfl, rfl, (pk_inS (m := 4) (k := z) (rfl) (by omega) ((Eq.trans (rfl) (congrArg nI (show z = z by omega))))), ?_⟩
            obtain ⟨rfl, rfl⟩ := (fIn_ok hL hs β1 (show 0 < 2 by decide) (show _ = [(k, W.2.2.2.2.1)] from rfl)).mp hS
            exact ⟨_, J, P, rfl, ri ((rdI ((Eq.trans (rfl) (congrArg nI (show z = z by omega)))) (by omega) (Eq.trans (upd_at) (rfl)))), hC, ⟨jTp, jF, jT, jSp, ⟨jW.1, jW.2.1, mKs_set jW.2.2.1 oW.2.2.1 (mQ1 (rfl) ⟨rfl, rfl⟩) (show 1 ≤ 2 by decide), jW.2.2.2⟩, jN, jP, jC, jI0, jI1, jB, jL⟩⟩
        · rw [hL] at hK
          refine gT_n 3 ?_
          refine ⟨rfl, rfl, gTM.use (m_isZone1 oT jT ⟨z, hz, rfl⟩) (Nat.le_refl _) (fun r u hq => ?_)⟩
          obtain ⟨rfl, rfl⟩ := hq  -- X12_isZone[R171, nI z]
          refine gT_n 1 ?_
          refine ⟨fun c => absurd c (by decide), fun _ => ?_⟩
          refine gT_n 2 ?_
          refine ⟨rfl, gTM.use (m_isKey1 hk) (Nat.le_refl _) (fun r u hq => ?_)⟩
          obtain ⟨rfl, rfl⟩ := hq  -- X12_isKey[k]
          refine gT_n 1 ?_
          refine ⟨fun _ => ?_, fun c => absurd c (by decide)⟩
          refine gT_n 5 ?_
          refine ⟨rfl, (Or.inr rfl), (pk_in z 4 (by omega) (rfl)), fun c => absurd c (kpT (p := fun z : Int32 => ¬ (z = 0)) (show _ = (1 : Int32) from (rdI (rfl) (by omega) e1)) (by decide)), fun _ => ?_⟩
          refine gT_n 4 ?_
          refine ⟨rfl, rfl, gTM.use (m_dAt0 (l := [(a1, a2)]) hz4 (show 1 ≤ 2 by decide) hK) (Nat.le_refl _) (fun r u hq => ?_)⟩
          obtain ⟨rfl, ⟨i, hi, rfl, β1, -⟩ | ⟨rfl, β1⟩⟩ := hq  -- X12_digestAt[R171, nI z, k]
          · refine gT_n 2 ?_
            refine ⟨fun c => absurd c (nI_neg (rfl) (Nat.lt_of_lt_of_le hi (show 1 ≤ 2 ^ 31 by decide))), fun _ => ?_⟩
            refine gT_n 2 ?_
            obtain ⟨rfl, rfl⟩ := (fIn_st hL β1).mp hS
            exact ⟨_, J, P, rfl, rfl, hC, hM0⟩
          · refine gT_n 2 ?_
            refine ⟨fun _ => ?_, fun c => absurd (by decide) c⟩
            refine gT_n 6 ?_
            refine ⟨rfl, rfl, (pk_inS (m := 4) (k := z) (rfl) (by omega) ((Eq.trans (rfl) (congrArg nI (show z = z by omega))))), fun _ => ?_, fun c => absurd c (kpT (p := fun z : Int32 => ¬ z = 2) (rdI ((Eq.trans (rfl) (congrArg nI (show z = z by omega)))) (by omega) (Eq.trans (upd_at) ((show _ = (1 : Int32) from hK.1)))) (by decide))⟩
            refine gT_n 5 ?_
            refine ⟨rfl, rfl, (pk_inS (m := 4) (k := z) (rfl) (by omega) ((Eq.trans (rfl) (congrArg nI (show z = z by omega))))), ?_⟩
            refine gT_k (L := [(3, .int 1), (0, .ref 171), (1, .int (nI z)), (2, .int k)]) ?_ ⟨(viI ((rdI ((Eq.trans (rfl) (congrArg nI (show z = z by omega)))) (by omega) (Eq.trans (upd_at) ((show _ = (1 : Int32) from hK.1)))))), rfl, rfl, rfl, trivial⟩ rfl
            refine gT_n 2 ?_
            refine ⟨fun c => absurd c (by decide), fun _ => ?_⟩
            refine gT_n 8 ?_
            refine ⟨rfl, rfl, (pk_inS (m := 8) (k := 2 * z + 0) (rfl) (by omega) ((Eq.trans (pk_mulE (n := 2) (k := z) (rfl) (rfl)) (congrArg nI (show (2 * z) = 2 * z + 0 by omega))))), px_le (X := a1) (Y := k) ((rdI ((Eq.trans (pk_mulE (n := 2) (k := z) (rfl) (rfl)) (congrArg nI (show (2 * z) = 2 * z + 0 by omega)))) (by omega) (Eq.trans (rowup_in (by decide)) ((hK.2 0 (show 0 < 1 by decide)).1)))) (rfl) (fun κ1 => ?_) (fun κ1 => ?_)⟩
            · refine gT_n 9 ?_
              refine ⟨rfl, rfl, (pk_inS (m := 8) (k := 2 * z + 1) (rfl) (by omega) ((Eq.trans (pk_addE (n := (2 * z)) (k := 1) (pk_mulE (n := 2) (k := z) (rfl) (rfl)) (rfl)) (congrArg nI (show ((2 * z) + 1) = 2 * z + 1 by omega))))), ?_⟩
              refine gT_ms2f (k := 1) (X := k) ((Eq.trans (pk_addE (n := (2 * z)) (k := 1) (pk_mulE (n := 2) (k := z) (rfl) (rfl)) (rfl)) (congrArg nI (show ((2 * z) + 1) = 2 * z + 1 by omega)))) (by omega) (by decide) (rfl) ?_
              refine gT_n 10 ?_
              refine ⟨rfl, rfl, rfl, (pk_inS (m := 8) (k := 2 * z + 1) (rfl) (by omega) ((Eq.trans (pk_addE (n := (2 * z)) (k := 1) (pk_mulE (n := 2) (k := z) (rfl) (rfl)) (rfl)) (congrArg nI (show ((2 * z) + 1) = 2 * z + 1 by omega))))), ?_⟩
              refine gT_ms2g (k := 1) (X := W.2.2.2.2.1) ((Eq.trans (pk_addE (n := (2 * z)) (k := 1) (pk_mulE (n := 2) (k := z) (rfl) (rfl)) (rfl)) (congrArg nI (show ((2 * z) + 1) = 2 * z + 1 by omega)))) (by omega) (by decide) (jW.2.2.2.2.1) ?_
              refine gT_n 8 ?_
              refine ⟨rfl, rfl, (pk_inS (m := 4) (k := z) (rfl) (by omega) ((Eq.trans (rfl) (congrArg nI (show z = z by omega))))), rfl, (pk_inS (m := 4) (k := z) (rfl) (by omega) ((Eq.trans (rfl) (congrArg nI (show z = z by omega))))), ?_⟩
              refine gT_ms2n (k := 0) (X := 2) ((Eq.trans (rfl) (congrArg nI (show z = z by omega)))) (by omega) (by decide) ((k2E (f := fun x y : Int32 => x + y) (rdI ((Eq.trans (rfl) (congrArg nI (show z = z by omega)))) (by omega) (Eq.trans (upd_at) ((show _ = (1 : Int32) from hK.1)))) (rfl : _ = (1 : Int32)) (show ((1 : Int32) + 1) = 2 by decide))) ?_
              refine gT_n 5 ?_
              refine ⟨rfl, rfl, (pk_inS (m := 4) (k := z) (rfl) (by omega) ((Eq.trans (rfl) (congrArg nI (show z = z by omega))))), ?_⟩
              obtain ⟨rfl, rfl⟩ := (fIn_ok hL hs β1 (show 1 < 2 by decide) (show _ = [(a1, a2), (k, W.2.2.2.2.1)] from (if_neg (Int32.not_lt.mpr κ1)))).mp hS
              exact ⟨_, J, P, rfl, ri ((rdI ((Eq.trans (rfl) (congrArg nI (show z = z by omega)))) (by omega) (Eq.trans (upd_at) (rfl)))), hC, ⟨jTp, jF, jT, jSp, ⟨jW.1, jW.2.1, mKs_set jW.2.2.1 oW.2.2.1 (mQ2 (rfl) ⟨(hK.2 0 (show 0 < 1 by decide)).1, (hK.2 0 (show 0 < 1 by decide)).2⟩ ⟨rfl, rfl⟩) (show 2 ≤ 2 by decide), jW.2.2.2⟩, jN, jP, jC, jI0, jI1, jB, jL⟩⟩
            · refine gT_n 14 ?_
              refine ⟨rfl, rfl, rfl, (pk_inS (m := 8) (k := 2 * z + 0) (rfl) (by omega) ((Eq.trans (pk_mulE (n := 2) (k := z) (rfl) (rfl)) (congrArg nI (show (2 * z) = 2 * z + 0 by omega))))), rfl, (pk_inS (m := 8) (k := 2 * z + 1) (rfl) (by omega) ((Eq.trans (pk_addE (n := (2 * z)) (k := 1) (pk_mulE (n := 2) (k := z) (rfl) (rfl)) (rfl)) (congrArg nI (show ((2 * z) + 1) = 2 * z + 1 by omega))))), ?_⟩
              refine gT_ms2f (k := 1) (X := a1) ((Eq.trans (pk_addE (n := (2 * z)) (k := 1) (pk_mulE (n := 2) (k := z) (rfl) (rfl)) (rfl)) (congrArg nI (show ((2 * z) + 1) = 2 * z + 1 by omega)))) (by omega) (by decide) ((rdI ((Eq.trans (pk_mulE (n := 2) (k := z) (rfl) (rfl)) (congrArg nI (show (2 * z) = 2 * z + 0 by omega)))) (by omega) (Eq.trans (rowup_in (by decide)) ((hK.2 0 (show 0 < 1 by decide)).1)))) ?_
              refine gT_n 14 ?_
              refine ⟨rfl, rfl, rfl, (pk_inS (m := 8) (k := 2 * z + 0) (rfl) (by omega) ((Eq.trans (pk_mulE (n := 2) (k := z) (rfl) (rfl)) (congrArg nI (show (2 * z) = 2 * z + 0 by omega))))), rfl, (pk_inS (m := 8) (k := 2 * z + 1) (rfl) (by omega) ((Eq.trans (pk_addE (n := (2 * z)) (k := 1) (pk_mulE (n := 2) (k := z) (rfl) (rfl)) (rfl)) (congrArg nI (show ((2 * z) + 1) = 2 * z + 1 by omega))))), ?_⟩
              refine gT_ms2g (k := 1) (X := a2) ((Eq.trans (pk_addE (n := (2 * z)) (k := 1) (pk_mulE (n := 2) (k := z) (rfl) (rfl)) (rfl)) (congrArg nI (show ((2 * z) + 1) = 2 * z + 1 by omega)))) (by omega) (by decide) ((rdI ((Eq.trans (pk_mulE (n := 2) (k := z) (rfl) (rfl)) (congrArg nI (show (2 * z) = 2 * z + 0 by omega)))) (by omega) (Eq.trans (rowup_in (by decide)) ((hK.2 0 (show 0 < 1 by decide)).2)))) ?_
              refine gT_n 11 ?_
              refine ⟨rfl, rfl, (pk_inS (m := 8) (k := 2 * z + 0) (rfl) (by omega) ((Eq.trans (pk_addE (n := (2 * z)) (k := 0) (pk_mulE (n := 2) (k := z) (rfl) (rfl)) (rfl)) (congrArg nI (show ((2 * z) + 0) = 2 * z + 0 by omega))))), ?_⟩
              refine gT_ms2f (k := 0) (X := k) ((Eq.trans (pk_addE (n := (2 * z)) (k := 0) (pk_mulE (n := 2) (k := z) (rfl) (rfl)) (rfl)) (congrArg nI (show ((2 * z) + 0) = 2 * z + 0 by omega)))) (by omega) (by decide) (rfl) ?_
              refine gT_n 10 ?_
              refine ⟨rfl, rfl, rfl, (pk_inS (m := 8) (k := 2 * z + 0) (rfl) (by omega) ((Eq.trans (pk_addE (n := (2 * z)) (k := 0) (pk_mulE (n := 2) (k := z) (rfl) (rfl)) (rfl)) (congrArg nI (show ((2 * z) + 0) = 2 * z + 0 by omega))))), ?_⟩
              refine gT_ms2g (k := 0) (X := W.2.2.2.2.1) ((Eq.trans (pk_addE (n := (2 * z)) (k := 0) (pk_mulE (n := 2) (k := z) (rfl) (rfl)) (rfl)) (congrArg nI (show ((2 * z) + 0) = 2 * z + 0 by omega)))) (by omega) (by decide) (jW.2.2.2.2.1) ?_
              refine gT_n 8 ?_
              refine ⟨rfl, rfl, (pk_inS (m := 4) (k := z) (rfl) (by omega) ((Eq.trans (rfl) (congrArg nI (show z = z by omega))))), rfl, (pk_inS (m := 4) (k := z) (rfl) (by omega) ((Eq.trans (rfl) (congrArg nI (show z = z by omega))))), ?_⟩
              refine gT_ms2n (k := 0) (X := 2) ((Eq.trans (rfl) (congrArg nI (show z = z by omega)))) (by omega) (by decide) ((k2E (f := fun x y : Int32 => x + y) (rdI ((Eq.trans (rfl) (congrArg nI (show z = z by omega)))) (by omega) (Eq.trans (upd_at) ((show _ = (1 : Int32) from hK.1)))) (rfl : _ = (1 : Int32)) (show ((1 : Int32) + 1) = 2 by decide))) ?_
              refine gT_n 5 ?_
              refine ⟨rfl, rfl, (pk_inS (m := 4) (k := z) (rfl) (by omega) ((Eq.trans (rfl) (congrArg nI (show z = z by omega))))), ?_⟩
              obtain ⟨rfl, rfl⟩ := (fIn_ok hL hs β1 (show 1 < 2 by decide) (show _ = [(k, W.2.2.2.2.1), (a1, a2)] from (if_pos (Int32.not_le.mp κ1)))).mp hS
              exact ⟨_, J, P, rfl, ri ((rdI ((Eq.trans (rfl) (congrArg nI (show z = z by omega)))) (by omega) (Eq.trans (upd_at) (rfl)))), hC, ⟨jTp, jF, jT, jSp, ⟨jW.1, jW.2.1, mKs_set jW.2.2.1 oW.2.2.1 (mQ2 (rfl) ⟨rfl, rfl⟩ ⟨rfl, rfl⟩) (show 2 ≤ 2 by decide), jW.2.2.2⟩, jN, jP, jC, jI0, jI1, jB, jL⟩⟩
        · rw [hL] at hK
          refine gT_n 3 ?_
          refine ⟨rfl, rfl, gTM.use (m_isZone1 oT jT ⟨z, hz, rfl⟩) (Nat.le_refl _) (fun r u hq => ?_)⟩
          obtain ⟨rfl, rfl⟩ := hq  -- X12_isZone[R171, nI z]
          refine gT_n 1 ?_
          refine ⟨fun c => absurd c (by decide), fun _ => ?_⟩
          refine gT_n 2 ?_
          refine ⟨rfl, gTM.use (m_isKey1 hk) (Nat.le_refl _) (fun r u hq => ?_)⟩
          obtain ⟨rfl, rfl⟩ := hq  -- X12_isKey[k]
          refine gT_n 1 ?_
          refine ⟨fun _ => ?_, fun c => absurd c (by decide)⟩
          refine gT_n 5 ?_
          refine ⟨rfl, (Or.inr rfl), (pk_in z 4 (by omega) (rfl)), fun c => absurd c (kpT (p := fun z : Int32 => ¬ (z = 0)) (show _ = (1 : Int32) from (rdI (rfl) (by omega) e1)) (by decide)), fun _ => ?_⟩
          refine gT_n 4 ?_
          refine ⟨rfl, rfl, gTM.use (m_dAt0 (l := [(a1, a2), (b1, b2)]) hz4 (show 2 ≤ 2 by decide) hK) (Nat.le_refl _) (fun r u hq => ?_)⟩
          obtain ⟨rfl, ⟨i, hi, rfl, β1, -⟩ | ⟨rfl, β1⟩⟩ := hq  -- X12_digestAt[R171, nI z, k]
          · refine gT_n 2 ?_
            refine ⟨fun c => absurd c (nI_neg (rfl) (Nat.lt_of_lt_of_le hi (show 2 ≤ 2 ^ 31 by decide))), fun _ => ?_⟩
            refine gT_n 2 ?_
            obtain ⟨rfl, rfl⟩ := (fIn_st hL β1).mp hS
            exact ⟨_, J, P, rfl, rfl, hC, hM0⟩
          · refine gT_n 2 ?_
            refine ⟨fun _ => ?_, fun c => absurd (by decide) c⟩
            refine gT_n 6 ?_
            refine ⟨rfl, rfl, (pk_inS (m := 4) (k := z) (rfl) (by omega) ((Eq.trans (rfl) (congrArg nI (show z = z by omega))))), fun c => absurd c (kpT (p := fun z : Int32 => ¬ (¬ z = 2)) (rdI ((Eq.trans (rfl) (congrArg nI (show z = z by omega)))) (by omega) (Eq.trans (upd_at) ((show _ = (2 : Int32) from hK.1)))) (by decide)), fun _ => ?_⟩
            refine gT_n 2 ?_
            obtain ⟨rfl, rfl⟩ := (fIn_full hL hs β1 (show ¬ 2 < 2 by decide)).mp hS
            exact ⟨_, J, P, rfl, rfl, hC, hM0⟩
      · rw [hs] at e1
        refine gT_n 3 ?_
        refine ⟨rfl, rfl, gTM.use (m_isZone1 oT jT ⟨z, hz, rfl⟩) (Nat.le_refl _) (fun r u hq => ?_)⟩
        obtain ⟨rfl, rfl⟩ := hq  -- X12_isZone[R171, nI z]
        refine gT_n 1 ?_
        refine ⟨fun c => absurd c (by decide), fun _ => ?_⟩
        refine gT_n 2 ?_
        refine ⟨rfl, gTM.use (m_isKey1 hk) (Nat.le_refl _) (fun r u hq => ?_)⟩
        obtain ⟨rfl, rfl⟩ := hq  -- X12_isKey[k]
        refine gT_n 1 ?_
        refine ⟨fun _ => ?_, fun c => absurd c (by decide)⟩
        refine gT_n 5 ?_
        refine ⟨rfl, (Or.inr rfl), (pk_in z 4 (by omega) (rfl)), fun _ => ?_, fun c => absurd (kpT (p := fun z : Int32 => z = 0) (show _ = (0 : Int32) from (rdI (rfl) (by omega) e1)) (by decide)) c⟩
        refine gT_n 2 ?_
        obtain ⟨rfl, rfl⟩ := (fIn_pl hs).mp hS
        exact ⟨_, J, P, rfl, rfl, hC, hM0⟩
    rw [ms2_self] at key
    exact key
  · obtain ⟨rfl, rfl⟩ := (zk_no hh).mp hS
    by_cases hz : inZ t.1 z
    · have hk : ¬ (1 ≤ k ∧ k ≤ 999) := fun q => hh ⟨hz, q⟩
      refine gT_n 3 ?_
      refine ⟨rfl, rfl, gTM.use (m_isZone1 oT jT hz) (Nat.le_refl _) (fun r u hq => ?_)⟩
      obtain ⟨rfl, rfl⟩ := hq  -- X12_isZone[R171, z]
      refine gT_n 1 ?_
      refine ⟨fun c => absurd c (by decide), fun _ => ?_⟩
      refine gT_n 2 ?_
      refine ⟨rfl, gTM.use (m_isKey0 hk) (Nat.le_refl _) (fun r u hq => ?_)⟩
      obtain ⟨rfl, rfl⟩ := hq  -- X12_isKey[k]
      refine gT_n 1 ?_
      refine ⟨fun c => absurd (by decide) c, fun _ => ?_⟩
      refine gT_n 2 ?_
      exact ⟨I, J, P, rfl, rfl, hC, hM0⟩
    · refine gT_n 3 ?_
      refine ⟨rfl, rfl, gTM.use (m_isZone0 oT jT hz) (Nat.le_refl _) (fun r u hq => ?_)⟩
      obtain ⟨rfl, rfl⟩ := hq  -- X12_isZone[R171, z]
      refine gT_n 1 ?_
      refine ⟨fun _ => ?_, fun c => absurd (by decide) c⟩
      refine gT_n 2 ?_
      exact ⟨I, J, P, rfl, rfl, hC, hM0⟩
theorem o_retire_c {d : Nat} {s : zS} {I : Nat → Nat → Int32} {J : Nat → Nat → Int64} {P : Nat → Nat} {z k : Int32} (hO : sOK s) (hC : RC s I J P) (hM : RM s I J) : gTM (d + 9) 142 [.ref 0, .int z, .int k] (gST I J P) (pC s (zk s z k fun n => fOut (s.2.2.1.2.2.1 n) (¬ s.2.2.2.1.2.2.2.1 n = k) (s.2.2.2.1.2.1 n) k (setK s n) s)) := by
  obtain ⟨tp, fn, t, W, nm, pr, ch, i0, i1⟩ := s
  have hO0 := hO
  have hC0 := hC
  have hM0 := hM
  obtain ⟨oTp, oT, oW, oN, oP, oI0, oI1⟩ := hO
  obtain ⟨kTp, kF, kT, kW, kN, kP, kC, kI0, kI1, kB, kPP⟩ := hC
  obtain ⟨jTp, jF, jT, jSp, jW, jN, jP, jC, jI0, jI1, jB, jL⟩ := hM
  dsimp only at oTp oT oW oN oP oI0 oI1 kTp kF kT kW kN kP kC kI0 kI1 jTp jF jT jSp jW jN jP jC jI0 jI1
  try dsimp only
  have h4 := oT.2.1
  by_cases hh : inZ t.1 z ∧ (1 ≤ k ∧ k ≤ 999)
  · obtain ⟨⟨z, hz, rfl⟩, hk⟩ := hh
    have hz4 : z < 4 := by omega
    obtain ⟨hb, hr⟩ := kRow_out (P := P) hz4
    have hK := cK_out kW hz4
    have hl := oW.2.1 z hz4
    have hl3 : (W.2.1 z).length ≤ 3 := by omega
    have e1 := kT.1.2.2.2.1 z hz
    rcases Bool.eq_false_or_eq_true (t.2.2.1 z) with hs | hs
    · rw [hs] at e1
      refine gT_n 4 ?_
      refine ⟨rfl, rfl, rfl, gTM.use (c_has1 oT kT.1 ⟨z, hz, rfl⟩) (Nat.le_refl _) (fun r u hq => ?_)⟩
      obtain ⟨rfl, rfl⟩ := hq  -- X8_has[R12, nI z]
      refine gT_n 1 ?_
      refine ⟨fun c => absurd c (by decide), fun _ => ?_⟩
      refine gT_n 2 ?_
      refine ⟨rfl, gTM.use (c_isKey1 hk) (Nat.le_refl _) (fun r u hq => ?_)⟩
      obtain ⟨rfl, rfl⟩ := hq  -- X11_isKey[k]
      refine gT_n 1 ?_
      refine ⟨fun _ => ?_, fun c => absurd c (by decide)⟩
      refine gT_n 5 ?_
      refine ⟨rfl, rfl, rfl, (pk_in z 4 (by omega) (rfl)), ?_⟩
      refine gT_top (aa_ref (rfl) (by omega) hr) ?_
      refine gT_n 7 ?_
      refine ⟨rfl, rfl, (Or.inr rfl), (pk_in z 4 (by omega) (rfl)), fun c => absurd c (kpT (p := fun z : Int32 => ¬ (z = 0)) (show _ = (1 : Int32) from (rdI (rfl) (by omega) e1)) (by decide)), fun _ => ?_⟩
      refine gT_n 3 ?_
      refine ⟨hb.ob, rfl, gTM.use (c_khas hb hl3 hK) (Nat.le_refl _) (fun r u hq => ?_)⟩
      obtain ⟨rfl, ⟨rfl, β1⟩ | ⟨rfl, β1⟩⟩ := hq  -- X2_has[Rb, k]
      · refine gT_n 1 ?_
        refine ⟨fun c => absurd c (by decide), fun _ => ?_⟩
        refine gT_n 7 ?_
        refine ⟨rfl, rfl, rfl, (pk_in z 4 (by omega) (rfl)), px_ne (X := (W.2.2.2.1 z)) (Y := k) ((rdI (rfl) (by omega) (cA_at kW hz4))) (rfl) (fun κ2 => ?_) (fun κ2 => ?_)⟩
        · refine gT_n 3 ?_
          refine ⟨hb.ob, rfl, gTM.use (c_kdel hb hl3 hK (by assumption)) (Nat.le_refl _) (fun r u hq => ?_)⟩
          obtain ⟨rfl, n1, f1, g1, rfl, hK1⟩ := hq  -- X2_takeOut[Rb, k]
          refine gT_n 3 ?_
          refine ⟨hb.ob, ?_⟩
          exact ⟨_, _, _, _, P, rfl, ri (Eq.trans ks_0 hK1.1), ⟨(zk_yes hz h4 hk).mpr ((fOut_ok rfl hs β1 κ2 rfl).mpr ⟨rfl, rfl⟩), setK_ok hO0 (kdel_len (m := 3) (by omega) (by omega))⟩, RC_out hz4 hC0 hK1, RM_out hz4 hM0⟩
        · refine gT_n 2 ?_
          exact ⟨_, _, I, J, P, rfl, rfl, ⟨(zk_yes hz h4 hk).mpr ((fOut_no rfl (fun z : _ ∧ ¬ _ => z.2 κ2)).mpr ⟨rfl, rfl⟩), hO0⟩, hC0, hM0⟩
      · refine gT_n 1 ?_
        refine ⟨fun _ => ?_, fun c => absurd (by decide) c⟩
        refine gT_n 2 ?_
        exact ⟨_, _, I, J, P, rfl, rfl, ⟨(zk_yes hz h4 hk).mpr ((fOut_no rfl (fun z => β1 z.1)).mpr ⟨rfl, rfl⟩), hO0⟩, hC0, hM0⟩
    · rw [hs] at e1
      refine gT_n 4 ?_
      refine ⟨rfl, rfl, rfl, gTM.use (c_has1 oT kT.1 ⟨z, hz, rfl⟩) (Nat.le_refl _) (fun r u hq => ?_)⟩
      obtain ⟨rfl, rfl⟩ := hq  -- X8_has[R12, nI z]
      refine gT_n 1 ?_
      refine ⟨fun c => absurd c (by decide), fun _ => ?_⟩
      refine gT_n 2 ?_
      refine ⟨rfl, gTM.use (c_isKey1 hk) (Nat.le_refl _) (fun r u hq => ?_)⟩
      obtain ⟨rfl, rfl⟩ := hq  -- X11_isKey[k]
      refine gT_n 1 ?_
      refine ⟨fun _ => ?_, fun c => absurd c (by decide)⟩
      refine gT_n 5 ?_
      refine ⟨rfl, rfl, rfl, (pk_in z 4 (by omega) (rfl)), ?_⟩
      refine gT_top (aa_ref (rfl) (by omega) hr) ?_
      refine gT_n 7 ?_
      refine ⟨rfl, rfl, (Or.inr rfl), (pk_in z 4 (by omega) (rfl)), fun _ => ?_, fun c => absurd (kpT (p := fun z : Int32 => z = 0) (show _ = (0 : Int32) from (rdI (rfl) (by omega) e1)) (by decide)) c⟩
      refine gT_n 2 ?_
      exact ⟨_, _, I, J, P, rfl, rfl, ⟨(zk_yes hz h4 hk).mpr ((fOut_pl hs).mpr ⟨rfl, rfl⟩), hO0⟩, hC0, hM0⟩
  · by_cases hz : inZ t.1 z
    · have hk : ¬ (1 ≤ k ∧ k ≤ 999) := fun q => hh ⟨hz, q⟩
      refine gT_n 4 ?_
      refine ⟨rfl, rfl, rfl, gTM.use (c_has1 oT kT.1 hz) (Nat.le_refl _) (fun r u hq => ?_)⟩
      obtain ⟨rfl, rfl⟩ := hq  -- X8_has[R12, z]
      refine gT_n 1 ?_
      refine ⟨fun c => absurd c (by decide), fun _ => ?_⟩
      refine gT_n 2 ?_
      refine ⟨rfl, gTM.use (c_isKey0 hk) (Nat.le_refl _) (fun r u hq => ?_)⟩
      obtain ⟨rfl, rfl⟩ := hq  -- X11_isKey[k]
      refine gT_n 1 ?_
      refine ⟨fun c => absurd (by decide) c, fun _ => ?_⟩
      refine gT_n 2 ?_
      exact ⟨_, _, I, J, P, rfl, rfl, ⟨(zk_no hh).mpr ⟨rfl, rfl⟩, hO0⟩, hC0, hM0⟩
    · refine gT_n 4 ?_
      refine ⟨rfl, rfl, rfl, gTM.use (c_has0 oT kT.1 hz) (Nat.le_refl _) (fun r u hq => ?_)⟩
      obtain ⟨rfl, rfl⟩ := hq  -- X8_has[R12, z]
      refine gT_n 1 ?_
      refine ⟨fun _ => ?_, fun c => absurd (by decide) c⟩
      refine gT_n 2 ?_
      exact ⟨_, _, I, J, P, rfl, rfl, ⟨(zk_no hh).mpr ⟨rfl, rfl⟩, hO0⟩, hC0, hM0⟩
theorem o_retire_m {d : Nat} {s s' : zS} {x : Int32} {I : Nat → Nat → Int32} {J : Nat → Nat → Int64} {P : Nat → Nat} {z k : Int32} (hO : sOK s) (hS : (zk s z k fun n => fOut (s.2.2.1.2.2.1 n) (¬ s.2.2.2.1.2.2.2.1 n = k) (s.2.2.2.1.2.1 n) k (setK s n) s) x s') (hC : RC s' I J P) (hM : RM s I J) : gTM (d + 9) 265 [.ref 171, .int z, .int k] (gST I J P) (pM x s') := by
  obtain ⟨tp, fn, t, W, nm, pr, ch, i0, i1⟩ := s
  have hO0 := hO
  have hM0 := hM
  obtain ⟨oTp, oT, oW, oN, oP, oI0, oI1⟩ := hO
  obtain ⟨jTp, jF, jT, jSp, jW, jN, jP, jC, jI0, jI1, jB, jL⟩ := hM
  dsimp only at oTp oT oW oN oP oI0 oI1 jTp jF jT jSp jW jN jP jC jI0 jI1
  try dsimp only at hS
  have h4 := oT.2.1
  by_cases hh : inZ t.1 z ∧ (1 ≤ k ∧ k ≤ 999)
  · obtain ⟨⟨z, hz, rfl⟩, hk⟩ := hh
    have hz4 : z < 4 := by omega
    replace hS := (zk_yes hz h4 hk).mp hS
    try dsimp only at hS
    have hl := oW.2.1 z hz4
    have e1 := jT.2.2.1 z hz
    have e2 := jW.2.2.2.1 z hz
    have key : gTM (d + 9) 265 [.ref 171, .int (nI z), .int k] (gST (mset3 I z (I 179 z) (fun i => I 177 (3 * z + i)) (fun i => I 178 (3 * z + i))) J P) (pM x s') := by
      have hK : mQ (I 179 z) (fun i => I 177 (3 * z + i)) (fun i => I 178 (3 * z + i)) (W.2.1 z) := jW.2.1 z hz4
      rw [← ms3_self (I := I) (z := z)] at hC hM0
      generalize I 179 z = n at hK hC hM0 ⊢
      generalize (fun i => I 177 (3 * z + i)) = f at hK hC hM0 ⊢
      generalize (fun i => I 178 (3 * z + i)) = g at hK hC hM0 ⊢
      rcases Bool.eq_false_or_eq_true (t.2.2.1 z) with hs | hs
      · rw [hs] at e1
        rw [if_pos hs] at e2
        rcases zK3 hl with hL | ⟨a1, a2, hL⟩ | ⟨a1, a2, b1, b2, hL⟩ | ⟨a1, a2, b1, b2, c1, c2, hL⟩
        · rw [hL] at hK
          refine gT_n 3 ?_
          refine ⟨rfl, rfl, gTM.use (m_isZone1 oT jT ⟨z, hz, rfl⟩) (Nat.le_refl _) (fun r u hq => ?_)⟩
          obtain ⟨rfl, rfl⟩ := hq  -- X12_isZone[R171, nI z]
          refine gT_n 1 ?_
          refine ⟨fun c => absurd c (by decide), fun _ => ?_⟩
          refine gT_n 2 ?_
          refine ⟨rfl, gTM.use (m_isKey1 hk) (Nat.le_refl _) (fun r u hq => ?_)⟩
          obtain ⟨rfl, rfl⟩ := hq  -- X12_isKey[k]
          refine gT_n 1 ?_
          refine ⟨fun _ => ?_, fun c => absurd c (by decide)⟩
          refine gT_n 5 ?_
          refine ⟨rfl, (Or.inr rfl), (pk_in z 4 (by omega) (rfl)), fun c => absurd c (kpT (p := fun z : Int32 => ¬ (z = 0)) (show _ = (1 : Int32) from (rdI (rfl) (by omega) e1)) (by decide)), fun _ => ?_⟩
          refine gT_n 4 ?_
          refine ⟨rfl, rfl, ?_⟩
          refine gT_n 8 ?_
          refine ⟨rfl, rfl, (pk_inS (m := 4) (k := z) (rfl) (by omega) ((Eq.trans (rfl) (congrArg nI (show z = z by omega))))), fun _ => ?_, fun c => absurd (kpT (p := fun z : Int32 => z ≤ 0) (rdI ((Eq.trans (rfl) (congrArg nI (show z = z by omega)))) (by omega) (Eq.trans (upd_at) ((show _ = (0 : Int32) from hK.1)))) (by decide)) c⟩
          refine gT_n 2 ?_
          show gT _ 265 32 _ _ _ _ _
          refine gT_n 2 ?_
          refine ⟨fun _ => ?_, fun c => absurd (by decide) c⟩
          refine gT_n 2 ?_
          obtain ⟨rfl, rfl⟩ := (fOut_no hL (fun z => id z.1)).mp hS
          exact ⟨_, J, P, rfl, rfl, hC, hM0⟩
        · rw [hL] at hK
          refine gT_n 3 ?_
          refine ⟨rfl, rfl, gTM.use (m_isZone1 oT jT ⟨z, hz, rfl⟩) (Nat.le_refl _) (fun r u hq => ?_)⟩
          obtain ⟨rfl, rfl⟩ := hq  -- X12_isZone[R171, nI z]
          refine gT_n 1 ?_
          refine ⟨fun c => absurd c (by decide), fun _ => ?_⟩
          refine gT_n 2 ?_
          refine ⟨rfl, gTM.use (m_isKey1 hk) (Nat.le_refl _) (fun r u hq => ?_)⟩
          obtain ⟨rfl, rfl⟩ := hq  -- X12_isKey[k]
          refine gT_n 1 ?_
          refine ⟨fun _ => ?_, fun c => absurd c (by decide)⟩
          refine gT_n 5 ?_
          refine ⟨rfl, (Or.inr rfl), (pk_in z 4 (by omega) (rfl)), fun c => absurd c (kpT (p := fun z : Int32 => ¬ (z = 0)) (show _ = (1 : Int32) from (rdI (rfl) (by omega) e1)) (by decide)), fun _ => ?_⟩
          refine gT_n 4 ?_
          refine ⟨rfl, rfl, ?_⟩
          refine gT_n 8 ?_
          refine ⟨rfl, rfl, (pk_inS (m := 4) (k := z) (rfl) (by omega) ((Eq.trans (rfl) (congrArg nI (show z = z by omega))))), fun c => absurd c (kpT (p := fun z : Int32 => ¬ (z ≤ 0)) (rdI ((Eq.trans (rfl) (congrArg nI (show z = z by omega)))) (by omega) (Eq.trans (upd_at) ((show _ = (1 : Int32) from hK.1)))) (by decide)), fun _ => ?_⟩
          refine gT_n 10 ?_
          refine ⟨rfl, rfl, (pk_inS (m := 12) (k := 3 * z + 0) (rfl) (by omega) ((Eq.trans (pk_addE (n := (3 * z)) (k := 0) (pk_mulE (n := 3) (k := z) (rfl) (rfl)) (rfl)) (congrArg nI (show ((3 * z) + 0) = 3 * z + 0 by omega))))), px_ne (X := a1) (Y := k) ((rdI ((Eq.trans (pk_addE (n := (3 * z)) (k := 0) (pk_mulE (n := 3) (k := z) (rfl) (rfl)) (rfl)) (congrArg nI (show ((3 * z) + 0) = 3 * z + 0 by omega)))) (by omega) (Eq.trans (rowup_in (by decide)) ((hK.2 0 (show 0 < 1 by decide)).1)))) (rfl) (fun κ1 => ?_) (fun κ1 => ?_)⟩
          · refine gT_n 8 ?_
            refine ⟨rfl, rfl, (pk_inS (m := 4) (k := z) (rfl) (by omega) ((Eq.trans (rfl) (congrArg nI (show z = z by omega))))), fun _ => ?_, fun c => absurd (kpT (p := fun z : Int32 => z ≤ 1) (rdI ((Eq.trans (rfl) (congrArg nI (show z = z by omega)))) (by omega) (Eq.trans (upd_at) ((show _ = (1 : Int32) from hK.1)))) (by decide)) c⟩
            refine gT_n 2 ?_
            show gT _ 265 32 _ _ _ _ _
            refine gT_n 2 ?_
            refine ⟨fun _ => ?_, fun c => absurd (by decide) c⟩
            refine gT_n 2 ?_
            obtain ⟨rfl, rfl⟩ := (fOut_no hL (fun z => κ1 z.1)).mp hS
            exact ⟨_, J, P, rfl, rfl, hC, hM0⟩
          · refine gT_n 2 ?_
            show gT _ 265 32 _ _ _ _ _
            refine gT_n 2 ?_
            refine ⟨fun c => absurd c (by decide), fun _ => ?_⟩
            refine gT_n 6 ?_
            refine ⟨rfl, rfl, (pk_in z 4 (by omega) (rfl)), px_ne (X := (W.2.2.2.1 z)) (Y := k) ((rdI (rfl) (by omega) e2)) (rfl) (fun κ2 => ?_) (fun κ2 => ?_)⟩
            · refine gT_n 4 ?_
              refine ⟨rfl, rfl, ?_⟩
              refine gT_n 8 ?_
              refine ⟨rfl, rfl, (pk_inS (m := 4) (k := z) (rfl) (by omega) ((Eq.trans (rfl) (congrArg nI (show z = z by omega))))), fun c => absurd c (kpT (p := fun z : Int32 => ¬ (z ≤ 0)) (rdI ((Eq.trans (rfl) (congrArg nI (show z = z by omega)))) (by omega) (Eq.trans (upd_at) ((show _ = (1 : Int32) from hK.1)))) (by decide)), fun _ => ?_⟩
              refine gT_n 10 ?_
              refine ⟨rfl, rfl, (pk_inS (m := 12) (k := 3 * z + 0) (rfl) (by omega) ((Eq.trans (pk_addE (n := (3 * z)) (k := 0) (pk_mulE (n := 3) (k := z) (rfl) (rfl)) (rfl)) (congrArg nI (show ((3 * z) + 0) = 3 * z + 0 by omega))))), px_ne (X := a1) (Y := k) ((rdI ((Eq.trans (pk_addE (n := (3 * z)) (k := 0) (pk_mulE (n := 3) (k := z) (rfl) (rfl)) (rfl)) (congrArg nI (show ((3 * z) + 0) = 3 * z + 0 by omega)))) (by omega) (Eq.trans (rowup_in (by decide)) ((hK.2 0 (show 0 < 1 by decide)).1)))) (rfl) (fun c => by first | exact absurd κ1 c | exact absurd c κ1) (fun _ => ?_)⟩
              refine gT_n 2 ?_
              show gT _ 265 56 _ _ _ _ _
              refine gT_n 9 ?_
              refine ⟨rfl, rfl, (pk_inS (m := 4) (k := z) (rfl) (by omega) ((Eq.trans (rfl) (congrArg nI (show z = z by omega))))), fun _ => ?_, fun c => absurd (kpT (p := fun z : Int32 => z ≤ 0) (k2E (f := fun x y : Int32 => x - y) (rdI ((Eq.trans (rfl) (congrArg nI (show z = z by omega)))) (by omega) (Eq.trans (upd_at) ((show _ = (1 : Int32) from hK.1)))) (rfl : _ = (1 : Int32)) (show ((1 : Int32) - 1) = 0 by decide)) (by decide)) c⟩
              refine gT_n 8 ?_
              refine ⟨rfl, rfl, (pk_inS (m := 4) (k := z) (rfl) (by omega) ((Eq.trans (rfl) (congrArg nI (show z = z by omega))))), rfl, (pk_inS (m := 4) (k := z) (rfl) (by omega) ((Eq.trans (rfl) (congrArg nI (show z = z by omega))))), ?_⟩
              refine gT_ms3n (k := 0) (X := 0) ((Eq.trans (rfl) (congrArg nI (show z = z by omega)))) (by omega) (by decide) ((k2E (f := fun x y : Int32 => x - y) (rdI ((Eq.trans (rfl) (congrArg nI (show z = z by omega)))) (by omega) (Eq.trans (upd_at) ((show _ = (1 : Int32) from hK.1)))) (rfl : _ = (1 : Int32)) (show ((1 : Int32) - 1) = 0 by decide))) ?_
              refine gT_n 5 ?_
              refine ⟨rfl, rfl, (pk_inS (m := 4) (k := z) (rfl) (by omega) ((Eq.trans (rfl) (congrArg nI (show z = z by omega))))), ?_⟩
              obtain ⟨rfl, rfl⟩ := (fOut_ok hL hs κ1 κ2 (show _ = ([] : zK) from (if_pos κ1))).mp hS
              exact ⟨_, J, P, rfl, ri ((rdI ((Eq.trans (rfl) (congrArg nI (show z = z by omega)))) (by omega) (Eq.trans (upd_at) (rfl)))), hC, ⟨jTp, jF, jT, jSp, ⟨jW.1, mKs_set jW.2.1 oW.2.1 (mQ0 (rfl) ) (show 0 ≤ 3 by decide), jW.2.2.1, jW.2.2.2⟩, jN, jP, jC, jI0, jI1, jB, jL⟩⟩
            · refine gT_n 2 ?_
              obtain ⟨rfl, rfl⟩ := (fOut_no hL (fun z : _ ∧ ¬ _ => z.2 κ2)).mp hS
              exact ⟨_, J, P, rfl, rfl, hC, hM0⟩
        · rw [hL] at hK
          refine gT_n 3 ?_
          refine ⟨rfl, rfl, gTM.use (m_isZone1 oT jT ⟨z, hz, rfl⟩) (Nat.le_refl _) (fun r u hq => ?_)⟩
          obtain ⟨rfl, rfl⟩ := hq  -- X12_isZone[R171, nI z]
          refine gT_n 1 ?_
          refine ⟨fun c => absurd c (by decide), fun _ => ?_⟩
          refine gT_n 2 ?_
          refine ⟨rfl, gTM.use (m_isKey1 hk) (Nat.le_refl _) (fun r u hq => ?_)⟩
          obtain ⟨rfl, rfl⟩ := hq  -- X12_isKey[k]
          refine gT_n 1 ?_
          refine ⟨fun _ => ?_, fun c => absurd c (by decide)⟩
          refine gT_n 5 ?_
          refine ⟨rfl, (Or.inr rfl), (pk_in z 4 (by omega) (rfl)), fun c => absurd c (kpT (p := fun z : Int32 => ¬ (z = 0)) (show _ = (1 : Int32) from (rdI (rfl) (by omega) e1)) (by decide)), fun _ => ?_⟩
          refine gT_n 4 ?_
          refine ⟨rfl, rfl, ?_⟩
          refine gT_n 8 ?_
          refine ⟨rfl, rfl, (pk_inS (m := 4) (k := z) (rfl) (by omega) ((Eq.trans (rfl) (congrArg nI (show z = z by omega))))), fun c => absurd c (kpT (p := fun z : Int32 => ¬ (z ≤ 0)) (rdI ((Eq.trans (rfl) (congrArg nI (show z = z by omega)))) (by omega) (Eq.trans (upd_at) ((show _ = (2 : Int32) from hK.1)))) (by decide)), fun _ => ?_⟩
          refine gT_n 10 ?_
          refine ⟨rfl, rfl, (pk_inS (m := 12) (k := 3 * z + 0) (rfl) (by omega) ((Eq.trans (pk_addE (n := (3 * z)) (k := 0) (pk_mulE (n := 3) (k := z) (rfl) (rfl)) (rfl)) (congrArg nI (show ((3 * z) + 0) = 3 * z + 0 by omega))))), px_ne (X := a1) (Y := k) ((rdI ((Eq.trans (pk_addE (n := (3 * z)) (k := 0) (pk_mulE (n := 3) (k := z) (rfl) (rfl)) (rfl)) (congrArg nI (show ((3 * z) + 0) = 3 * z + 0 by omega)))) (by omega) (Eq.trans (rowup_in (by decide)) ((hK.2 0 (show 0 < 2 by decide)).1)))) (rfl) (fun κ1 => ?_) (fun κ1 => ?_)⟩
          · refine gT_n 8 ?_
            refine ⟨rfl, rfl, (pk_inS (m := 4) (k := z) (rfl) (by omega) ((Eq.trans (rfl) (congrArg nI (show z = z by omega))))), fun c => absurd c (kpT (p := fun z : Int32 => ¬ (z ≤ 1)) (rdI ((Eq.trans (rfl) (congrArg nI (show z = z by omega)))) (by omega) (Eq.trans (upd_at) ((show _ = (2 : Int32) from hK.1)))) (by decide)), fun _ => ?_⟩
            refine gT_n 10 ?_
            refine ⟨rfl, rfl, (pk_inS (m := 12) (k := 3 * z + 1) (rfl) (by omega) ((Eq.trans (pk_addE (n := (3 * z)) (k := 1) (pk_mulE (n := 3) (k := z) (rfl) (rfl)) (rfl)) (congrArg nI (show ((3 * z) + 1) = 3 * z + 1 by omega))))), px_ne (X := b1) (Y := k) ((rdI ((Eq.trans (pk_addE (n := (3 * z)) (k := 1) (pk_mulE (n := 3) (k := z) (rfl) (rfl)) (rfl)) (congrArg nI (show ((3 * z) + 1) = 3 * z + 1 by omega)))) (by omega) (Eq.trans (rowup_in (by decide)) ((hK.2 1 (show 1 < 2 by decide)).1)))) (rfl) (fun κ2 => ?_) (fun κ2 => ?_)⟩
            · refine gT_n 8 ?_
              refine ⟨rfl, rfl, (pk_inS (m := 4) (k := z) (rfl) (by omega) ((Eq.trans (rfl) (congrArg nI (show z = z by omega))))), fun _ => ?_, fun c => absurd (kpT (p := fun z : Int32 => z ≤ 2) (rdI ((Eq.trans (rfl) (congrArg nI (show z = z by omega)))) (by omega) (Eq.trans (upd_at) ((show _ = (2 : Int32) from hK.1)))) (by decide)) c⟩
              refine gT_n 2 ?_
              show gT _ 265 32 _ _ _ _ _
              refine gT_n 2 ?_
              refine ⟨fun _ => ?_, fun c => absurd (by decide) c⟩
              refine gT_n 2 ?_
              obtain ⟨rfl, rfl⟩ := (fOut_no hL (fun z => (fun z => Or.elim z κ1 κ2) z.1)).mp hS
              exact ⟨_, J, P, rfl, rfl, hC, hM0⟩
            · refine gT_n 2 ?_
              show gT _ 265 32 _ _ _ _ _
              refine gT_n 2 ?_
              refine ⟨fun c => absurd c (by decide), fun _ => ?_⟩
              refine gT_n 6 ?_
              refine ⟨rfl, rfl, (pk_in z 4 (by omega) (rfl)), px_ne (X := (W.2.2.2.1 z)) (Y := k) ((rdI (rfl) (by omega) e2)) (rfl) (fun κ3 => ?_) (fun κ3 => ?_)⟩
              · refine gT_n 4 ?_
                refine ⟨rfl, rfl, ?_⟩
                refine gT_n 8 ?_
                refine ⟨rfl, rfl, (pk_inS (m := 4) (k := z) (rfl) (by omega) ((Eq.trans (rfl) (congrArg nI (show z = z by omega))))), fun c => absurd c (kpT (p := fun z : Int32 => ¬ (z ≤ 0)) (rdI ((Eq.trans (rfl) (congrArg nI (show z = z by omega)))) (by omega) (Eq.trans (upd_at) ((show _ = (2 : Int32) from hK.1)))) (by decide)), fun _ => ?_⟩
                refine gT_n 10 ?_
                refine ⟨rfl, rfl, (pk_inS (m := 12) (k := 3 * z + 0) (rfl) (by omega) ((Eq.trans (pk_addE (n := (3 * z)) (k := 0) (pk_mulE (n := 3) (k := z) (rfl) (rfl)) (rfl)) (congrArg nI (show ((3 * z) + 0) = 3 * z + 0 by omega))))), px_ne (X := a1) (Y := k) ((rdI ((Eq.trans (pk_addE (n := (3 * z)) (k := 0) (pk_mulE (n := 3) (k := z) (rfl) (rfl)) (rfl)) (congrArg nI (show ((3 * z) + 0) = 3 * z + 0 by omega)))) (by omega) (Eq.trans (rowup_in (by decide)) ((hK.2 0 (show 0 < 2 by decide)).1)))) (rfl) (fun _ => ?_) (fun c => by first | exact absurd κ1 c | exact absurd c κ1)⟩
                refine gT_n 8 ?_
                refine ⟨rfl, rfl, (pk_inS (m := 4) (k := z) (rfl) (by omega) ((Eq.trans (rfl) (congrArg nI (show z = z by omega))))), fun c => absurd c (kpT (p := fun z : Int32 => ¬ (z ≤ 1)) (rdI ((Eq.trans (rfl) (congrArg nI (show z = z by omega)))) (by omega) (Eq.trans (upd_at) ((show _ = (2 : Int32) from hK.1)))) (by decide)), fun _ => ?_⟩
                refine gT_n 10 ?_
                refine ⟨rfl, rfl, (pk_inS (m := 12) (k := 3 * z + 1) (rfl) (by omega) ((Eq.trans (pk_addE (n := (3 * z)) (k := 1) (pk_mulE (n := 3) (k := z) (rfl) (rfl)) (rfl)) (congrArg nI (show ((3 * z) + 1) = 3 * z + 1 by omega))))), px_ne (X := b1) (Y := k) ((rdI ((Eq.trans (pk_addE (n := (3 * z)) (k := 1) (pk_mulE (n := 3) (k := z) (rfl) (rfl)) (rfl)) (congrArg nI (show ((3 * z) + 1) = 3 * z + 1 by omega)))) (by omega) (Eq.trans (rowup_in (by decide)) ((hK.2 1 (show 1 < 2 by decide)).1)))) (rfl) (fun c => by first | exact absurd κ2 c | exact absurd c κ2) (fun _ => ?_)⟩
                refine gT_n 2 ?_
                show gT _ 265 56 _ _ _ _ _
                refine gT_n 9 ?_
                refine ⟨rfl, rfl, (pk_inS (m := 4) (k := z) (rfl) (by omega) ((Eq.trans (rfl) (congrArg nI (show z = z by omega))))), fun _ => ?_, fun c => absurd (kpT (p := fun z : Int32 => z ≤ 1) (k2E (f := fun x y : Int32 => x - y) (rdI ((Eq.trans (rfl) (congrArg nI (show z = z by omega)))) (by omega) (Eq.trans (upd_at) ((show _ = (2 : Int32) from hK.1)))) (rfl : _ = (1 : Int32)) (show ((2 : Int32) - 1) = 1 by decide)) (by decide)) c⟩
                refine gT_n 8 ?_
                refine ⟨rfl, rfl, (pk_inS (m := 4) (k := z) (rfl) (by omega) ((Eq.trans (rfl) (congrArg nI (show z = z by omega))))), rfl, (pk_inS (m := 4) (k := z) (rfl) (by omega) ((Eq.trans (rfl) (congrArg nI (show z = z by omega))))), ?_⟩
                refine gT_ms3n (k := 0) (X := 1) ((Eq.trans (rfl) (congrArg nI (show z = z by omega)))) (by omega) (by decide) ((k2E (f := fun x y : Int32 => x - y) (rdI ((Eq.trans (rfl) (congrArg nI (show z = z by omega)))) (by omega) (Eq.trans (upd_at) ((show _ = (2 : Int32) from hK.1)))) (rfl : _ = (1 : Int32)) (show ((2 : Int32) - 1) = 1 by decide))) ?_
                refine gT_n 5 ?_
                refine ⟨rfl, rfl, (pk_inS (m := 4) (k := z) (rfl) (by omega) ((Eq.trans (rfl) (congrArg nI (show z = z by omega))))), ?_⟩
                obtain ⟨rfl, rfl⟩ := (fOut_ok hL hs (Or.inr (κ2)) κ3 (show _ = [(a1, a2)] from (Eq.trans (if_neg κ1) (if_pos κ2)))).mp hS
                exact ⟨_, J, P, rfl, ri ((rdI ((Eq.trans (rfl) (congrArg nI (show z = z by omega)))) (by omega) (Eq.trans (upd_at) (rfl)))), hC, ⟨jTp, jF, jT, jSp, ⟨jW.1, mKs_set jW.2.1 oW.2.1 (mQ1 (rfl) ⟨(hK.2 0 (show 0 < 2 by decide)).1, (hK.2 0 (show 0 < 2 by decide)).2⟩) (show 1 ≤ 3 by decide), jW.2.2.1, jW.2.2.2⟩, jN, jP, jC, jI0, jI1, jB, jL⟩⟩
              · refine gT_n 2 ?_
                obtain ⟨rfl, rfl⟩ := (fOut_no hL (fun z : _ ∧ ¬ _ => z.2 κ3)).mp hS
                exact ⟨_, J, P, rfl, rfl, hC, hM0⟩
          · refine gT_n 2 ?_
            show gT _ 265 32 _ _ _ _ _
            refine gT_n 2 ?_
            refine ⟨fun c => absurd c (by decide), fun _ => ?_⟩
            refine gT_n 6 ?_
            refine ⟨rfl, rfl, (pk_in z 4 (by omega) (rfl)), px_ne (X := (W.2.2.2.1 z)) (Y := k) ((rdI (rfl) (by omega) e2)) (rfl) (fun κ4 => ?_) (fun κ4 => ?_)⟩
            · refine gT_n 4 ?_
              refine ⟨rfl, rfl, ?_⟩
              refine gT_n 8 ?_
              refine ⟨rfl, rfl, (pk_inS (m := 4) (k := z) (rfl) (by omega) ((Eq.trans (rfl) (congrArg nI (show z = z by omega))))), fun c => absurd c (kpT (p := fun z : Int32 => ¬ (z ≤ 0)) (rdI ((Eq.trans (rfl) (congrArg nI (show z = z by omega)))) (by omega) (Eq.trans (upd_at) ((show _ = (2 : Int32) from hK.1)))) (by decide)), fun _ => ?_⟩
              refine gT_n 10 ?_
              refine ⟨rfl, rfl, (pk_inS (m := 12) (k := 3 * z + 0) (rfl) (by omega) ((Eq.trans (pk_addE (n := (3 * z)) (k := 0) (pk_mulE (n := 3) (k := z) (rfl) (rfl)) (rfl)) (congrArg nI (show ((3 * z) + 0) = 3 * z + 0 by omega))))), px_ne (X := a1) (Y := k) ((rdI ((Eq.trans (pk_addE (n := (3 * z)) (k := 0) (pk_mulE (n := 3) (k := z) (rfl) (rfl)) (rfl)) (congrArg nI (show ((3 * z) + 0) = 3 * z + 0 by omega)))) (by omega) (Eq.trans (rowup_in (by decide)) ((hK.2 0 (show 0 < 2 by decide)).1)))) (rfl) (fun c => by first | exact absurd κ1 c | exact absurd c κ1) (fun _ => ?_)⟩
              refine gT_n 2 ?_
              show gT _ 265 56 _ _ _ _ _
              refine gT_n 9 ?_
              refine ⟨rfl, rfl, (pk_inS (m := 4) (k := z) (rfl) (by omega) ((Eq.trans (rfl) (congrArg nI (show z = z by omega))))), fun c => absurd c (kpT (p := fun z : Int32 => ¬ (z ≤ 0)) (k2E (f := fun x y : Int32 => x - y) (rdI ((Eq.trans (rfl) (congrArg nI (show z = z by omega)))) (by omega) (Eq.trans (upd_at) ((show _ = (2 : Int32) from hK.1)))) (rfl : _ = (1 : Int32)) (show ((2 : Int32) - 1) = 1 by decide)) (by decide)), fun _ => ?_⟩
              refine gT_n 18 ?_
              refine ⟨rfl, rfl, rfl, (pk_inS (m := 12) (k := 3 * z + 1) (rfl) (by omega) ((Eq.trans (pk_addE (n := ((3 * z) + 0)) (k := 1) (pk_addE (n := (3 * z)) (k := 0) (pk_mulE (n := 3) (k := z) (rfl) (rfl)) (rfl)) (rfl)) (congrArg nI (show (((3 * z) + 0) + 1) = 3 * z + 1 by omega))))), rfl, (pk_inS (m := 12) (k := 3 * z + 0) (rfl) (by omega) ((Eq.trans (pk_addE (n := (3 * z)) (k := 0) (pk_mulE (n := 3) (k := z) (rfl) (rfl)) (rfl)) (congrArg nI (show ((3 * z) + 0) = 3 * z + 0 by omega))))), ?_⟩
              refine gT_ms3f (k := 0) (X := b1) ((Eq.trans (pk_addE (n := (3 * z)) (k := 0) (pk_mulE (n := 3) (k := z) (rfl) (rfl)) (rfl)) (congrArg nI (show ((3 * z) + 0) = 3 * z + 0 by omega)))) (by omega) (by decide) ((rdI ((Eq.trans (pk_addE (n := ((3 * z) + 0)) (k := 1) (pk_addE (n := (3 * z)) (k := 0) (pk_mulE (n := 3) (k := z) (rfl) (rfl)) (rfl)) (rfl)) (congrArg nI (show (((3 * z) + 0) + 1) = 3 * z + 1 by omega)))) (by omega) (Eq.trans (rowup_in (by decide)) ((hK.2 1 (show 1 < 2 by decide)).1)))) ?_
              refine gT_n 18 ?_
              refine ⟨rfl, rfl, rfl, (pk_inS (m := 12) (k := 3 * z + 1) (rfl) (by omega) ((Eq.trans (pk_addE (n := ((3 * z) + 0)) (k := 1) (pk_addE (n := (3 * z)) (k := 0) (pk_mulE (n := 3) (k := z) (rfl) (rfl)) (rfl)) (rfl)) (congrArg nI (show (((3 * z) + 0) + 1) = 3 * z + 1 by omega))))), rfl, (pk_inS (m := 12) (k := 3 * z + 0) (rfl) (by omega) ((Eq.trans (pk_addE (n := (3 * z)) (k := 0) (pk_mulE (n := 3) (k := z) (rfl) (rfl)) (rfl)) (congrArg nI (show ((3 * z) + 0) = 3 * z + 0 by omega))))), ?_⟩
              refine gT_ms3g (k := 0) (X := b2) ((Eq.trans (pk_addE (n := (3 * z)) (k := 0) (pk_mulE (n := 3) (k := z) (rfl) (rfl)) (rfl)) (congrArg nI (show ((3 * z) + 0) = 3 * z + 0 by omega)))) (by omega) (by decide) ((rdI ((Eq.trans (pk_addE (n := ((3 * z) + 0)) (k := 1) (pk_addE (n := (3 * z)) (k := 0) (pk_mulE (n := 3) (k := z) (rfl) (rfl)) (rfl)) (rfl)) (congrArg nI (show (((3 * z) + 0) + 1) = 3 * z + 1 by omega)))) (by omega) (Eq.trans (rowup_in (by decide)) ((hK.2 1 (show 1 < 2 by decide)).2)))) ?_
              refine gT_n 10 ?_
              refine ⟨rfl, rfl, (pk_inS (m := 4) (k := z) (rfl) (by omega) ((Eq.trans (rfl) (congrArg nI (show z = z by omega))))), fun _ => ?_, fun c => absurd (kpT (p := fun z : Int32 => z ≤ 1) (k2E (f := fun x y : Int32 => x - y) (rdI ((Eq.trans (rfl) (congrArg nI (show z = z by omega)))) (by omega) (Eq.trans (upd_at) ((show _ = (2 : Int32) from hK.1)))) (rfl : _ = (1 : Int32)) (show ((2 : Int32) - 1) = 1 by decide)) (by decide)) c⟩
              refine gT_n 8 ?_
              refine ⟨rfl, rfl, (pk_inS (m := 4) (k := z) (rfl) (by omega) ((Eq.trans (rfl) (congrArg nI (show z = z by omega))))), rfl, (pk_inS (m := 4) (k := z) (rfl) (by omega) ((Eq.trans (rfl) (congrArg nI (show z = z by omega))))), ?_⟩
              refine gT_ms3n (k := 0) (X := 1) ((Eq.trans (rfl) (congrArg nI (show z = z by omega)))) (by omega) (by decide) ((k2E (f := fun x y : Int32 => x - y) (rdI ((Eq.trans (rfl) (congrArg nI (show z = z by omega)))) (by omega) (Eq.trans (upd_at) ((show _ = (2 : Int32) from hK.1)))) (rfl : _ = (1 : Int32)) (show ((2 : Int32) - 1) = 1 by decide))) ?_
              refine gT_n 5 ?_
              refine ⟨rfl, rfl, (pk_inS (m := 4) (k := z) (rfl) (by omega) ((Eq.trans (rfl) (congrArg nI (show z = z by omega))))), ?_⟩
              obtain ⟨rfl, rfl⟩ := (fOut_ok hL hs (Or.inl κ1) κ4 (show _ = [(b1, b2)] from (if_pos κ1))).mp hS
              exact ⟨_, J, P, rfl, ri ((rdI ((Eq.trans (rfl) (congrArg nI (show z = z by omega)))) (by omega) (Eq.trans (upd_at) (rfl)))), hC, ⟨jTp, jF, jT, jSp, ⟨jW.1, mKs_set jW.2.1 oW.2.1 (mQ1 (rfl) ⟨rfl, rfl⟩) (show 1 ≤ 3 by decide), jW.2.2.1, jW.2.2.2⟩, jN, jP, jC, jI0, jI1, jB, jL⟩⟩
            · refine gT_n 2 ?_
              obtain ⟨rfl, rfl⟩ := (fOut_no hL (fun z : _ ∧ ¬ _ => z.2 κ4)).mp hS
              exact ⟨_, J, P, rfl, rfl, hC, hM0⟩
        · rw [hL] at hK
          refine gT_n 3 ?_
          refine ⟨rfl, rfl, gTM.use (m_isZone1 oT jT ⟨z, hz, rfl⟩) (Nat.le_refl _) (fun r u hq => ?_)⟩
          obtain ⟨rfl, rfl⟩ := hq  -- X12_isZone[R171, nI z]
          refine gT_n 1 ?_
          refine ⟨fun c => absurd c (by decide), fun _ => ?_⟩
          refine gT_n 2 ?_
          refine ⟨rfl, gTM.use (m_isKey1 hk) (Nat.le_refl _) (fun r u hq => ?_)⟩
          obtain ⟨rfl, rfl⟩ := hq  -- X12_isKey[k]
          refine gT_n 1 ?_
          refine ⟨fun _ => ?_, fun c => absurd c (by decide)⟩
          refine gT_n 5 ?_
          refine ⟨rfl, (Or.inr rfl), (pk_in z 4 (by omega) (rfl)), fun c => absurd c (kpT (p := fun z : Int32 => ¬ (z = 0)) (show _ = (1 : Int32) from (rdI (rfl) (by omega) e1)) (by decide)), fun _ => ?_⟩
          refine gT_n 4 ?_
          refine ⟨rfl, rfl, ?_⟩
          refine gT_n 8 ?_
          refine ⟨rfl, rfl, (pk_inS (m := 4) (k := z) (rfl) (by omega) ((Eq.trans (rfl) (congrArg nI (show z = z by omega))))), fun c => absurd c (kpT (p := fun z : Int32 => ¬ (z ≤ 0)) (rdI ((Eq.trans (rfl) (congrArg nI (show z = z by omega)))) (by omega) (Eq.trans (upd_at) ((show _ = (3 : Int32) from hK.1)))) (by decide)), fun _ => ?_⟩
          refine gT_n 10 ?_
          refine ⟨rfl, rfl, (pk_inS (m := 12) (k := 3 * z + 0) (rfl) (by omega) ((Eq.trans (pk_addE (n := (3 * z)) (k := 0) (pk_mulE (n := 3) (k := z) (rfl) (rfl)) (rfl)) (congrArg nI (show ((3 * z) + 0) = 3 * z + 0 by omega))))), px_ne (X := a1) (Y := k) ((rdI ((Eq.trans (pk_addE (n := (3 * z)) (k := 0) (pk_mulE (n := 3) (k := z) (rfl) (rfl)) (rfl)) (congrArg nI (show ((3 * z) + 0) = 3 * z + 0 by omega)))) (by omega) (Eq.trans (rowup_in (by decide)) ((hK.2 0 (show 0 < 3 by decide)).1)))) (rfl) (fun κ1 => ?_) (fun κ1 => ?_)⟩
          · refine gT_n 8 ?_
            refine ⟨rfl, rfl, (pk_inS (m := 4) (k := z) (rfl) (by omega) ((Eq.trans (rfl) (congrArg nI (show z = z by omega))))), fun c => absurd c (kpT (p := fun z : Int32 => ¬ (z ≤ 1)) (rdI ((Eq.trans (rfl) (congrArg nI (show z = z by omega)))) (by omega) (Eq.trans (upd_at) ((show _ = (3 : Int32) from hK.1)))) (by decide)), fun _ => ?_⟩
            refine gT_n 10 ?_
            refine ⟨rfl, rfl, (pk_inS (m := 12) (k := 3 * z + 1) (rfl) (by omega) ((Eq.trans (pk_addE (n := (3 * z)) (k := 1) (pk_mulE (n := 3) (k := z) (rfl) (rfl)) (rfl)) (congrArg nI (show ((3 * z) + 1) = 3 * z + 1 by omega))))), px_ne (X := b1) (Y := k) ((rdI ((Eq.trans (pk_addE (n := (3 * z)) (k := 1) (pk_mulE (n := 3) (k := z) (rfl) (rfl)) (rfl)) (congrArg nI (show ((3 * z) + 1) = 3 * z + 1 by omega)))) (by omega) (Eq.trans (rowup_in (by decide)) ((hK.2 1 (show 1 < 3 by decide)).1)))) (rfl) (fun κ2 => ?_) (fun κ2 => ?_)⟩
            · refine gT_n 8 ?_
              refine ⟨rfl, rfl, (pk_inS (m := 4) (k := z) (rfl) (by omega) ((Eq.trans (rfl) (congrArg nI (show z = z by omega))))), fun c => absurd c (kpT (p := fun z : Int32 => ¬ (z ≤ 2)) (rdI ((Eq.trans (rfl) (congrArg nI (show z = z by omega)))) (by omega) (Eq.trans (upd_at) ((show _ = (3 : Int32) from hK.1)))) (by decide)), fun _ => ?_⟩
              refine gT_n 10 ?_
              refine ⟨rfl, rfl, (pk_inS (m := 12) (k := 3 * z + 2) (rfl) (by omega) ((Eq.trans (pk_addE (n := (3 * z)) (k := 2) (pk_mulE (n := 3) (k := z) (rfl) (rfl)) (rfl)) (congrArg nI (show ((3 * z) + 2) = 3 * z + 2 by omega))))), px_ne (X := c1) (Y := k) ((rdI ((Eq.trans (pk_addE (n := (3 * z)) (k := 2) (pk_mulE (n := 3) (k := z) (rfl) (rfl)) (rfl)) (congrArg nI (show ((3 * z) + 2) = 3 * z + 2 by omega)))) (by omega) (Eq.trans (rowup_in (by decide)) ((hK.2 2 (show 2 < 3 by decide)).1)))) (rfl) (fun κ3 => ?_) (fun κ3 => ?_)⟩
              · refine gT_n 8 ?_
                refine ⟨rfl, rfl, (pk_inS (m := 4) (k := z) (rfl) (by omega) ((Eq.trans (rfl) (congrArg nI (show z = z by omega))))), fun _ => ?_, fun c => absurd (kpT (p := fun z : Int32 => z ≤ 3) (rdI ((Eq.trans (rfl) (congrArg nI (show z = z by omega)))) (by omega) (Eq.trans (upd_at) ((show _ = (3 : Int32) from hK.1)))) (by decide)) c⟩
                refine gT_n 2 ?_
                show gT _ 265 32 _ _ _ _ _
                refine gT_n 2 ?_
                refine ⟨fun _ => ?_, fun c => absurd (by decide) c⟩
                refine gT_n 2 ?_
                obtain ⟨rfl, rfl⟩ := (fOut_no hL (fun z => (fun z => Or.elim z κ1 (fun z => Or.elim z κ2 κ3)) z.1)).mp hS
                exact ⟨_, J, P, rfl, rfl, hC, hM0⟩
              · refine gT_n 2 ?_
                show gT _ 265 32 _ _ _ _ _
                refine gT_n 2 ?_
                refine ⟨fun c => absurd c (by decide), fun _ => ?_⟩
                refine gT_n 6 ?_
                refine ⟨rfl, rfl, (pk_in z 4 (by omega) (rfl)), px_ne (X := (W.2.2.2.1 z)) (Y := k) ((rdI (rfl) (by omega) e2)) (rfl) (fun κ4 => ?_) (fun κ4 => ?_)⟩
                · refine gT_n 4 ?_
                  refine ⟨rfl, rfl, ?_⟩
                  refine gT_n 8 ?_
                  refine ⟨rfl, rfl, (pk_inS (m := 4) (k := z) (rfl) (by omega) ((Eq.trans (rfl) (congrArg nI (show z = z by omega))))), fun c => absurd c (kpT (p := fun z : Int32 => ¬ (z ≤ 0)) (rdI ((Eq.trans (rfl) (congrArg nI (show z = z by omega)))) (by omega) (Eq.trans (upd_at) ((show _ = (3 : Int32) from hK.1)))) (by decide)), fun _ => ?_⟩
                  refine gT_n 10 ?_
                  refine ⟨rfl, rfl, (pk_inS (m := 12) (k := 3 * z + 0) (rfl) (by omega) ((Eq.trans (pk_addE (n := (3 * z)) (k := 0) (pk_mulE (n := 3) (k := z) (rfl) (rfl)) (rfl)) (congrArg nI (show ((3 * z) + 0) = 3 * z + 0 by omega))))), px_ne (X := a1) (Y := k) ((rdI ((Eq.trans (pk_addE (n := (3 * z)) (k := 0) (pk_mulE (n := 3) (k := z) (rfl) (rfl)) (rfl)) (congrArg nI (show ((3 * z) + 0) = 3 * z + 0 by omega)))) (by omega) (Eq.trans (rowup_in (by decide)) ((hK.2 0 (show 0 < 3 by decide)).1)))) (rfl) (fun _ => ?_) (fun c => by first | exact absurd κ1 c | exact absurd c κ1)⟩
                  refine gT_n 8 ?_
                  refine ⟨rfl, rfl, (pk_inS (m := 4) (k := z) (rfl) (by omega) ((Eq.trans (rfl) (congrArg nI (show z = z by omega))))), fun c => absurd c (kpT (p := fun z : Int32 => ¬ (z ≤ 1)) (rdI ((Eq.trans (rfl) (congrArg nI (show z = z by omega)))) (by omega) (Eq.trans (upd_at) ((show _ = (3 : Int32) from hK.1)))) (by decide)), fun _ => ?_⟩
                  refine gT_n 10 ?_
                  refine ⟨rfl, rfl, (pk_inS (m := 12) (k := 3 * z + 1) (rfl) (by omega) ((Eq.trans (pk_addE (n := (3 * z)) (k := 1) (pk_mulE (n := 3) (k := z) (rfl) (rfl)) (rfl)) (congrArg nI (show ((3 * z) + 1) = 3 * z + 1 by omega))))), px_ne (X := b1) (Y := k) ((rdI ((Eq.trans (pk_addE (n := (3 * z)) (k := 1) (pk_mulE (n := 3) (k := z) (rfl) (rfl)) (rfl)) (congrArg nI (show ((3 * z) + 1) = 3 * z + 1 by omega)))) (by omega) (Eq.trans (rowup_in (by decide)) ((hK.2 1 (show 1 < 3 by decide)).1)))) (rfl) (fun _ => ?_) (fun c => by first | exact absurd κ2 c | exact absurd c κ2)⟩
                  refine gT_n 8 ?_
                  refine ⟨rfl, rfl, (pk_inS (m := 4) (k := z) (rfl) (by omega) ((Eq.trans (rfl) (congrArg nI (show z = z by omega))))), fun c => absurd c (kpT (p := fun z : Int32 => ¬ (z ≤ 2)) (rdI ((Eq.trans (rfl) (congrArg nI (show z = z by omega)))) (by omega) (Eq.trans (upd_at) ((show _ = (3 : Int32) from hK.1)))) (by decide)), fun _ => ?_⟩
                  refine gT_n 10 ?_
                  refine ⟨rfl, rfl, (pk_inS (m := 12) (k := 3 * z + 2) (rfl) (by omega) ((Eq.trans (pk_addE (n := (3 * z)) (k := 2) (pk_mulE (n := 3) (k := z) (rfl) (rfl)) (rfl)) (congrArg nI (show ((3 * z) + 2) = 3 * z + 2 by omega))))), px_ne (X := c1) (Y := k) ((rdI ((Eq.trans (pk_addE (n := (3 * z)) (k := 2) (pk_mulE (n := 3) (k := z) (rfl) (rfl)) (rfl)) (congrArg nI (show ((3 * z) + 2) = 3 * z + 2 by omega)))) (by omega) (Eq.trans (rowup_in (by decide)) ((hK.2 2 (show 2 < 3 by decide)).1)))) (rfl) (fun c => by first | exact absurd κ3 c | exact absurd c κ3) (fun _ => ?_)⟩
                  refine gT_n 2 ?_
                  show gT _ 265 56 _ _ _ _ _
                  refine gT_n 9 ?_
                  refine ⟨rfl, rfl, (pk_inS (m := 4) (k := z) (rfl) (by omega) ((Eq.trans (rfl) (congrArg nI (show z = z by omega))))), fun _ => ?_, fun c => absurd (kpT (p := fun z : Int32 => z ≤ 2) (k2E (f := fun x y : Int32 => x - y) (rdI ((Eq.trans (rfl) (congrArg nI (show z = z by omega)))) (by omega) (Eq.trans (upd_at) ((show _ = (3 : Int32) from hK.1)))) (rfl : _ = (1 : Int32)) (show ((3 : Int32) - 1) = 2 by decide)) (by decide)) c⟩
                  refine gT_n 8 ?_
                  refine ⟨rfl, rfl, (pk_inS (m := 4) (k := z) (rfl) (by omega) ((Eq.trans (rfl) (congrArg nI (show z = z by omega))))), rfl, (pk_inS (m := 4) (k := z) (rfl) (by omega) ((Eq.trans (rfl) (congrArg nI (show z = z by omega))))), ?_⟩
                  refine gT_ms3n (k := 0) (X := 2) ((Eq.trans (rfl) (congrArg nI (show z = z by omega)))) (by omega) (by decide) ((k2E (f := fun x y : Int32 => x - y) (rdI ((Eq.trans (rfl) (congrArg nI (show z = z by omega)))) (by omega) (Eq.trans (upd_at) ((show _ = (3 : Int32) from hK.1)))) (rfl : _ = (1 : Int32)) (show ((3 : Int32) - 1) = 2 by decide))) ?_
                  refine gT_n 5 ?_
                  refine ⟨rfl, rfl, (pk_inS (m := 4) (k := z) (rfl) (by omega) ((Eq.trans (rfl) (congrArg nI (show z = z by omega))))), ?_⟩
                  obtain ⟨rfl, rfl⟩ := (fOut_ok hL hs (Or.inr (Or.inr (κ3))) κ4 (show _ = [(a1, a2), (b1, b2)] from (Eq.trans (Eq.trans (if_neg κ1) (if_neg κ2)) (if_pos κ3)))).mp hS
                  exact ⟨_, J, P, rfl, ri ((rdI ((Eq.trans (rfl) (congrArg nI (show z = z by omega)))) (by omega) (Eq.trans (upd_at) (rfl)))), hC, ⟨jTp, jF, jT, jSp, ⟨jW.1, mKs_set jW.2.1 oW.2.1 (mQ2 (rfl) ⟨(hK.2 0 (show 0 < 3 by decide)).1, (hK.2 0 (show 0 < 3 by decide)).2⟩ ⟨(hK.2 1 (show 1 < 3 by decide)).1, (hK.2 1 (show 1 < 3 by decide)).2⟩) (show 2 ≤ 3 by decide), jW.2.2.1, jW.2.2.2⟩, jN, jP, jC, jI0, jI1, jB, jL⟩⟩
                · refine gT_n 2 ?_
                  obtain ⟨rfl, rfl⟩ := (fOut_no hL (fun z : _ ∧ ¬ _ => z.2 κ4)).mp hS
                  exact ⟨_, J, P, rfl, rfl, hC, hM0⟩
            · refine gT_n 2 ?_
              show gT _ 265 32 _ _ _ _ _
              refine gT_n 2 ?_
              refine ⟨fun c => absurd c (by decide), fun _ => ?_⟩
              refine gT_n 6 ?_
              refine ⟨rfl, rfl, (pk_in z 4 (by omega) (rfl)), px_ne (X := (W.2.2.2.1 z)) (Y := k) ((rdI (rfl) (by omega) e2)) (rfl) (fun κ5 => ?_) (fun κ5 => ?_)⟩
              · refine gT_n 4 ?_
                refine ⟨rfl, rfl, ?_⟩
                refine gT_n 8 ?_
                refine ⟨rfl, rfl, (pk_inS (m := 4) (k := z) (rfl) (by omega) ((Eq.trans (rfl) (congrArg nI (show z = z by omega))))), fun c => absurd c (kpT (p := fun z : Int32 => ¬ (z ≤ 0)) (rdI ((Eq.trans (rfl) (congrArg nI (show z = z by omega)))) (by omega) (Eq.trans (upd_at) ((show _ = (3 : Int32) from hK.1)))) (by decide)), fun _ => ?_⟩
                refine gT_n 10 ?_
                refine ⟨rfl, rfl, (pk_inS (m := 12) (k := 3 * z + 0) (rfl) (by omega) ((Eq.trans (pk_addE (n := (3 * z)) (k := 0) (pk_mulE (n := 3) (k := z) (rfl) (rfl)) (rfl)) (congrArg nI (show ((3 * z) + 0) = 3 * z + 0 by omega))))), px_ne (X := a1) (Y := k) ((rdI ((Eq.trans (pk_addE (n := (3 * z)) (k := 0) (pk_mulE (n := 3) (k := z) (rfl) (rfl)) (rfl)) (congrArg nI (show ((3 * z) + 0) = 3 * z + 0 by omega)))) (by omega) (Eq.trans (rowup_in (by decide)) ((hK.2 0 (show 0 < 3 by decide)).1)))) (rfl) (fun _ => ?_) (fun c => by first | exact absurd κ1 c | exact absurd c κ1)⟩
                refine gT_n 8 ?_
                refine ⟨rfl, rfl, (pk_inS (m := 4) (k := z) (rfl) (by omega) ((Eq.trans (rfl) (congrArg nI (show z = z by omega))))), fun c => absurd c (kpT (p := fun z : Int32 => ¬ (z ≤ 1)) (rdI ((Eq.trans (rfl) (congrArg nI (show z = z by omega)))) (by omega) (Eq.trans (upd_at) ((show _ = (3 : Int32) from hK.1)))) (by decide)), fun _ => ?_⟩
                refine gT_n 10 ?_
                refine ⟨rfl, rfl, (pk_inS (m := 12) (k := 3 * z + 1) (rfl) (by omega) ((Eq.trans (pk_addE (n := (3 * z)) (k := 1) (pk_mulE (n := 3) (k := z) (rfl) (rfl)) (rfl)) (congrArg nI (show ((3 * z) + 1) = 3 * z + 1 by omega))))), px_ne (X := b1) (Y := k) ((rdI ((Eq.trans (pk_addE (n := (3 * z)) (k := 1) (pk_mulE (n := 3) (k := z) (rfl) (rfl)) (rfl)) (congrArg nI (show ((3 * z) + 1) = 3 * z + 1 by omega)))) (by omega) (Eq.trans (rowup_in (by decide)) ((hK.2 1 (show 1 < 3 by decide)).1)))) (rfl) (fun c => by first | exact absurd κ2 c | exact absurd c κ2) (fun _ => ?_)⟩
                refine gT_n 2 ?_
                show gT _ 265 56 _ _ _ _ _
                refine gT_n 9 ?_
                refine ⟨rfl, rfl, (pk_inS (m := 4) (k := z) (rfl) (by omega) ((Eq.trans (rfl) (congrArg nI (show z = z by omega))))), fun c => absurd c (kpT (p := fun z : Int32 => ¬ (z ≤ 1)) (k2E (f := fun x y : Int32 => x - y) (rdI ((Eq.trans (rfl) (congrArg nI (show z = z by omega)))) (by omega) (Eq.trans (upd_at) ((show _ = (3 : Int32) from hK.1)))) (rfl : _ = (1 : Int32)) (show ((3 : Int32) - 1) = 2 by decide)) (by decide)), fun _ => ?_⟩
                refine gT_n 18 ?_
                refine ⟨rfl, rfl, rfl, (pk_inS (m := 12) (k := 3 * z + 2) (rfl) (by omega) ((Eq.trans (pk_addE (n := ((3 * z) + 1)) (k := 1) (pk_addE (n := (3 * z)) (k := 1) (pk_mulE (n := 3) (k := z) (rfl) (rfl)) (rfl)) (rfl)) (congrArg nI (show (((3 * z) + 1) + 1) = 3 * z + 2 by omega))))), rfl, (pk_inS (m := 12) (k := 3 * z + 1) (rfl) (by omega) ((Eq.trans (pk_addE (n := (3 * z)) (k := 1) (pk_mulE (n := 3) (k := z) (rfl) (rfl)) (rfl)) (congrArg nI (show ((3 * z) + 1) = 3 * z + 1 by omega))))), ?_⟩
                refine gT_ms3f (k := 1) (X := c1) ((Eq.trans (pk_addE (n := (3 * z)) (k := 1) (pk_mulE (n := 3) (k := z) (rfl) (rfl)) (rfl)) (congrArg nI (show ((3 * z) + 1) = 3 * z + 1 by omega)))) (by omega) (by decide) ((rdI ((Eq.trans (pk_addE (n := ((3 * z) + 1)) (k := 1) (pk_addE (n := (3 * z)) (k := 1) (pk_mulE (n := 3) (k := z) (rfl) (rfl)) (rfl)) (rfl)) (congrArg nI (show (((3 * z) + 1) + 1) = 3 * z + 2 by omega)))) (by omega) (Eq.trans (rowup_in (by decide)) ((hK.2 2 (show 2 < 3 by decide)).1)))) ?_
                refine gT_n 18 ?_
                refine ⟨rfl, rfl, rfl, (pk_inS (m := 12) (k := 3 * z + 2) (rfl) (by omega) ((Eq.trans (pk_addE (n := ((3 * z) + 1)) (k := 1) (pk_addE (n := (3 * z)) (k := 1) (pk_mulE (n := 3) (k := z) (rfl) (rfl)) (rfl)) (rfl)) (congrArg nI (show (((3 * z) + 1) + 1) = 3 * z + 2 by omega))))), rfl, (pk_inS (m := 12) (k := 3 * z + 1) (rfl) (by omega) ((Eq.trans (pk_addE (n := (3 * z)) (k := 1) (pk_mulE (n := 3) (k := z) (rfl) (rfl)) (rfl)) (congrArg nI (show ((3 * z) + 1) = 3 * z + 1 by omega))))), ?_⟩
                refine gT_ms3g (k := 1) (X := c2) ((Eq.trans (pk_addE (n := (3 * z)) (k := 1) (pk_mulE (n := 3) (k := z) (rfl) (rfl)) (rfl)) (congrArg nI (show ((3 * z) + 1) = 3 * z + 1 by omega)))) (by omega) (by decide) ((rdI ((Eq.trans (pk_addE (n := ((3 * z) + 1)) (k := 1) (pk_addE (n := (3 * z)) (k := 1) (pk_mulE (n := 3) (k := z) (rfl) (rfl)) (rfl)) (rfl)) (congrArg nI (show (((3 * z) + 1) + 1) = 3 * z + 2 by omega)))) (by omega) (Eq.trans (rowup_in (by decide)) ((hK.2 2 (show 2 < 3 by decide)).2)))) ?_
                refine gT_n 10 ?_
                refine ⟨rfl, rfl, (pk_inS (m := 4) (k := z) (rfl) (by omega) ((Eq.trans (rfl) (congrArg nI (show z = z by omega))))), fun _ => ?_, fun c => absurd (kpT (p := fun z : Int32 => z ≤ 2) (k2E (f := fun x y : Int32 => x - y) (rdI ((Eq.trans (rfl) (congrArg nI (show z = z by omega)))) (by omega) (Eq.trans (upd_at) ((show _ = (3 : Int32) from hK.1)))) (rfl : _ = (1 : Int32)) (show ((3 : Int32) - 1) = 2 by decide)) (by decide)) c⟩
                refine gT_n 8 ?_
                refine ⟨rfl, rfl, (pk_inS (m := 4) (k := z) (rfl) (by omega) ((Eq.trans (rfl) (congrArg nI (show z = z by omega))))), rfl, (pk_inS (m := 4) (k := z) (rfl) (by omega) ((Eq.trans (rfl) (congrArg nI (show z = z by omega))))), ?_⟩
                refine gT_ms3n (k := 0) (X := 2) ((Eq.trans (rfl) (congrArg nI (show z = z by omega)))) (by omega) (by decide) ((k2E (f := fun x y : Int32 => x - y) (rdI ((Eq.trans (rfl) (congrArg nI (show z = z by omega)))) (by omega) (Eq.trans (upd_at) ((show _ = (3 : Int32) from hK.1)))) (rfl : _ = (1 : Int32)) (show ((3 : Int32) - 1) = 2 by decide))) ?_
                refine gT_n 5 ?_
                refine ⟨rfl, rfl, (pk_inS (m := 4) (k := z) (rfl) (by omega) ((Eq.trans (rfl) (congrArg nI (show z = z by omega))))), ?_⟩
                obtain ⟨rfl, rfl⟩ := (fOut_ok hL hs (Or.inr (Or.inl κ2)) κ5 (show _ = [(a1, a2), (c1, c2)] from (Eq.trans (if_neg κ1) (if_pos κ2)))).mp hS
                exact ⟨_, J, P, rfl, ri ((rdI ((Eq.trans (rfl) (congrArg nI (show z = z by omega)))) (by omega) (Eq.trans (upd_at) (rfl)))), hC, ⟨jTp, jF, jT, jSp, ⟨jW.1, mKs_set jW.2.1 oW.2.1 (mQ2 (rfl) ⟨(hK.2 0 (show 0 < 3 by decide)).1, (hK.2 0 (show 0 < 3 by decide)).2⟩ ⟨rfl, rfl⟩) (show 2 ≤ 3 by decide), jW.2.2.1, jW.2.2.2⟩, jN, jP, jC, jI0, jI1, jB, jL⟩⟩
              · refine gT_n 2 ?_
                obtain ⟨rfl, rfl⟩ := (fOut_no hL (fun z : _ ∧ ¬ _ => z.2 κ5)).mp hS
                exact ⟨_, J, P, rfl, rfl, hC, hM0⟩
          · refine gT_n 2 ?_
            show gT _ 265 32 _ _ _ _ _
            refine gT_n 2 ?_
            refine ⟨fun c => absurd c (by decide), fun _ => ?_⟩
            refine gT_n 6 ?_
            refine ⟨rfl, rfl, (pk_in z 4 (by omega) (rfl)), px_ne (X := (W.2.2.2.1 z)) (Y := k) ((rdI (rfl) (by omega) e2)) (rfl) (fun κ6 => ?_) (fun κ6 => ?_)⟩
            · refine gT_n 4 ?_
              refine ⟨rfl, rfl, ?_⟩
              refine gT_n 8 ?_
              refine ⟨rfl, rfl, (pk_inS (m := 4) (k := z) (rfl) (by omega) ((Eq.trans (rfl) (congrArg nI (show z = z by omega))))), fun c => absurd c (kpT (p := fun z : Int32 => ¬ (z ≤ 0)) (rdI ((Eq.trans (rfl) (congrArg nI (show z = z by omega)))) (by omega) (Eq.trans (upd_at) ((show _ = (3 : Int32) from hK.1)))) (by decide)), fun _ => ?_⟩
              refine gT_n 10 ?_
              refine ⟨rfl, rfl, (pk_inS (m := 12) (k := 3 * z + 0) (rfl) (by omega) ((Eq.trans (pk_addE (n := (3 * z)) (k := 0) (pk_mulE (n := 3) (k := z) (rfl) (rfl)) (rfl)) (congrArg nI (show ((3 * z) + 0) = 3 * z + 0 by omega))))), px_ne (X := a1) (Y := k) ((rdI ((Eq.trans (pk_addE (n := (3 * z)) (k := 0) (pk_mulE (n := 3) (k := z) (rfl) (rfl)) (rfl)) (congrArg nI (show ((3 * z) + 0) = 3 * z + 0 by omega)))) (by omega) (Eq.trans (rowup_in (by decide)) ((hK.2 0 (show 0 < 3 by decide)).1)))) (rfl) (fun c => by first | exact absurd κ1 c | exact absurd c κ1) (fun _ => ?_)⟩
              refine gT_n 2 ?_
              show gT _ 265 56 _ _ _ _ _
              refine gT_n 9 ?_
              refine ⟨rfl, rfl, (pk_inS (m := 4) (k := z) (rfl) (by omega) ((Eq.trans (rfl) (congrArg nI (show z = z by omega))))), fun c => absurd c (kpT (p := fun z : Int32 => ¬ (z ≤ 0)) (k2E (f := fun x y : Int32 => x - y) (rdI ((Eq.trans (rfl) (congrArg nI (show z = z by omega)))) (by omega) (Eq.trans (upd_at) ((show _ = (3 : Int32) from hK.1)))) (rfl : _ = (1 : Int32)) (show ((3 : Int32) - 1) = 2 by decide)) (by decide)), fun _ => ?_⟩
              refine gT_n 18 ?_
              refine ⟨rfl, rfl, rfl, (pk_inS (m := 12) (k := 3 * z + 1) (rfl) (by omega) ((Eq.trans (pk_addE (n := ((3 * z) + 0)) (k := 1) (pk_addE (n := (3 * z)) (k := 0) (pk_mulE (n := 3) (k := z) (rfl) (rfl)) (rfl)) (rfl)) (congrArg nI (show (((3 * z) + 0) + 1) = 3 * z + 1 by omega))))), rfl, (pk_inS (m := 12) (k := 3 * z + 0) (rfl) (by omega) ((Eq.trans (pk_addE (n := (3 * z)) (k := 0) (pk_mulE (n := 3) (k := z) (rfl) (rfl)) (rfl)) (congrArg nI (show ((3 * z) + 0) = 3 * z + 0 by omega))))), ?_⟩
              refine gT_ms3f (k := 0) (X := b1) ((Eq.trans (pk_addE (n := (3 * z)) (k := 0) (pk_mulE (n := 3) (k := z) (rfl) (rfl)) (rfl)) (congrArg nI (show ((3 * z) + 0) = 3 * z + 0 by omega)))) (by omega) (by decide) ((rdI ((Eq.trans (pk_addE (n := ((3 * z) + 0)) (k := 1) (pk_addE (n := (3 * z)) (k := 0) (pk_mulE (n := 3) (k := z) (rfl) (rfl)) (rfl)) (rfl)) (congrArg nI (show (((3 * z) + 0) + 1) = 3 * z + 1 by omega)))) (by omega) (Eq.trans (rowup_in (by decide)) ((hK.2 1 (show 1 < 3 by decide)).1)))) ?_
              refine gT_n 18 ?_
              refine ⟨rfl, rfl, rfl, (pk_inS (m := 12) (k := 3 * z + 1) (rfl) (by omega) ((Eq.trans (pk_addE (n := ((3 * z) + 0)) (k := 1) (pk_addE (n := (3 * z)) (k := 0) (pk_mulE (n := 3) (k := z) (rfl) (rfl)) (rfl)) (rfl)) (congrArg nI (show (((3 * z) + 0) + 1) = 3 * z + 1 by omega))))), rfl, (pk_inS (m := 12) (k := 3 * z + 0) (rfl) (by omega) ((Eq.trans (pk_addE (n := (3 * z)) (k := 0) (pk_mulE (n := 3) (k := z) (rfl) (rfl)) (rfl)) (congrArg nI (show ((3 * z) + 0) = 3 * z + 0 by omega))))), ?_⟩
              refine gT_ms3g (k := 0) (X := b2) ((Eq.trans (pk_addE (n := (3 * z)) (k := 0) (pk_mulE (n := 3) (k := z) (rfl) (rfl)) (rfl)) (congrArg nI (show ((3 * z) + 0) = 3 * z + 0 by omega)))) (by omega) (by decide) ((rdI ((Eq.trans (pk_addE (n := ((3 * z) + 0)) (k := 1) (pk_addE (n := (3 * z)) (k := 0) (pk_mulE (n := 3) (k := z) (rfl) (rfl)) (rfl)) (rfl)) (congrArg nI (show (((3 * z) + 0) + 1) = 3 * z + 1 by omega)))) (by omega) (Eq.trans (rowup_in (by decide)) ((hK.2 1 (show 1 < 3 by decide)).2)))) ?_
              refine gT_n 10 ?_
              refine ⟨rfl, rfl, (pk_inS (m := 4) (k := z) (rfl) (by omega) ((Eq.trans (rfl) (congrArg nI (show z = z by omega))))), fun c => absurd c (kpT (p := fun z : Int32 => ¬ (z ≤ 1)) (k2E (f := fun x y : Int32 => x - y) (rdI ((Eq.trans (rfl) (congrArg nI (show z = z by omega)))) (by omega) (Eq.trans (upd_at) ((show _ = (3 : Int32) from hK.1)))) (rfl : _ = (1 : Int32)) (show ((3 : Int32) - 1) = 2 by decide)) (by decide)), fun _ => ?_⟩
              refine gT_n 18 ?_
              refine ⟨rfl, rfl, rfl, (pk_inS (m := 12) (k := 3 * z + 2) (rfl) (by omega) ((Eq.trans (pk_addE (n := ((3 * z) + 1)) (k := 1) (pk_addE (n := (3 * z)) (k := 1) (pk_mulE (n := 3) (k := z) (rfl) (rfl)) (rfl)) (rfl)) (congrArg nI (show (((3 * z) + 1) + 1) = 3 * z + 2 by omega))))), rfl, (pk_inS (m := 12) (k := 3 * z + 1) (rfl) (by omega) ((Eq.trans (pk_addE (n := (3 * z)) (k := 1) (pk_mulE (n := 3) (k := z) (rfl) (rfl)) (rfl)) (congrArg nI (show ((3 * z) + 1) = 3 * z + 1 by omega))))), ?_⟩
              refine gT_ms3f (k := 1) (X := c1) ((Eq.trans (pk_addE (n := (3 * z)) (k := 1) (pk_mulE (n := 3) (k := z) (rfl) (rfl)) (rfl)) (congrArg nI (show ((3 * z) + 1) = 3 * z + 1 by omega)))) (by omega) (by decide) ((rdI ((Eq.trans (pk_addE (n := ((3 * z) + 1)) (k := 1) (pk_addE (n := (3 * z)) (k := 1) (pk_mulE (n := 3) (k := z) (rfl) (rfl)) (rfl)) (rfl)) (congrArg nI (show (((3 * z) + 1) + 1) = 3 * z + 2 by omega)))) (by omega) (Eq.trans (rowup_in (by decide)) ((hK.2 2 (show 2 < 3 by decide)).1)))) ?_
              refine gT_n 18 ?_
              refine ⟨rfl, rfl, rfl, (pk_inS (m := 12) (k := 3 * z + 2) (rfl) (by omega) ((Eq.trans (pk_addE (n := ((3 * z) + 1)) (k := 1) (pk_addE (n := (3 * z)) (k := 1) (pk_mulE (n := 3) (k := z) (rfl) (rfl)) (rfl)) (rfl)) (congrArg nI (show (((3 * z) + 1) + 1) = 3 * z + 2 by omega))))), rfl, (pk_inS (m := 12) (k := 3 * z + 1) (rfl) (by omega) ((Eq.trans (pk_addE (n := (3 * z)) (k := 1) (pk_mulE (n := 3) (k := z) (rfl) (rfl)) (rfl)) (congrArg nI (show ((3 * z) + 1) = 3 * z + 1 by omega))))), ?_⟩
              refine gT_ms3g (k := 1) (X := c2) ((Eq.trans (pk_addE (n := (3 * z)) (k := 1) (pk_mulE (n := 3) (k := z) (rfl) (rfl)) (rfl)) (congrArg nI (show ((3 * z) + 1) = 3 * z + 1 by omega)))) (by omega) (by decide) ((rdI ((Eq.trans (pk_addE (n := ((3 * z) + 1)) (k := 1) (pk_addE (n := (3 * z)) (k := 1) (pk_mulE (n := 3) (k := z) (rfl) (rfl)) (rfl)) (rfl)) (congrArg nI (show (((3 * z) + 1) + 1) = 3 * z + 2 by omega)))) (by omega) (Eq.trans (rowup_in (by decide)) ((hK.2 2 (show 2 < 3 by decide)).2)))) ?_
              refine gT_n 10 ?_
              refine ⟨rfl, rfl, (pk_inS (m := 4) (k := z) (rfl) (by omega) ((Eq.trans (rfl) (congrArg nI (show z = z by omega))))), fun _ => ?_, fun c => absurd (kpT (p := fun z : Int32 => z ≤ 2) (k2E (f := fun x y : Int32 => x - y) (rdI ((Eq.trans (rfl) (congrArg nI (show z = z by omega)))) (by omega) (Eq.trans (upd_at) ((show _ = (3 : Int32) from hK.1)))) (rfl : _ = (1 : Int32)) (show ((3 : Int32) - 1) = 2 by decide)) (by decide)) c⟩
              refine gT_n 8 ?_
              refine ⟨rfl, rfl, (pk_inS (m := 4) (k := z) (rfl) (by omega) ((Eq.trans (rfl) (congrArg nI (show z = z by omega))))), rfl, (pk_inS (m := 4) (k := z) (rfl) (by omega) ((Eq.trans (rfl) (congrArg nI (show z = z by omega))))), ?_⟩
              refine gT_ms3n (k := 0) (X := 2) ((Eq.trans (rfl) (congrArg nI (show z = z by omega)))) (by omega) (by decide) ((k2E (f := fun x y : Int32 => x - y) (rdI ((Eq.trans (rfl) (congrArg nI (show z = z by omega)))) (by omega) (Eq.trans (upd_at) ((show _ = (3 : Int32) from hK.1)))) (rfl : _ = (1 : Int32)) (show ((3 : Int32) - 1) = 2 by decide))) ?_
              refine gT_n 5 ?_
              refine ⟨rfl, rfl, (pk_inS (m := 4) (k := z) (rfl) (by omega) ((Eq.trans (rfl) (congrArg nI (show z = z by omega))))), ?_⟩
              obtain ⟨rfl, rfl⟩ := (fOut_ok hL hs (Or.inl κ1) κ6 (show _ = [(b1, b2), (c1, c2)] from (if_pos κ1))).mp hS
              exact ⟨_, J, P, rfl, ri ((rdI ((Eq.trans (rfl) (congrArg nI (show z = z by omega)))) (by omega) (Eq.trans (upd_at) (rfl)))), hC, ⟨jTp, jF, jT, jSp, ⟨jW.1, mKs_set jW.2.1 oW.2.1 (mQ2 (rfl) ⟨rfl, rfl⟩ ⟨rfl, rfl⟩) (show 2 ≤ 3 by decide), jW.2.2.1, jW.2.2.2⟩, jN, jP, jC, jI0, jI1, jB, jL⟩⟩
            · refine gT_n 2 ?_
              obtain ⟨rfl, rfl⟩ := (fOut_no hL (fun z : _ ∧ ¬ _ => z.2 κ6)).mp hS
              exact ⟨_, J, P, rfl, rfl, hC, hM0⟩
      · rw [hs] at e1
        refine gT_n 3 ?_
        refine ⟨rfl, rfl, gTM.use (m_isZone1 oT jT ⟨z, hz, rfl⟩) (Nat.le_refl _) (fun r u hq => ?_)⟩
        obtain ⟨rfl, rfl⟩ := hq  -- X12_isZone[R171, nI z]
        refine gT_n 1 ?_
        refine ⟨fun c => absurd c (by decide), fun _ => ?_⟩
        refine gT_n 2 ?_
        refine ⟨rfl, gTM.use (m_isKey1 hk) (Nat.le_refl _) (fun r u hq => ?_)⟩
        obtain ⟨rfl, rfl⟩ := hq  -- X12_isKey[k]
        refine gT_n 1 ?_
        refine ⟨fun _ => ?_, fun c => absurd c (by decide)⟩
        refine gT_n 5 ?_
        refine ⟨rfl, (Or.inr rfl), (pk_in z 4 (by omega) (rfl)), fun _ => ?_, fun c => absurd (kpT (p := fun z : Int32 => z = 0) (show _ = (0 : Int32) from (rdI (rfl) (by omega) e1)) (by decide)) c⟩
        refine gT_n 2 ?_
        obtain ⟨rfl, rfl⟩ := (fOut_pl hs).mp hS
        exact ⟨_, J, P, rfl, rfl, hC, hM0⟩
    rw [ms3_self] at key
    exact key
  · obtain ⟨rfl, rfl⟩ := (zk_no hh).mp hS
    by_cases hz : inZ t.1 z
    · have hk : ¬ (1 ≤ k ∧ k ≤ 999) := fun q => hh ⟨hz, q⟩
      refine gT_n 3 ?_
      refine ⟨rfl, rfl, gTM.use (m_isZone1 oT jT hz) (Nat.le_refl _) (fun r u hq => ?_)⟩
      obtain ⟨rfl, rfl⟩ := hq  -- X12_isZone[R171, z]
      refine gT_n 1 ?_
      refine ⟨fun c => absurd c (by decide), fun _ => ?_⟩
      refine gT_n 2 ?_
      refine ⟨rfl, gTM.use (m_isKey0 hk) (Nat.le_refl _) (fun r u hq => ?_)⟩
      obtain ⟨rfl, rfl⟩ := hq  -- X12_isKey[k]
      refine gT_n 1 ?_
      refine ⟨fun c => absurd (by decide) c, fun _ => ?_⟩
      refine gT_n 2 ?_
      exact ⟨I, J, P, rfl, rfl, hC, hM0⟩
    · refine gT_n 3 ?_
      refine ⟨rfl, rfl, gTM.use (m_isZone0 oT jT hz) (Nat.le_refl _) (fun r u hq => ?_)⟩
      obtain ⟨rfl, rfl⟩ := hq  -- X12_isZone[R171, z]
      refine gT_n 1 ?_
      refine ⟨fun _ => ?_, fun c => absurd (by decide) c⟩
      refine gT_n 2 ?_
      exact ⟨I, J, P, rfl, rfl, hC, hM0⟩
theorem o_undigest_c {d : Nat} {s : zS} {I : Nat → Nat → Int32} {J : Nat → Nat → Int64} {P : Nat → Nat} {z k : Int32} (hO : sOK s) (hC : RC s I J P) (hM : RM s I J) : gTM (d + 9) 144 [.ref 0, .int z, .int k] (gST I J P) (pC s (zk s z k fun n => fOut (s.2.2.1.2.2.1 n) (¬ (n = 0 ∧ (s.2.2.2.1.2.2.1 n).length = 1)) (s.2.2.2.1.2.2.1 n) k (setD s n) s)) := by
  obtain ⟨tp, fn, t, W, nm, pr, ch, i0, i1⟩ := s
  have hO0 := hO
  have hC0 := hC
  have hM0 := hM
  obtain ⟨oTp, oT, oW, oN, oP, oI0, oI1⟩ := hO
  obtain ⟨kTp, kF, kT, kW, kN, kP, kC, kI0, kI1, kB, kPP⟩ := hC
  obtain ⟨jTp, jF, jT, jSp, jW, jN, jP, jC, jI0, jI1, jB, jL⟩ := hM
  dsimp only at oTp oT oW oN oP oI0 oI1 kTp kF kT kW kN kP kC kI0 kI1 jTp jF jT jSp jW jN jP jC jI0 jI1
  try dsimp only
  have h4 := oT.2.1
  by_cases hh : inZ t.1 z ∧ (1 ≤ k ∧ k ≤ 999)
  · obtain ⟨⟨z, hz, rfl⟩, hk⟩ := hh
    have hz4 : z < 4 := by omega
    obtain ⟨hb, hr⟩ := kRow_dig (P := P) hz4
    have hK := cK_dig kW hz4
    have hl := oW.2.2.1 z hz4
    have hl3 : (W.2.2.1 z).length ≤ 3 := by omega
    have e1 := kT.1.2.2.2.1 z hz
    rcases Bool.eq_false_or_eq_true (t.2.2.1 z) with hs | hs
    · rw [hs] at e1
      refine gT_n 4 ?_
      refine ⟨rfl, rfl, rfl, gTM.use (c_has1 oT kT.1 ⟨z, hz, rfl⟩) (Nat.le_refl _) (fun r u hq => ?_)⟩
      obtain ⟨rfl, rfl⟩ := hq  -- X8_has[R12, nI z]
      refine gT_n 1 ?_
      refine ⟨fun c => absurd c (by decide), fun _ => ?_⟩
      refine gT_n 2 ?_
      refine ⟨rfl, gTM.use (c_isKey1 hk) (Nat.le_refl _) (fun r u hq => ?_)⟩
      obtain ⟨rfl, rfl⟩ := hq  -- X11_isKey[k]
      refine gT_n 1 ?_
      refine ⟨fun _ => ?_, fun c => absurd c (by decide)⟩
      refine gT_n 5 ?_
      refine ⟨rfl, rfl, rfl, (pk_in z 4 (by omega) (rfl)), ?_⟩
      refine gT_top (aa_ref (rfl) (by omega) hr) ?_
      refine gT_n 3 ?_
      refine pk_ne z 0 (fun κ1 => ?_) (fun κ1 => ?_) (rfl) (rfl) (by omega) (by omega)
      · refine gT_n 8 ?_
        refine ⟨rfl, rfl, (Or.inr rfl), (pk_in z 4 (by omega) (rfl)), fun c => absurd c (kpT (p := fun z : Int32 => ¬ (z = 0)) (show _ = (1 : Int32) from (rdI (rfl) (by omega) e1)) (by decide)), fun _ => ?_⟩
        refine gT_n 3 ?_
        refine ⟨hb.ob, rfl, gTM.use (c_khas hb hl3 hK) (Nat.le_refl _) (fun r u hq => ?_)⟩
        obtain ⟨rfl, ⟨rfl, β2⟩ | ⟨rfl, β2⟩⟩ := hq  -- X2_has[Rb, k]
        · refine gT_n 1 ?_
          refine ⟨fun c => absurd c (by decide), fun _ => ?_⟩
          refine gT_n 2 ?_
          refine ⟨fun _ => ?_, fun c => absurd (by decide) c⟩
          refine gT_n 3 ?_
          refine ⟨hb.ob, rfl, gTM.use (c_kdel hb hl3 hK (by assumption)) (Nat.le_refl _) (fun r u hq => ?_)⟩
          obtain ⟨rfl, n1, f1, g1, rfl, hK1⟩ := hq  -- X2_takeOut[Rb, k]
          refine gT_n 3 ?_
          refine ⟨hb.ob, ?_⟩
          exact ⟨_, _, _, _, P, rfl, ri (Eq.trans ks_0 hK1.1), ⟨(zk_yes hz h4 hk).mpr ((fOut_ok rfl hs β2 (by first | exact fun z => κ1 z.1 | exact fun z => κ1 z.2) rfl).mpr ⟨rfl, rfl⟩), setD_ok hO0 (kdel_len (m := 2) (by omega) (by omega))⟩, RC_dig hz4 hC0 hK1, RM_dig hz4 hM0⟩
        · refine gT_n 1 ?_
          refine ⟨fun _ => ?_, fun c => absurd (by decide) c⟩
          refine gT_n 2 ?_
          exact ⟨_, _, I, J, P, rfl, rfl, ⟨(zk_yes hz h4 hk).mpr ((fOut_no rfl (fun z => β2 z.1)).mpr ⟨rfl, rfl⟩), hO0⟩, hC0, hM0⟩
      · refine gT_n 4 ?_
        refine ⟨hb.ob, pk_ne ((W.2.2.1 z).length) 1 (fun κ3 => ?_) (fun κ3 => ?_) (hK.1) (rfl) (by omega) (by omega)⟩
        · refine gT_n 8 ?_
          refine ⟨rfl, rfl, (Or.inr rfl), (pk_in z 4 (by omega) (rfl)), fun c => absurd c (kpT (p := fun z : Int32 => ¬ (z = 0)) (show _ = (1 : Int32) from (rdI (rfl) (by omega) e1)) (by decide)), fun _ => ?_⟩
          refine gT_n 3 ?_
          refine ⟨hb.ob, rfl, gTM.use (c_khas hb hl3 hK) (Nat.le_refl _) (fun r u hq => ?_)⟩
          obtain ⟨rfl, ⟨rfl, β4⟩ | ⟨rfl, β4⟩⟩ := hq  -- X2_has[Rb, k]
          · refine gT_n 1 ?_
            refine ⟨fun c => absurd c (by decide), fun _ => ?_⟩
            refine gT_n 2 ?_
            refine ⟨fun _ => ?_, fun c => absurd (by decide) c⟩
            refine gT_n 3 ?_
            refine ⟨hb.ob, rfl, gTM.use (c_kdel hb hl3 hK (by assumption)) (Nat.le_refl _) (fun r u hq => ?_)⟩
            obtain ⟨rfl, n1, f1, g1, rfl, hK1⟩ := hq  -- X2_takeOut[Rb, k]
            refine gT_n 3 ?_
            refine ⟨hb.ob, ?_⟩
            exact ⟨_, _, _, _, P, rfl, ri (Eq.trans ks_0 hK1.1), ⟨(zk_yes hz h4 hk).mpr ((fOut_ok rfl hs β4 (by first | exact fun z => κ1 z.1 | exact fun z => κ3 z.2) rfl).mpr ⟨rfl, rfl⟩), setD_ok hO0 (kdel_len (m := 2) (by omega) (by omega))⟩, RC_dig hz4 hC0 hK1, RM_dig hz4 hM0⟩
          · refine gT_n 1 ?_
            refine ⟨fun _ => ?_, fun c => absurd (by decide) c⟩
            refine gT_n 2 ?_
            exact ⟨_, _, I, J, P, rfl, rfl, ⟨(zk_yes hz h4 hk).mpr ((fOut_no rfl (fun z => β4 z.1)).mpr ⟨rfl, rfl⟩), hO0⟩, hC0, hM0⟩
        · refine gT_n 9 ?_
          refine ⟨rfl, rfl, (Or.inr rfl), (pk_in z 4 (by omega) (rfl)), fun c => absurd c (kpT (p := fun z : Int32 => ¬ (z = 0)) (show _ = (1 : Int32) from (rdI (rfl) (by omega) e1)) (by decide)), fun _ => ?_⟩
          refine gT_n 3 ?_
          refine ⟨hb.ob, rfl, gTM.use (c_khas hb hl3 hK) (Nat.le_refl _) (fun r u hq => ?_)⟩
          obtain ⟨rfl, ⟨rfl, β5⟩ | ⟨rfl, β5⟩⟩ := hq  -- X2_has[Rb, k]
          · refine gT_n 1 ?_
            refine ⟨fun c => absurd c (by decide), fun _ => ?_⟩
            refine gT_n 2 ?_
            refine ⟨fun c => absurd c (by decide), fun _ => ?_⟩
            refine gT_n 2 ?_
            exact ⟨_, _, I, J, P, rfl, rfl, ⟨(zk_yes hz h4 hk).mpr ((fOut_no rfl (fun z : _ ∧ ¬ _ => z.2 ⟨κ1, κ3⟩)).mpr ⟨rfl, rfl⟩), hO0⟩, hC0, hM0⟩
          · refine gT_n 1 ?_
            refine ⟨fun _ => ?_, fun c => absurd (by decide) c⟩
            refine gT_n 2 ?_
            exact ⟨_, _, I, J, P, rfl, rfl, ⟨(zk_yes hz h4 hk).mpr ((fOut_no rfl (fun z => β5 z.1)).mpr ⟨rfl, rfl⟩), hO0⟩, hC0, hM0⟩
    · rw [hs] at e1
      refine gT_n 4 ?_
      refine ⟨rfl, rfl, rfl, gTM.use (c_has1 oT kT.1 ⟨z, hz, rfl⟩) (Nat.le_refl _) (fun r u hq => ?_)⟩
      obtain ⟨rfl, rfl⟩ := hq  -- X8_has[R12, nI z]
      refine gT_n 1 ?_
      refine ⟨fun c => absurd c (by decide), fun _ => ?_⟩
      refine gT_n 2 ?_
      refine ⟨rfl, gTM.use (c_isKey1 hk) (Nat.le_refl _) (fun r u hq => ?_)⟩
      obtain ⟨rfl, rfl⟩ := hq  -- X11_isKey[k]
      refine gT_n 1 ?_
      refine ⟨fun _ => ?_, fun c => absurd c (by decide)⟩
      refine gT_n 5 ?_
      refine ⟨rfl, rfl, rfl, (pk_in z 4 (by omega) (rfl)), ?_⟩
      refine gT_top (aa_ref (rfl) (by omega) hr) ?_
      refine gT_n 3 ?_
      refine pk_ne z 0 (fun κ1 => ?_) (fun κ1 => ?_) (rfl) (rfl) (by omega) (by omega)
      · refine gT_n 8 ?_
        refine ⟨rfl, rfl, (Or.inr rfl), (pk_in z 4 (by omega) (rfl)), fun _ => ?_, fun c => absurd (kpT (p := fun z : Int32 => z = 0) (show _ = (0 : Int32) from (rdI (rfl) (by omega) e1)) (by decide)) c⟩
        refine gT_n 2 ?_
        exact ⟨_, _, I, J, P, rfl, rfl, ⟨(zk_yes hz h4 hk).mpr ((fOut_pl hs).mpr ⟨rfl, rfl⟩), hO0⟩, hC0, hM0⟩
      · refine gT_n 4 ?_
        refine ⟨hb.ob, pk_ne ((W.2.2.1 z).length) 1 (fun κ2 => ?_) (fun κ2 => ?_) (hK.1) (rfl) (by omega) (by omega)⟩
        · refine gT_n 8 ?_
          refine ⟨rfl, rfl, (Or.inr rfl), (pk_in z 4 (by omega) (rfl)), fun _ => ?_, fun c => absurd (kpT (p := fun z : Int32 => z = 0) (show _ = (0 : Int32) from (rdI (rfl) (by omega) e1)) (by decide)) c⟩
          refine gT_n 2 ?_
          exact ⟨_, _, I, J, P, rfl, rfl, ⟨(zk_yes hz h4 hk).mpr ((fOut_pl hs).mpr ⟨rfl, rfl⟩), hO0⟩, hC0, hM0⟩
        · refine gT_n 9 ?_
          refine ⟨rfl, rfl, (Or.inr rfl), (pk_in z 4 (by omega) (rfl)), fun _ => ?_, fun c => absurd (kpT (p := fun z : Int32 => z = 0) (show _ = (0 : Int32) from (rdI (rfl) (by omega) e1)) (by decide)) c⟩
          refine gT_n 2 ?_
          exact ⟨_, _, I, J, P, rfl, rfl, ⟨(zk_yes hz h4 hk).mpr ((fOut_pl hs).mpr ⟨rfl, rfl⟩), hO0⟩, hC0, hM0⟩
  · by_cases hz : inZ t.1 z
    · have hk : ¬ (1 ≤ k ∧ k ≤ 999) := fun q => hh ⟨hz, q⟩
      refine gT_n 4 ?_
      refine ⟨rfl, rfl, rfl, gTM.use (c_has1 oT kT.1 hz) (Nat.le_refl _) (fun r u hq => ?_)⟩
      obtain ⟨rfl, rfl⟩ := hq  -- X8_has[R12, z]
      refine gT_n 1 ?_
      refine ⟨fun c => absurd c (by decide), fun _ => ?_⟩
      refine gT_n 2 ?_
      refine ⟨rfl, gTM.use (c_isKey0 hk) (Nat.le_refl _) (fun r u hq => ?_)⟩
      obtain ⟨rfl, rfl⟩ := hq  -- X11_isKey[k]
      refine gT_n 1 ?_
      refine ⟨fun c => absurd (by decide) c, fun _ => ?_⟩
      refine gT_n 2 ?_
      exact ⟨_, _, I, J, P, rfl, rfl, ⟨(zk_no hh).mpr ⟨rfl, rfl⟩, hO0⟩, hC0, hM0⟩
    · refine gT_n 4 ?_
      refine ⟨rfl, rfl, rfl, gTM.use (c_has0 oT kT.1 hz) (Nat.le_refl _) (fun r u hq => ?_)⟩
      obtain ⟨rfl, rfl⟩ := hq  -- X8_has[R12, z]
      refine gT_n 1 ?_
      refine ⟨fun _ => ?_, fun c => absurd (by decide) c⟩
      refine gT_n 2 ?_
      exact ⟨_, _, I, J, P, rfl, rfl, ⟨(zk_no hh).mpr ⟨rfl, rfl⟩, hO0⟩, hC0, hM0⟩
theorem o_undigest_m {d : Nat} {s s' : zS} {x : Int32} {I : Nat → Nat → Int32} {J : Nat → Nat → Int64} {P : Nat → Nat} {z k : Int32} (hO : sOK s) (hS : (zk s z k fun n => fOut (s.2.2.1.2.2.1 n) (¬ (n = 0 ∧ (s.2.2.2.1.2.2.1 n).length = 1)) (s.2.2.2.1.2.2.1 n) k (setD s n) s) x s') (hC : RC s' I J P) (hM : RM s I J) : gTM (d + 9) 267 [.ref 171, .int z, .int k] (gST I J P) (pM x s') := by
  obtain ⟨tp, fn, t, W, nm, pr, ch, i0, i1⟩ := s
  have hO0 := hO
  have hM0 := hM
  obtain ⟨oTp, oT, oW, oN, oP, oI0, oI1⟩ := hO
  obtain ⟨jTp, jF, jT, jSp, jW, jN, jP, jC, jI0, jI1, jB, jL⟩ := hM
  dsimp only at oTp oT oW oN oP oI0 oI1 jTp jF jT jSp jW jN jP jC jI0 jI1
  try dsimp only at hS
  have h4 := oT.2.1
  by_cases hh : inZ t.1 z ∧ (1 ≤ k ∧ k ≤ 999)
  · obtain ⟨⟨z, hz, rfl⟩, hk⟩ := hh
    have hz4 : z < 4 := by omega
    replace hS := (zk_yes hz h4 hk).mp hS
    try dsimp only at hS
    have hl := oW.2.2.1 z hz4
    have e1 := jT.2.2.1 z hz
    have e2 := jW.2.2.2.1 z hz
    have key : gTM (d + 9) 267 [.ref 171, .int (nI z), .int k] (gST (mset2 I z (I 183 z) (fun i => I 181 (2 * z + i)) (fun i => I 182 (2 * z + i))) J P) (pM x s') := by
      have hK : mQ (I 183 z) (fun i => I 181 (2 * z + i)) (fun i => I 182 (2 * z + i)) (W.2.2.1 z) := jW.2.2.1 z hz4
      rw [← ms2_self (I := I) (z := z)] at hC hM0
      generalize I 183 z = n at hK hC hM0 ⊢
      generalize (fun i => I 181 (2 * z + i)) = f at hK hC hM0 ⊢
      generalize (fun i => I 182 (2 * z + i)) = g at hK hC hM0 ⊢
      rcases Bool.eq_false_or_eq_true (t.2.2.1 z) with hs | hs
      · rw [hs] at e1
        rw [if_pos hs] at e2
        rcases zK2 hl with hL | ⟨a1, a2, hL⟩ | ⟨a1, a2, b1, b2, hL⟩
        · rw [hL] at hK
          refine gT_n 3 ?_
          refine ⟨rfl, rfl, gTM.use (m_isZone1 oT jT ⟨z, hz, rfl⟩) (Nat.le_refl _) (fun r u hq => ?_)⟩
          obtain ⟨rfl, rfl⟩ := hq  -- X12_isZone[R171, nI z]
          refine gT_n 1 ?_
          refine ⟨fun c => absurd c (by decide), fun _ => ?_⟩
          refine gT_n 2 ?_
          refine ⟨rfl, gTM.use (m_isKey1 hk) (Nat.le_refl _) (fun r u hq => ?_)⟩
          obtain ⟨rfl, rfl⟩ := hq  -- X12_isKey[k]
          refine gT_n 1 ?_
          refine ⟨fun _ => ?_, fun c => absurd c (by decide)⟩
          refine gT_n 5 ?_
          refine ⟨rfl, (Or.inr rfl), (pk_in z 4 (by omega) (rfl)), fun c => absurd c (kpT (p := fun z : Int32 => ¬ (z = 0)) (show _ = (1 : Int32) from (rdI (rfl) (by omega) e1)) (by decide)), fun _ => ?_⟩
          refine gT_n 4 ?_
          refine ⟨rfl, rfl, ?_⟩
          refine gT_n 8 ?_
          refine ⟨rfl, rfl, (pk_inS (m := 4) (k := z) (rfl) (by omega) ((Eq.trans (rfl) (congrArg nI (show z = z by omega))))), fun _ => ?_, fun c => absurd (kpT (p := fun z : Int32 => z ≤ 0) (rdI ((Eq.trans (rfl) (congrArg nI (show z = z by omega)))) (by omega) (Eq.trans (upd_at) ((show _ = (0 : Int32) from hK.1)))) (by decide)) c⟩
          refine gT_n 2 ?_
          show gT _ 267 32 _ _ _ _ _
          refine gT_n 2 ?_
          refine ⟨fun _ => ?_, fun c => absurd (by decide) c⟩
          refine gT_n 2 ?_
          obtain ⟨rfl, rfl⟩ := (fOut_no hL (fun z => id z.1)).mp hS
          exact ⟨_, J, P, rfl, rfl, hC, hM0⟩
        · rw [hL] at hK
          refine gT_n 3 ?_
          refine ⟨rfl, rfl, gTM.use (m_isZone1 oT jT ⟨z, hz, rfl⟩) (Nat.le_refl _) (fun r u hq => ?_)⟩
          obtain ⟨rfl, rfl⟩ := hq  -- X12_isZone[R171, nI z]
          refine gT_n 1 ?_
          refine ⟨fun c => absurd c (by decide), fun _ => ?_⟩
          refine gT_n 2 ?_
          refine ⟨rfl, gTM.use (m_isKey1 hk) (Nat.le_refl _) (fun r u hq => ?_)⟩
          obtain ⟨rfl, rfl⟩ := hq  -- X12_isKey[k]
          refine gT_n 1 ?_
          refine ⟨fun _ => ?_, fun c => absurd c (by decide)⟩
          refine gT_n 5 ?_
          refine ⟨rfl, (Or.inr rfl), (pk_in z 4 (by omega) (rfl)), fun c => absurd c (kpT (p := fun z : Int32 => ¬ (z = 0)) (show _ = (1 : Int32) from (rdI (rfl) (by omega) e1)) (by decide)), fun _ => ?_⟩
          refine gT_n 4 ?_
          refine ⟨rfl, rfl, ?_⟩
          refine gT_n 8 ?_
          refine ⟨rfl, rfl, (pk_inS (m := 4) (k := z) (rfl) (by omega) ((Eq.trans (rfl) (congrArg nI (show z = z by omega))))), fun c => absurd c (kpT (p := fun z : Int32 => ¬ (z ≤ 0)) (rdI ((Eq.trans (rfl) (congrArg nI (show z = z by omega)))) (by omega) (Eq.trans (upd_at) ((show _ = (1 : Int32) from hK.1)))) (by decide)), fun _ => ?_⟩
          refine gT_n 10 ?_
          refine ⟨rfl, rfl, (pk_inS (m := 8) (k := 2 * z + 0) (rfl) (by omega) ((Eq.trans (pk_addE (n := (2 * z)) (k := 0) (pk_mulE (n := 2) (k := z) (rfl) (rfl)) (rfl)) (congrArg nI (show ((2 * z) + 0) = 2 * z + 0 by omega))))), px_ne (X := a1) (Y := k) ((rdI ((Eq.trans (pk_addE (n := (2 * z)) (k := 0) (pk_mulE (n := 2) (k := z) (rfl) (rfl)) (rfl)) (congrArg nI (show ((2 * z) + 0) = 2 * z + 0 by omega)))) (by omega) (Eq.trans (rowup_in (by decide)) ((hK.2 0 (show 0 < 1 by decide)).1)))) (rfl) (fun κ1 => ?_) (fun κ1 => ?_)⟩
          · refine gT_n 8 ?_
            refine ⟨rfl, rfl, (pk_inS (m := 4) (k := z) (rfl) (by omega) ((Eq.trans (rfl) (congrArg nI (show z = z by omega))))), fun _ => ?_, fun c => absurd (kpT (p := fun z : Int32 => z ≤ 1) (rdI ((Eq.trans (rfl) (congrArg nI (show z = z by omega)))) (by omega) (Eq.trans (upd_at) ((show _ = (1 : Int32) from hK.1)))) (by decide)) c⟩
            refine gT_n 2 ?_
            show gT _ 267 32 _ _ _ _ _
            refine gT_n 2 ?_
            refine ⟨fun _ => ?_, fun c => absurd (by decide) c⟩
            refine gT_n 2 ?_
            obtain ⟨rfl, rfl⟩ := (fOut_no hL (fun z => κ1 z.1)).mp hS
            exact ⟨_, J, P, rfl, rfl, hC, hM0⟩
          · refine gT_n 2 ?_
            show gT _ 267 32 _ _ _ _ _
            refine gT_n 2 ?_
            refine ⟨fun c => absurd c (by decide), fun _ => ?_⟩
            refine gT_n 2 ?_
            refine pk_ne z 0 (fun κ2 => ?_) (fun κ2 => ?_) (rfl) (rfl) (by omega) (by omega)
            · refine gT_n 4 ?_
              refine ⟨rfl, rfl, ?_⟩
              refine gT_n 8 ?_
              refine ⟨rfl, rfl, (pk_inS (m := 4) (k := z) (rfl) (by omega) ((Eq.trans (rfl) (congrArg nI (show z = z by omega))))), fun c => absurd c (kpT (p := fun z : Int32 => ¬ (z ≤ 0)) (rdI ((Eq.trans (rfl) (congrArg nI (show z = z by omega)))) (by omega) (Eq.trans (upd_at) ((show _ = (1 : Int32) from hK.1)))) (by decide)), fun _ => ?_⟩
              refine gT_n 10 ?_
              refine ⟨rfl, rfl, (pk_inS (m := 8) (k := 2 * z + 0) (rfl) (by omega) ((Eq.trans (pk_addE (n := (2 * z)) (k := 0) (pk_mulE (n := 2) (k := z) (rfl) (rfl)) (rfl)) (congrArg nI (show ((2 * z) + 0) = 2 * z + 0 by omega))))), px_ne (X := a1) (Y := k) ((rdI ((Eq.trans (pk_addE (n := (2 * z)) (k := 0) (pk_mulE (n := 2) (k := z) (rfl) (rfl)) (rfl)) (congrArg nI (show ((2 * z) + 0) = 2 * z + 0 by omega)))) (by omega) (Eq.trans (rowup_in (by decide)) ((hK.2 0 (show 0 < 1 by decide)).1)))) (rfl) (fun c => by first | exact absurd κ1 c | exact absurd c κ1) (fun _ => ?_)⟩
              refine gT_n 2 ?_
              show gT _ 267 60 _ _ _ _ _
              refine gT_n 1 ?_
              refine ⟨fun c => absurd (by decide) c, fun _ => ?_⟩
              refine gT_n 14 ?_
              refine ⟨rfl, rfl, rfl, (pk_inS (m := 8) (k := 2 * z + 1) (rfl) (by omega) ((Eq.trans (pk_addE (n := (2 * z)) (k := 1) (pk_mulE (n := 2) (k := z) (rfl) (rfl)) (rfl)) (congrArg nI (show ((2 * z) + 1) = 2 * z + 1 by omega))))), rfl, (pk_inS (m := 8) (k := 2 * z + 0) (rfl) (by omega) ((Eq.trans (pk_mulE (n := 2) (k := z) (rfl) (rfl)) (congrArg nI (show (2 * z) = 2 * z + 0 by omega))))), ?_⟩
              refine gT_ms2f (k := 0) (X := (f 1)) ((Eq.trans (pk_mulE (n := 2) (k := z) (rfl) (rfl)) (congrArg nI (show (2 * z) = 2 * z + 0 by omega)))) (by omega) (by decide) ((rdI ((Eq.trans (pk_addE (n := (2 * z)) (k := 1) (pk_mulE (n := 2) (k := z) (rfl) (rfl)) (rfl)) (congrArg nI (show ((2 * z) + 1) = 2 * z + 1 by omega)))) (by omega) (Eq.trans (rowup_in (by decide)) (rfl)))) ?_
              refine gT_n 14 ?_
              refine ⟨rfl, rfl, rfl, (pk_inS (m := 8) (k := 2 * z + 1) (rfl) (by omega) ((Eq.trans (pk_addE (n := (2 * z)) (k := 1) (pk_mulE (n := 2) (k := z) (rfl) (rfl)) (rfl)) (congrArg nI (show ((2 * z) + 1) = 2 * z + 1 by omega))))), rfl, (pk_inS (m := 8) (k := 2 * z + 0) (rfl) (by omega) ((Eq.trans (pk_mulE (n := 2) (k := z) (rfl) (rfl)) (congrArg nI (show (2 * z) = 2 * z + 0 by omega))))), ?_⟩
              refine gT_ms2g (k := 0) (X := (g 1)) ((Eq.trans (pk_mulE (n := 2) (k := z) (rfl) (rfl)) (congrArg nI (show (2 * z) = 2 * z + 0 by omega)))) (by omega) (by decide) ((rdI ((Eq.trans (pk_addE (n := (2 * z)) (k := 1) (pk_mulE (n := 2) (k := z) (rfl) (rfl)) (rfl)) (congrArg nI (show ((2 * z) + 1) = 2 * z + 1 by omega)))) (by omega) (Eq.trans (rowup_in (by decide)) (rfl)))) ?_
              refine gT_n 8 ?_
              refine ⟨rfl, rfl, (pk_inS (m := 4) (k := z) (rfl) (by omega) ((Eq.trans (rfl) (congrArg nI (show z = z by omega))))), rfl, (pk_inS (m := 4) (k := z) (rfl) (by omega) ((Eq.trans (rfl) (congrArg nI (show z = z by omega))))), ?_⟩
              refine gT_ms2n (k := 0) (X := 0) ((Eq.trans (rfl) (congrArg nI (show z = z by omega)))) (by omega) (by decide) ((k2E (f := fun x y : Int32 => x - y) (rdI ((Eq.trans (rfl) (congrArg nI (show z = z by omega)))) (by omega) (Eq.trans (upd_at) ((show _ = (1 : Int32) from hK.1)))) (rfl : _ = (1 : Int32)) (show ((1 : Int32) - 1) = 0 by decide))) ?_
              refine gT_n 5 ?_
              refine ⟨rfl, rfl, (pk_inS (m := 4) (k := z) (rfl) (by omega) ((Eq.trans (rfl) (congrArg nI (show z = z by omega))))), ?_⟩
              obtain ⟨rfl, rfl⟩ := (fOut_ok hL hs κ1 (fun q => absurd q.1 κ2) (show _ = ([] : zK) from (if_pos κ1))).mp hS
              exact ⟨_, J, P, rfl, ri ((rdI ((Eq.trans (rfl) (congrArg nI (show z = z by omega)))) (by omega) (Eq.trans (upd_at) (rfl)))), hC, ⟨jTp, jF, jT, jSp, ⟨jW.1, jW.2.1, mKs_set jW.2.2.1 oW.2.2.1 (mQ0 (rfl) ) (show 0 ≤ 2 by decide), jW.2.2.2⟩, jN, jP, jC, jI0, jI1, jB, jL⟩⟩
            · refine gT_n 6 ?_
              refine ⟨rfl, rfl, (pk_inS (m := 4) (k := z) (rfl) (by omega) ((congrArg nI (Eq.symm κ2)))), fun c => absurd c (kpT (p := fun z : Int32 => ¬ (¬ z = 1)) (rdI ((congrArg nI (Eq.symm κ2))) (by omega) (Eq.trans (upd_at) ((show _ = (1 : Int32) from hK.1)))) (by decide)), fun _ => ?_⟩
              refine gT_n 2 ?_
              obtain ⟨rfl, rfl⟩ := (fOut_no hL (fun q : _ ∧ ¬ _ => q.2 ⟨κ2, by rw [hL]; rfl⟩)).mp hS
              exact ⟨_, J, P, rfl, rfl, hC, hM0⟩
        · rw [hL] at hK
          refine gT_n 3 ?_
          refine ⟨rfl, rfl, gTM.use (m_isZone1 oT jT ⟨z, hz, rfl⟩) (Nat.le_refl _) (fun r u hq => ?_)⟩
          obtain ⟨rfl, rfl⟩ := hq  -- X12_isZone[R171, nI z]
          refine gT_n 1 ?_
          refine ⟨fun c => absurd c (by decide), fun _ => ?_⟩
          refine gT_n 2 ?_
          refine ⟨rfl, gTM.use (m_isKey1 hk) (Nat.le_refl _) (fun r u hq => ?_)⟩
          obtain ⟨rfl, rfl⟩ := hq  -- X12_isKey[k]
          refine gT_n 1 ?_
          refine ⟨fun _ => ?_, fun c => absurd c (by decide)⟩
          refine gT_n 5 ?_
          refine ⟨rfl, (Or.inr rfl), (pk_in z 4 (by omega) (rfl)), fun c => absurd c (kpT (p := fun z : Int32 => ¬ (z = 0)) (show _ = (1 : Int32) from (rdI (rfl) (by omega) e1)) (by decide)), fun _ => ?_⟩
          refine gT_n 4 ?_
          refine ⟨rfl, rfl, ?_⟩
          refine gT_n 8 ?_
          refine ⟨rfl, rfl, (pk_inS (m := 4) (k := z) (rfl) (by omega) ((Eq.trans (rfl) (congrArg nI (show z = z by omega))))), fun c => absurd c (kpT (p := fun z : Int32 => ¬ (z ≤ 0)) (rdI ((Eq.trans (rfl) (congrArg nI (show z = z by omega)))) (by omega) (Eq.trans (upd_at) ((show _ = (2 : Int32) from hK.1)))) (by decide)), fun _ => ?_⟩
          refine gT_n 10 ?_
          refine ⟨rfl, rfl, (pk_inS (m := 8) (k := 2 * z + 0) (rfl) (by omega) ((Eq.trans (pk_addE (n := (2 * z)) (k := 0) (pk_mulE (n := 2) (k := z) (rfl) (rfl)) (rfl)) (congrArg nI (show ((2 * z) + 0) = 2 * z + 0 by omega))))), px_ne (X := a1) (Y := k) ((rdI ((Eq.trans (pk_addE (n := (2 * z)) (k := 0) (pk_mulE (n := 2) (k := z) (rfl) (rfl)) (rfl)) (congrArg nI (show ((2 * z) + 0) = 2 * z + 0 by omega)))) (by omega) (Eq.trans (rowup_in (by decide)) ((hK.2 0 (show 0 < 2 by decide)).1)))) (rfl) (fun κ1 => ?_) (fun κ1 => ?_)⟩
          · refine gT_n 8 ?_
            refine ⟨rfl, rfl, (pk_inS (m := 4) (k := z) (rfl) (by omega) ((Eq.trans (rfl) (congrArg nI (show z = z by omega))))), fun c => absurd c (kpT (p := fun z : Int32 => ¬ (z ≤ 1)) (rdI ((Eq.trans (rfl) (congrArg nI (show z = z by omega)))) (by omega) (Eq.trans (upd_at) ((show _ = (2 : Int32) from hK.1)))) (by decide)), fun _ => ?_⟩
            refine gT_n 10 ?_
            refine ⟨rfl, rfl, (pk_inS (m := 8) (k := 2 * z + 1) (rfl) (by omega) ((Eq.trans (pk_addE (n := (2 * z)) (k := 1) (pk_mulE (n := 2) (k := z) (rfl) (rfl)) (rfl)) (congrArg nI (show ((2 * z) + 1) = 2 * z + 1 by omega))))), px_ne (X := b1) (Y := k) ((rdI ((Eq.trans (pk_addE (n := (2 * z)) (k := 1) (pk_mulE (n := 2) (k := z) (rfl) (rfl)) (rfl)) (congrArg nI (show ((2 * z) + 1) = 2 * z + 1 by omega)))) (by omega) (Eq.trans (rowup_in (by decide)) ((hK.2 1 (show 1 < 2 by decide)).1)))) (rfl) (fun κ2 => ?_) (fun κ2 => ?_)⟩
            · refine gT_n 8 ?_
              refine ⟨rfl, rfl, (pk_inS (m := 4) (k := z) (rfl) (by omega) ((Eq.trans (rfl) (congrArg nI (show z = z by omega))))), fun _ => ?_, fun c => absurd (kpT (p := fun z : Int32 => z ≤ 2) (rdI ((Eq.trans (rfl) (congrArg nI (show z = z by omega)))) (by omega) (Eq.trans (upd_at) ((show _ = (2 : Int32) from hK.1)))) (by decide)) c⟩
              refine gT_n 2 ?_
              show gT _ 267 32 _ _ _ _ _
              refine gT_n 2 ?_
              refine ⟨fun _ => ?_, fun c => absurd (by decide) c⟩
              refine gT_n 2 ?_
              obtain ⟨rfl, rfl⟩ := (fOut_no hL (fun z => (fun z => Or.elim z κ1 κ2) z.1)).mp hS
              exact ⟨_, J, P, rfl, rfl, hC, hM0⟩
            · refine gT_n 2 ?_
              show gT _ 267 32 _ _ _ _ _
              refine gT_n 2 ?_
              refine ⟨fun c => absurd c (by decide), fun _ => ?_⟩
              refine gT_n 2 ?_
              refine pk_ne z 0 (fun κ3 => ?_) (fun κ3 => ?_) (rfl) (rfl) (by omega) (by omega)
              · refine gT_n 4 ?_
                refine ⟨rfl, rfl, ?_⟩
                refine gT_n 8 ?_
                refine ⟨rfl, rfl, (pk_inS (m := 4) (k := z) (rfl) (by omega) ((Eq.trans (rfl) (congrArg nI (show z = z by omega))))), fun c => absurd c (kpT (p := fun z : Int32 => ¬ (z ≤ 0)) (rdI ((Eq.trans (rfl) (congrArg nI (show z = z by omega)))) (by omega) (Eq.trans (upd_at) ((show _ = (2 : Int32) from hK.1)))) (by decide)), fun _ => ?_⟩
                refine gT_n 10 ?_
                refine ⟨rfl, rfl, (pk_inS (m := 8) (k := 2 * z + 0) (rfl) (by omega) ((Eq.trans (pk_addE (n := (2 * z)) (k := 0) (pk_mulE (n := 2) (k := z) (rfl) (rfl)) (rfl)) (congrArg nI (show ((2 * z) + 0) = 2 * z + 0 by omega))))), px_ne (X := a1) (Y := k) ((rdI ((Eq.trans (pk_addE (n := (2 * z)) (k := 0) (pk_mulE (n := 2) (k := z) (rfl) (rfl)) (rfl)) (congrArg nI (show ((2 * z) + 0) = 2 * z + 0 by omega)))) (by omega) (Eq.trans (rowup_in (by decide)) ((hK.2 0 (show 0 < 2 by decide)).1)))) (rfl) (fun _ => ?_) (fun c => by first | exact absurd κ1 c | exact absurd c κ1)⟩
                refine gT_n 8 ?_
                refine ⟨rfl, rfl, (pk_inS (m := 4) (k := z) (rfl) (by omega) ((Eq.trans (rfl) (congrArg nI (show z = z by omega))))), fun c => absurd c (kpT (p := fun z : Int32 => ¬ (z ≤ 1)) (rdI ((Eq.trans (rfl) (congrArg nI (show z = z by omega)))) (by omega) (Eq.trans (upd_at) ((show _ = (2 : Int32) from hK.1)))) (by decide)), fun _ => ?_⟩
                refine gT_n 10 ?_
                refine ⟨rfl, rfl, (pk_inS (m := 8) (k := 2 * z + 1) (rfl) (by omega) ((Eq.trans (pk_addE (n := (2 * z)) (k := 1) (pk_mulE (n := 2) (k := z) (rfl) (rfl)) (rfl)) (congrArg nI (show ((2 * z) + 1) = 2 * z + 1 by omega))))), px_ne (X := b1) (Y := k) ((rdI ((Eq.trans (pk_addE (n := (2 * z)) (k := 1) (pk_mulE (n := 2) (k := z) (rfl) (rfl)) (rfl)) (congrArg nI (show ((2 * z) + 1) = 2 * z + 1 by omega)))) (by omega) (Eq.trans (rowup_in (by decide)) ((hK.2 1 (show 1 < 2 by decide)).1)))) (rfl) (fun c => by first | exact absurd κ2 c | exact absurd c κ2) (fun _ => ?_)⟩
                refine gT_n 2 ?_
                show gT _ 267 60 _ _ _ _ _
                refine gT_n 1 ?_
                refine ⟨fun _ => ?_, fun c => absurd c (by decide)⟩
                refine gT_n 8 ?_
                refine ⟨rfl, rfl, (pk_inS (m := 4) (k := z) (rfl) (by omega) ((Eq.trans (rfl) (congrArg nI (show z = z by omega))))), rfl, (pk_inS (m := 4) (k := z) (rfl) (by omega) ((Eq.trans (rfl) (congrArg nI (show z = z by omega))))), ?_⟩
                refine gT_ms2n (k := 0) (X := 1) ((Eq.trans (rfl) (congrArg nI (show z = z by omega)))) (by omega) (by decide) ((k2E (f := fun x y : Int32 => x - y) (rdI ((Eq.trans (rfl) (congrArg nI (show z = z by omega)))) (by omega) (Eq.trans (upd_at) ((show _ = (2 : Int32) from hK.1)))) (rfl : _ = (1 : Int32)) (show ((2 : Int32) - 1) = 1 by decide))) ?_
                refine gT_n 5 ?_
                refine ⟨rfl, rfl, (pk_inS (m := 4) (k := z) (rfl) (by omega) ((Eq.trans (rfl) (congrArg nI (show z = z by omega))))), ?_⟩
                obtain ⟨rfl, rfl⟩ := (fOut_ok hL hs (Or.inr (κ2)) (fun q => absurd (hL ▸ q.2 : [(a1, a2), (b1, b2)].length = 1) (show ¬ 2 = 1 by decide)) (show _ = [(a1, a2)] from (Eq.trans (if_neg κ1) (if_pos κ2)))).mp hS
                exact ⟨_, J, P, rfl, ri ((rdI ((Eq.trans (rfl) (congrArg nI (show z = z by omega)))) (by omega) (Eq.trans (upd_at) (rfl)))), hC, ⟨jTp, jF, jT, jSp, ⟨jW.1, jW.2.1, mKs_set jW.2.2.1 oW.2.2.1 (mQ1 (rfl) ⟨(hK.2 0 (show 0 < 2 by decide)).1, (hK.2 0 (show 0 < 2 by decide)).2⟩) (show 1 ≤ 2 by decide), jW.2.2.2⟩, jN, jP, jC, jI0, jI1, jB, jL⟩⟩
              · refine gT_n 6 ?_
                refine ⟨rfl, rfl, (pk_inS (m := 4) (k := z) (rfl) (by omega) ((congrArg nI (Eq.symm κ3)))), fun _ => ?_, fun c => absurd c (kpT (p := fun z : Int32 => ¬ z = 1) (rdI ((congrArg nI (Eq.symm κ3))) (by omega) (Eq.trans (upd_at) ((show _ = (2 : Int32) from hK.1)))) (by decide))⟩
                refine gT_n 4 ?_
                refine ⟨rfl, rfl, ?_⟩
                refine gT_n 8 ?_
                refine ⟨rfl, rfl, (pk_inS (m := 4) (k := z) (rfl) (by omega) ((Eq.trans (rfl) (congrArg nI (show z = z by omega))))), fun c => absurd c (kpT (p := fun z : Int32 => ¬ (z ≤ 0)) (rdI ((Eq.trans (rfl) (congrArg nI (show z = z by omega)))) (by omega) (Eq.trans (upd_at) ((show _ = (2 : Int32) from hK.1)))) (by decide)), fun _ => ?_⟩
                refine gT_n 10 ?_
                refine ⟨rfl, rfl, (pk_inS (m := 8) (k := 2 * z + 0) (rfl) (by omega) ((Eq.trans (pk_addE (n := (2 * z)) (k := 0) (pk_mulE (n := 2) (k := z) (rfl) (rfl)) (rfl)) (congrArg nI (show ((2 * z) + 0) = 2 * z + 0 by omega))))), px_ne (X := a1) (Y := k) ((rdI ((Eq.trans (pk_addE (n := (2 * z)) (k := 0) (pk_mulE (n := 2) (k := z) (rfl) (rfl)) (rfl)) (congrArg nI (show ((2 * z) + 0) = 2 * z + 0 by omega)))) (by omega) (Eq.trans (rowup_in (by decide)) ((hK.2 0 (show 0 < 2 by decide)).1)))) (rfl) (fun _ => ?_) (fun c => by first | exact absurd κ1 c | exact absurd c κ1)⟩
                refine gT_n 8 ?_
                refine ⟨rfl, rfl, (pk_inS (m := 4) (k := z) (rfl) (by omega) ((Eq.trans (rfl) (congrArg nI (show z = z by omega))))), fun c => absurd c (kpT (p := fun z : Int32 => ¬ (z ≤ 1)) (rdI ((Eq.trans (rfl) (congrArg nI (show z = z by omega)))) (by omega) (Eq.trans (upd_at) ((show _ = (2 : Int32) from hK.1)))) (by decide)), fun _ => ?_⟩
                refine gT_n 10 ?_
                refine ⟨rfl, rfl, (pk_inS (m := 8) (k := 2 * z + 1) (rfl) (by omega) ((Eq.trans (pk_addE (n := (2 * z)) (k := 1) (pk_mulE (n := 2) (k := z) (rfl) (rfl)) (rfl)) (congrArg nI (show ((2 * z) + 1) = 2 * z + 1 by omega))))), px_ne (X := b1) (Y := k) ((rdI ((Eq.trans (pk_addE (n := (2 * z)) (k := 1) (pk_mulE (n := 2) (k := z) (rfl) (rfl)) (rfl)) (congrArg nI (show ((2 * z) + 1) = 2 * z + 1 by omega)))) (by omega) (Eq.trans (rowup_in (by decide)) ((hK.2 1 (show 1 < 2 by decide)).1)))) (rfl) (fun c => by first | exact absurd κ2 c | exact absurd c κ2) (fun _ => ?_)⟩
                refine gT_n 2 ?_
                show gT _ 267 60 _ _ _ _ _
                refine gT_n 1 ?_
                refine ⟨fun _ => ?_, fun c => absurd c (by decide)⟩
                refine gT_n 8 ?_
                refine ⟨rfl, rfl, (pk_inS (m := 4) (k := z) (rfl) (by omega) ((Eq.trans (rfl) (congrArg nI (show z = z by omega))))), rfl, (pk_inS (m := 4) (k := z) (rfl) (by omega) ((Eq.trans (rfl) (congrArg nI (show z = z by omega))))), ?_⟩
                refine gT_ms2n (k := 0) (X := 1) ((Eq.trans (rfl) (congrArg nI (show z = z by omega)))) (by omega) (by decide) ((k2E (f := fun x y : Int32 => x - y) (rdI ((Eq.trans (rfl) (congrArg nI (show z = z by omega)))) (by omega) (Eq.trans (upd_at) ((show _ = (2 : Int32) from hK.1)))) (rfl : _ = (1 : Int32)) (show ((2 : Int32) - 1) = 1 by decide))) ?_
                refine gT_n 5 ?_
                refine ⟨rfl, rfl, (pk_inS (m := 4) (k := z) (rfl) (by omega) ((Eq.trans (rfl) (congrArg nI (show z = z by omega))))), ?_⟩
                obtain ⟨rfl, rfl⟩ := (fOut_ok hL hs (Or.inr (κ2)) (fun q => absurd (hL ▸ q.2 : [(a1, a2), (b1, b2)].length = 1) (show ¬ 2 = 1 by decide)) (show _ = [(a1, a2)] from (Eq.trans (if_neg κ1) (if_pos κ2)))).mp hS
                exact ⟨_, J, P, rfl, ri ((rdI ((Eq.trans (rfl) (congrArg nI (show z = z by omega)))) (by omega) (Eq.trans (upd_at) (rfl)))), hC, ⟨jTp, jF, jT, jSp, ⟨jW.1, jW.2.1, mKs_set jW.2.2.1 oW.2.2.1 (mQ1 (rfl) ⟨(hK.2 0 (show 0 < 2 by decide)).1, (hK.2 0 (show 0 < 2 by decide)).2⟩) (show 1 ≤ 2 by decide), jW.2.2.2⟩, jN, jP, jC, jI0, jI1, jB, jL⟩⟩
          · refine gT_n 2 ?_
            show gT _ 267 32 _ _ _ _ _
            refine gT_n 2 ?_
            refine ⟨fun c => absurd c (by decide), fun _ => ?_⟩
            refine gT_n 2 ?_
            refine pk_ne z 0 (fun κ4 => ?_) (fun κ4 => ?_) (rfl) (rfl) (by omega) (by omega)
            · refine gT_n 4 ?_
              refine ⟨rfl, rfl, ?_⟩
              refine gT_n 8 ?_
              refine ⟨rfl, rfl, (pk_inS (m := 4) (k := z) (rfl) (by omega) ((Eq.trans (rfl) (congrArg nI (show z = z by omega))))), fun c => absurd c (kpT (p := fun z : Int32 => ¬ (z ≤ 0)) (rdI ((Eq.trans (rfl) (congrArg nI (show z = z by omega)))) (by omega) (Eq.trans (upd_at) ((show _ = (2 : Int32) from hK.1)))) (by decide)), fun _ => ?_⟩
              refine gT_n 10 ?_
              refine ⟨rfl, rfl, (pk_inS (m := 8) (k := 2 * z + 0) (rfl) (by omega) ((Eq.trans (pk_addE (n := (2 * z)) (k := 0) (pk_mulE (n := 2) (k := z) (rfl) (rfl)) (rfl)) (congrArg nI (show ((2 * z) + 0) = 2 * z + 0 by omega))))), px_ne (X := a1) (Y := k) ((rdI ((Eq.trans (pk_addE (n := (2 * z)) (k := 0) (pk_mulE (n := 2) (k := z) (rfl) (rfl)) (rfl)) (congrArg nI (show ((2 * z) + 0) = 2 * z + 0 by omega)))) (by omega) (Eq.trans (rowup_in (by decide)) ((hK.2 0 (show 0 < 2 by decide)).1)))) (rfl) (fun c => by first | exact absurd κ1 c | exact absurd c κ1) (fun _ => ?_)⟩
              refine gT_n 2 ?_
              show gT _ 267 60 _ _ _ _ _
              refine gT_n 1 ?_
              refine ⟨fun c => absurd (by decide) c, fun _ => ?_⟩
              refine gT_n 14 ?_
              refine ⟨rfl, rfl, rfl, (pk_inS (m := 8) (k := 2 * z + 1) (rfl) (by omega) ((Eq.trans (pk_addE (n := (2 * z)) (k := 1) (pk_mulE (n := 2) (k := z) (rfl) (rfl)) (rfl)) (congrArg nI (show ((2 * z) + 1) = 2 * z + 1 by omega))))), rfl, (pk_inS (m := 8) (k := 2 * z + 0) (rfl) (by omega) ((Eq.trans (pk_mulE (n := 2) (k := z) (rfl) (rfl)) (congrArg nI (show (2 * z) = 2 * z + 0 by omega))))), ?_⟩
              refine gT_ms2f (k := 0) (X := b1) ((Eq.trans (pk_mulE (n := 2) (k := z) (rfl) (rfl)) (congrArg nI (show (2 * z) = 2 * z + 0 by omega)))) (by omega) (by decide) ((rdI ((Eq.trans (pk_addE (n := (2 * z)) (k := 1) (pk_mulE (n := 2) (k := z) (rfl) (rfl)) (rfl)) (congrArg nI (show ((2 * z) + 1) = 2 * z + 1 by omega)))) (by omega) (Eq.trans (rowup_in (by decide)) ((hK.2 1 (show 1 < 2 by decide)).1)))) ?_
              refine gT_n 14 ?_
              refine ⟨rfl, rfl, rfl, (pk_inS (m := 8) (k := 2 * z + 1) (rfl) (by omega) ((Eq.trans (pk_addE (n := (2 * z)) (k := 1) (pk_mulE (n := 2) (k := z) (rfl) (rfl)) (rfl)) (congrArg nI (show ((2 * z) + 1) = 2 * z + 1 by omega))))), rfl, (pk_inS (m := 8) (k := 2 * z + 0) (rfl) (by omega) ((Eq.trans (pk_mulE (n := 2) (k := z) (rfl) (rfl)) (congrArg nI (show (2 * z) = 2 * z + 0 by omega))))), ?_⟩
              refine gT_ms2g (k := 0) (X := b2) ((Eq.trans (pk_mulE (n := 2) (k := z) (rfl) (rfl)) (congrArg nI (show (2 * z) = 2 * z + 0 by omega)))) (by omega) (by decide) ((rdI ((Eq.trans (pk_addE (n := (2 * z)) (k := 1) (pk_mulE (n := 2) (k := z) (rfl) (rfl)) (rfl)) (congrArg nI (show ((2 * z) + 1) = 2 * z + 1 by omega)))) (by omega) (Eq.trans (rowup_in (by decide)) ((hK.2 1 (show 1 < 2 by decide)).2)))) ?_
              refine gT_n 8 ?_
              refine ⟨rfl, rfl, (pk_inS (m := 4) (k := z) (rfl) (by omega) ((Eq.trans (rfl) (congrArg nI (show z = z by omega))))), rfl, (pk_inS (m := 4) (k := z) (rfl) (by omega) ((Eq.trans (rfl) (congrArg nI (show z = z by omega))))), ?_⟩
              refine gT_ms2n (k := 0) (X := 1) ((Eq.trans (rfl) (congrArg nI (show z = z by omega)))) (by omega) (by decide) ((k2E (f := fun x y : Int32 => x - y) (rdI ((Eq.trans (rfl) (congrArg nI (show z = z by omega)))) (by omega) (Eq.trans (upd_at) ((show _ = (2 : Int32) from hK.1)))) (rfl : _ = (1 : Int32)) (show ((2 : Int32) - 1) = 1 by decide))) ?_
              refine gT_n 5 ?_
              refine ⟨rfl, rfl, (pk_inS (m := 4) (k := z) (rfl) (by omega) ((Eq.trans (rfl) (congrArg nI (show z = z by omega))))), ?_⟩
              obtain ⟨rfl, rfl⟩ := (fOut_ok hL hs (Or.inl κ1) (fun q => absurd (hL ▸ q.2 : [(a1, a2), (b1, b2)].length = 1) (show ¬ 2 = 1 by decide)) (show _ = [(b1, b2)] from (if_pos κ1))).mp hS
              exact ⟨_, J, P, rfl, ri ((rdI ((Eq.trans (rfl) (congrArg nI (show z = z by omega)))) (by omega) (Eq.trans (upd_at) (rfl)))), hC, ⟨jTp, jF, jT, jSp, ⟨jW.1, jW.2.1, mKs_set jW.2.2.1 oW.2.2.1 (mQ1 (rfl) ⟨rfl, rfl⟩) (show 1 ≤ 2 by decide), jW.2.2.2⟩, jN, jP, jC, jI0, jI1, jB, jL⟩⟩
            · refine gT_n 6 ?_
              refine ⟨rfl, rfl, (pk_inS (m := 4) (k := z) (rfl) (by omega) ((congrArg nI (Eq.symm κ4)))), fun _ => ?_, fun c => absurd c (kpT (p := fun z : Int32 => ¬ z = 1) (rdI ((congrArg nI (Eq.symm κ4))) (by omega) (Eq.trans (upd_at) ((show _ = (2 : Int32) from hK.1)))) (by decide))⟩
              refine gT_n 4 ?_
              refine ⟨rfl, rfl, ?_⟩
              refine gT_n 8 ?_
              refine ⟨rfl, rfl, (pk_inS (m := 4) (k := z) (rfl) (by omega) ((Eq.trans (rfl) (congrArg nI (show z = z by omega))))), fun c => absurd c (kpT (p := fun z : Int32 => ¬ (z ≤ 0)) (rdI ((Eq.trans (rfl) (congrArg nI (show z = z by omega)))) (by omega) (Eq.trans (upd_at) ((show _ = (2 : Int32) from hK.1)))) (by decide)), fun _ => ?_⟩
              refine gT_n 10 ?_
              refine ⟨rfl, rfl, (pk_inS (m := 8) (k := 2 * z + 0) (rfl) (by omega) ((Eq.trans (pk_addE (n := (2 * z)) (k := 0) (pk_mulE (n := 2) (k := z) (rfl) (rfl)) (rfl)) (congrArg nI (show ((2 * z) + 0) = 2 * z + 0 by omega))))), px_ne (X := a1) (Y := k) ((rdI ((Eq.trans (pk_addE (n := (2 * z)) (k := 0) (pk_mulE (n := 2) (k := z) (rfl) (rfl)) (rfl)) (congrArg nI (show ((2 * z) + 0) = 2 * z + 0 by omega)))) (by omega) (Eq.trans (rowup_in (by decide)) ((hK.2 0 (show 0 < 2 by decide)).1)))) (rfl) (fun c => by first | exact absurd κ1 c | exact absurd c κ1) (fun _ => ?_)⟩
              refine gT_n 2 ?_
              show gT _ 267 60 _ _ _ _ _
              refine gT_n 1 ?_
              refine ⟨fun c => absurd (by decide) c, fun _ => ?_⟩
              refine gT_n 14 ?_
              refine ⟨rfl, rfl, rfl, (pk_inS (m := 8) (k := 2 * z + 1) (rfl) (by omega) ((Eq.trans (pk_addE (n := (2 * z)) (k := 1) (pk_mulE (n := 2) (k := z) (rfl) (rfl)) (rfl)) (congrArg nI (show ((2 * z) + 1) = 2 * z + 1 by omega))))), rfl, (pk_inS (m := 8) (k := 2 * z + 0) (rfl) (by omega) ((Eq.trans (pk_mulE (n := 2) (k := z) (rfl) (rfl)) (congrArg nI (show (2 * z) = 2 * z + 0 by omega))))), ?_⟩
              refine gT_ms2f (k := 0) (X := b1) ((Eq.trans (pk_mulE (n := 2) (k := z) (rfl) (rfl)) (congrArg nI (show (2 * z) = 2 * z + 0 by omega)))) (by omega) (by decide) ((rdI ((Eq.trans (pk_addE (n := (2 * z)) (k := 1) (pk_mulE (n := 2) (k := z) (rfl) (rfl)) (rfl)) (congrArg nI (show ((2 * z) + 1) = 2 * z + 1 by omega)))) (by omega) (Eq.trans (rowup_in (by decide)) ((hK.2 1 (show 1 < 2 by decide)).1)))) ?_
              refine gT_n 14 ?_
              refine ⟨rfl, rfl, rfl, (pk_inS (m := 8) (k := 2 * z + 1) (rfl) (by omega) ((Eq.trans (pk_addE (n := (2 * z)) (k := 1) (pk_mulE (n := 2) (k := z) (rfl) (rfl)) (rfl)) (congrArg nI (show ((2 * z) + 1) = 2 * z + 1 by omega))))), rfl, (pk_inS (m := 8) (k := 2 * z + 0) (rfl) (by omega) ((Eq.trans (pk_mulE (n := 2) (k := z) (rfl) (rfl)) (congrArg nI (show (2 * z) = 2 * z + 0 by omega))))), ?_⟩
              refine gT_ms2g (k := 0) (X := b2) ((Eq.trans (pk_mulE (n := 2) (k := z) (rfl) (rfl)) (congrArg nI (show (2 * z) = 2 * z + 0 by omega)))) (by omega) (by decide) ((rdI ((Eq.trans (pk_addE (n := (2 * z)) (k := 1) (pk_mulE (n := 2) (k := z) (rfl) (rfl)) (rfl)) (congrArg nI (show ((2 * z) + 1) = 2 * z + 1 by omega)))) (by omega) (Eq.trans (rowup_in (by decide)) ((hK.2 1 (show 1 < 2 by decide)).2)))) ?_
              refine gT_n 8 ?_
              refine ⟨rfl, rfl, (pk_inS (m := 4) (k := z) (rfl) (by omega) ((Eq.trans (rfl) (congrArg nI (show z = z by omega))))), rfl, (pk_inS (m := 4) (k := z) (rfl) (by omega) ((Eq.trans (rfl) (congrArg nI (show z = z by omega))))), ?_⟩
              refine gT_ms2n (k := 0) (X := 1) ((Eq.trans (rfl) (congrArg nI (show z = z by omega)))) (by omega) (by decide) ((k2E (f := fun x y : Int32 => x - y) (rdI ((Eq.trans (rfl) (congrArg nI (show z = z by omega)))) (by omega) (Eq.trans (upd_at) ((show _ = (2 : Int32) from hK.1)))) (rfl : _ = (1 : Int32)) (show ((2 : Int32) - 1) = 1 by decide))) ?_
              refine gT_n 5 ?_
              refine ⟨rfl, rfl, (pk_inS (m := 4) (k := z) (rfl) (by omega) ((Eq.trans (rfl) (congrArg nI (show z = z by omega))))), ?_⟩
              obtain ⟨rfl, rfl⟩ := (fOut_ok hL hs (Or.inl κ1) (fun q => absurd (hL ▸ q.2 : [(a1, a2), (b1, b2)].length = 1) (show ¬ 2 = 1 by decide)) (show _ = [(b1, b2)] from (if_pos κ1))).mp hS
              exact ⟨_, J, P, rfl, ri ((rdI ((Eq.trans (rfl) (congrArg nI (show z = z by omega)))) (by omega) (Eq.trans (upd_at) (rfl)))), hC, ⟨jTp, jF, jT, jSp, ⟨jW.1, jW.2.1, mKs_set jW.2.2.1 oW.2.2.1 (mQ1 (rfl) ⟨rfl, rfl⟩) (show 1 ≤ 2 by decide), jW.2.2.2⟩, jN, jP, jC, jI0, jI1, jB, jL⟩⟩
      · rw [hs] at e1
        refine gT_n 3 ?_
        refine ⟨rfl, rfl, gTM.use (m_isZone1 oT jT ⟨z, hz, rfl⟩) (Nat.le_refl _) (fun r u hq => ?_)⟩
        obtain ⟨rfl, rfl⟩ := hq  -- X12_isZone[R171, nI z]
        refine gT_n 1 ?_
        refine ⟨fun c => absurd c (by decide), fun _ => ?_⟩
        refine gT_n 2 ?_
        refine ⟨rfl, gTM.use (m_isKey1 hk) (Nat.le_refl _) (fun r u hq => ?_)⟩
        obtain ⟨rfl, rfl⟩ := hq  -- X12_isKey[k]
        refine gT_n 1 ?_
        refine ⟨fun _ => ?_, fun c => absurd c (by decide)⟩
        refine gT_n 5 ?_
        refine ⟨rfl, (Or.inr rfl), (pk_in z 4 (by omega) (rfl)), fun _ => ?_, fun c => absurd (kpT (p := fun z : Int32 => z = 0) (show _ = (0 : Int32) from (rdI (rfl) (by omega) e1)) (by decide)) c⟩
        refine gT_n 2 ?_
        obtain ⟨rfl, rfl⟩ := (fOut_pl hs).mp hS
        exact ⟨_, J, P, rfl, rfl, hC, hM0⟩
    rw [ms2_self] at key
    exact key
  · obtain ⟨rfl, rfl⟩ := (zk_no hh).mp hS
    by_cases hz : inZ t.1 z
    · have hk : ¬ (1 ≤ k ∧ k ≤ 999) := fun q => hh ⟨hz, q⟩
      refine gT_n 3 ?_
      refine ⟨rfl, rfl, gTM.use (m_isZone1 oT jT hz) (Nat.le_refl _) (fun r u hq => ?_)⟩
      obtain ⟨rfl, rfl⟩ := hq  -- X12_isZone[R171, z]
      refine gT_n 1 ?_
      refine ⟨fun c => absurd c (by decide), fun _ => ?_⟩
      refine gT_n 2 ?_
      refine ⟨rfl, gTM.use (m_isKey0 hk) (Nat.le_refl _) (fun r u hq => ?_)⟩
      obtain ⟨rfl, rfl⟩ := hq  -- X12_isKey[k]
      refine gT_n 1 ?_
      refine ⟨fun c => absurd (by decide) c, fun _ => ?_⟩
      refine gT_n 2 ?_
      exact ⟨I, J, P, rfl, rfl, hC, hM0⟩
    · refine gT_n 3 ?_
      refine ⟨rfl, rfl, gTM.use (m_isZone0 oT jT hz) (Nat.le_refl _) (fun r u hq => ?_)⟩
      obtain ⟨rfl, rfl⟩ := hq  -- X12_isZone[R171, z]
      refine gT_n 1 ?_
      refine ⟨fun _ => ?_, fun c => absurd (by decide) c⟩
      refine gT_n 2 ?_
      exact ⟨I, J, P, rfl, rfl, hC, hM0⟩
