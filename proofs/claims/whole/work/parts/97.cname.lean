/-! names read: the class -/
def nOf : List Nat → Nat
  | [] => 0
  | [a] => n4 a 0 0 0
  | [a, b] => n4 a b 0 0
  | [a, b, c] => n4 a b c 0
  | a :: b :: c :: d :: _ => n4 a b c d
def vws (ws : List Nat) : Prop := ∀ x ∈ ws, vl x ∧ ¬ x = 0
theorem nOf_lt {ws : List Nat} (h : vws ws) : nOf ws < 2 ^ 60 := by
  match ws, h with
  | [], _ => exact (by decide : 0 < 2 ^ 60)
  | [a], h => exact n4_lt (vl_lt (h a (by simp)).1) (by decide) (by decide) (by decide)
  | [a, b], h => exact n4_lt (vl_lt (h a (by simp)).1) (vl_lt (h b (by simp)).1) (by decide) (by decide)
  | [a, b, c], h => exact n4_lt (vl_lt (h a (by simp)).1) (vl_lt (h b (by simp)).1) (vl_lt (h c (by simp)).1) (by decide)
  | a :: b :: c :: d :: _, h => exact n4_lt (vl_lt (h a (by simp)).1) (vl_lt (h b (by simp)).1) (vl_lt (h c (by simp)).1) (vl_lt (h d (by simp)).1)
theorem vn_n4 {a b c d : Nat} (ha : vl a) (hb : vl b) (hc : vl c) (hd : vl d) (h1 : a = 0 → b = 0) (h2 : b = 0 → c = 0) (h3 : c = 0 → d = 0) : vn (n4 a b c d) := by
  obtain ⟨e0, e1, e2, e3⟩ := lab_n4 (vl_lt ha) (vl_lt hb) (vl_lt hc) (vl_lt hd)
  refine ⟨⟨n4_lt (vl_lt ha) (vl_lt hb) (vl_lt hc) (vl_lt hd), ?_, ?_, ?_⟩, ?_, ?_, ?_, ?_⟩
  · rw [e0, e1]; exact h1
  · rw [e1, e2]; exact h2
  · rw [e2, e3]; exact h3
  · rw [e0]; exact ha
  · rw [e1]; exact hb
  · rw [e2]; exact hc
  · rw [e3]; exact hd
theorem vl_0 : vl 0 := Or.inl (by omega)
theorem nOf_vn {ws : List Nat} (h : vws ws) : vn (nOf ws) := by
  match ws, h with
  | [], _ => exact vn_0
  | [a], h => exact vn_n4 (h a (by simp)).1 vl_0 vl_0 vl_0 (fun _ => rfl) (fun _ => rfl) (fun _ => rfl)
  | [a, b], h => exact vn_n4 (h a (by simp)).1 (h b (by simp)).1 vl_0 vl_0 (fun e => absurd e (h a (by simp)).2) (fun _ => rfl) (fun _ => rfl)
  | [a, b, c], h => exact vn_n4 (h a (by simp)).1 (h b (by simp)).1 (h c (by simp)).1 vl_0 (fun e => absurd e (h a (by simp)).2) (fun e => absurd e (h b (by simp)).2) (fun _ => rfl)
  | a :: b :: c :: d :: _, h => exact vn_n4 (h a (by simp)).1 (h b (by simp)).1 (h c (by simp)).1 (h d (by simp)).1 (fun e => absurd e (h a (by simp)).2) (fun e => absurd e (h b (by simp)).2) (fun e => absurd e (h c (by simp)).2)
def ahv (x m : Nat) : Nat := x * 35184372088832 + m / 32768
theorem nOf_hd {x : Nat} {ws : List Nat} (h : vws ws) (hl : ws.length ≤ 3) : ahv x (nOf ws) = nOf (x :: ws) := by
  match ws, h, hl with
  | [], _, _ => show x * 35184372088832 + 0 / 32768 = n4 x 0 0 0; unfold n4; omega
  | [a], h, _ => have := vl_lt (h a (by simp)).1; show x * 35184372088832 + n4 a 0 0 0 / 32768 = n4 x a 0 0; unfold n4; omega
  | [a, b], h, _ => have := vl_lt (h a (by simp)).1; have := vl_lt (h b (by simp)).1; show x * 35184372088832 + n4 a b 0 0 / 32768 = n4 x a b 0; unfold n4; omega
  | [a, b, c], h, _ => have := vl_lt (h a (by simp)).1; have := vl_lt (h b (by simp)).1; have := vl_lt (h c (by simp)).1; show x * 35184372088832 + n4 a b c 0 / 32768 = n4 x a b c; unfold n4; omega
  | a :: b :: c :: d :: l, _, hl => exact absurd hl (by simp)
theorem ah_val {x m : Nat} (hx : x < 32768) (hm : m < 2 ^ 60) : ((nI x).toInt64 <<< ((45 : Int32).toInt64 &&& 63)) ||| (lN m >>> ((15 : Int32).toInt64 &&& 63)) = lN (ahv x m) := by
  rw [nI_l (by omega), g_shl (k := 45) (p := 35184372088832) (by decide) (by decide) (by decide) (by omega), pf_shr (d := 15) (by decide) (by omega)]
  exact g_or (k := 45) (by decide) (by omega) (by omega)
theorem c_aheadN {d x m : Nat} {w : gW} (hx : x < 32768) (hm : m < 2 ^ 60) : gTM d 74 [.int (nI x), .long (lN m)] w (fun r u => u = w ∧ r = some (.long (lN (ahv x m)))) := by
  refine gT_n 9 ?_
  refine ⟨rfl, ?_⟩
  exact ⟨rfl, rl (ah_val hx hm)⟩
def lb (b : Nat → Nat) (q : tk3) : Nat := if q.2.2 = 4 then 1 else lbW b q
theorem lb_vl {n : Nat} {b : Nat → Nat} {q : tk3} (h : tIs n b q) (hk : q.2.2 = 1 ∨ q.2.2 = 4) : vl (lb b q) ∧ ¬ lb b q = 0 := by
  unfold lb
  by_cases c : q.2.2 = 4
  · rw [if_pos c]; exact ⟨Or.inl (by omega), by omega⟩
  · rw [if_neg c]
    obtain ⟨a, ha⟩ := h
    have g := adv_r ha
    have k1 : q.2.2 = 1 := by omega
    obtain ⟨⟨v1, v2⟩, v3, v4, v5⟩ := lbW_v (g.2.2.2.2.2.2.1 k1) (by have := g.2.2.2.2.2.1; omega)
    exact ⟨Or.inr ⟨_, _, _, v1, v2, v3, v4, v5, rfl⟩, by unfold lbW; omega⟩
/-- a name, from its first token on -/
def rNm (n : Nat) (b : Nat → Nat) : Nat → List Nat → tk3 → (zF ⊕ (Nat × tk3)) → Prop
  | 0, ws, q, r => pif (q.2.2 = 1 ∨ q.2.2 = 4) (r = .inl (3, q.1)) (r = .inl (2, q.1))
  | j + 1, ws, q, r => pif (q.2.2 = 1 ∨ q.2.2 = 4) (pif (3 < q.2.1 - q.1) (r = .inl (3, q.1)) (∃ r1, adv n b q.2.1 r1 ∧ match r1 with
    | .inl f => r = .inl f
    | .inr q1 => pif (q1.2.2 = 3) (∃ r2, adv n b q1.2.1 r2 ∧ match r2 with
      | .inl f => r = .inl f
      | .inr q2 => rNm n b j (lb b q :: ws) q2 r) (r = .inr (nOf (lb b q :: ws), q1)))) (r = .inl (2, q.1))
def rName (n : Nat) (b : Nat → Nat) (a : Nat) (r : zF ⊕ (Nat × tk3)) : Prop := ∃ r0, adv n b a r0 ∧ match r0 with
  | .inl f => r = .inl f
  | .inr q0 => pif (q0.2.2 = 3) (∃ r2, adv n b q0.2.1 r2 ∧ match r2 with
    | .inl f => r = .inl f
    | .inr q2 => r = .inr (0, q2)) (rNm n b 4 [] q0 r)
def nOut (n : Nat) (b : Nat → Nat) (X' : Nat → Nat → Int32) (Y' : Nat → Nat → Int64) (r : Option Value) : zF ⊕ (Nat × tk3) → Prop
  | .inl f => r = some (.int 0) ∧ X' 1 4 = f.1 ∧ X' 1 5 = nI f.2
  | .inr g => r = some (.int 1) ∧ qT X' g.2 ∧ tIs n b g.2 ∧ Y' 1 10 = lN g.1 ∧ vn g.1
theorem c_nameL {d : Nat} {I X0 : Nat → Nat → Int32} {J Y0 : Nat → Nat → Int64} {P : Nat → Nat} {n : Nat} {b : Nat → Nat} (hT : tpe I n b) {Z : zF ⊕ (Nat × tk3) → Prop} : ∀ j ws q k, ws.length + j = 4 → k + j = 4 → ∀ (X : Nat → Nat → Int32) (Y : Nat → Nat → Int64), qT X q → tIs n b q → Y 1 10 = lN (nOf ws) → vws ws → uFr X0 X → (∀ a, ¬ a = 1 → Y a = Y0 a) → (∀ r, rNm n b j ws q r → Z r) → gT (d + 3) 73 29 [(1, .int (nI k)), (0, .ref 1)] [] (0, 0) (gST (uM I X) (uJ J Y) P) (fun r u => ∃ rr X' Y', Z rr ∧ u = gST (uM I X') (uJ J Y') P ∧ uFr X0 X' ∧ (∀ a, ¬ a = 1 → Y' a = Y0 a) ∧ nOut n b X' Y' r rr) := by
  have hn2 := hT.2.1
  intro j
  induction j with
  | zero =>
    intro ws q k hlw hkj X Y hq hta hY hvw hfx hfy hZ
    obtain ⟨aq, hadv⟩ := hta
    obtain ⟨r1, r2, r3, r4, r5, r6, r7, r8⟩ := adv_r hadv
    have hta : tIs n b q := ⟨aq, hadv⟩
    refine gT_n 3 ?_
    refine pk_lt 4 k (fun κ1 => ?_) (fun κ1 => ?_) (rfl) (rfl) (by omega) (by omega)
    · refine gT_n 2 ?_
      refine ⟨(Or.inl rfl), ?_⟩
      exact absurd hkj (by omega)
    · refine gT_n 4 ?_
      refine ⟨rfl, pk_eq q.2.2 1 (fun κ2 => ?_) (fun κ2 => ?_) (hq.2.1) (rfl) (by omega) (by omega)⟩
      · refine gT_n 3 ?_
        refine pk_eq k 4 (fun κ3 => ?_) (fun κ3 => ?_) (rfl) (rfl) (by omega) (by omega)
        · refine gT_n 5 ?_
          refine ⟨rfl, rfl, rfl, gTM.useA (c_fail (c := 3) (p := q.1)) (Nat.le_refl _) (aR (aI (rfl) (aI (hq.2.2.1) (rfl)))) (fun r u hq => ?_)⟩
          obtain ⟨rfl, rfl⟩ := hq  -- X6_fail[R1, K3, nI q.1]
          refine gT_n 1 ?_
          refine ⟨(Or.inl rfl), ?_⟩
          exact ⟨.inl (3, q.1), _, Y, hZ _ ((pif_pos (by omega)).mpr rfl), rfl, uFr_f hfx, hfy, rfl, rfl, rfl⟩
        · exact absurd hkj (by omega)
      · refine gT_n 4 ?_
        refine ⟨rfl, pk_eq q.2.2 4 (fun κ4 => ?_) (fun κ4 => ?_) (hq.2.1) (rfl) (by omega) (by omega)⟩
        · refine gT_n 3 ?_
          refine pk_eq k 4 (fun κ5 => ?_) (fun κ5 => ?_) (rfl) (rfl) (by omega) (by omega)
          · refine gT_n 5 ?_
            refine ⟨rfl, rfl, rfl, gTM.useA (c_fail (c := 3) (p := q.1)) (Nat.le_refl _) (aR (aI (rfl) (aI (hq.2.2.1) (rfl)))) (fun r u hq => ?_)⟩
            obtain ⟨rfl, rfl⟩ := hq  -- X6_fail[R1, K3, nI q.1]
            refine gT_n 1 ?_
            refine ⟨(Or.inl rfl), ?_⟩
            exact ⟨.inl (3, q.1), _, Y, hZ _ ((pif_pos (by omega)).mpr rfl), rfl, uFr_f hfx, hfy, rfl, rfl, rfl⟩
          · exact absurd hkj (by omega)
        · refine gT_n 5 ?_
          refine ⟨rfl, rfl, rfl, gTM.useA (c_fail (c := 2) (p := q.1)) (Nat.le_refl _) (aR (aI (rfl) (aI (hq.2.2.1) (rfl)))) (fun r u hq => ?_)⟩
          obtain ⟨rfl, rfl⟩ := hq  -- X6_fail[R1, K2, nI q.1]
          refine gT_n 1 ?_
          refine ⟨(Or.inl rfl), ?_⟩
          exact ⟨.inl (2, q.1), _, Y, hZ _ ((pif_neg (by omega)).mpr rfl), rfl, uFr_f hfx, hfy, rfl, rfl, rfl⟩
  | succ j ih =>
    intro ws q k hlw hkj X Y hq hta hY hvw hfx hfy hZ
    obtain ⟨aq, hadv⟩ := hta
    obtain ⟨r1, r2, r3, r4, r5, r6, r7, r8⟩ := adv_r hadv
    have hta : tIs n b q := ⟨aq, hadv⟩
    by_cases hk14 : q.2.2 = 1 ∨ q.2.2 = 4
    · have hlb := lb_vl hta hk14
      have hlt := vl_lt hlb.1
      have hvw2 : vws (lb b q :: ws) := fun x hx => by
        rcases List.mem_cons.mp hx with e | e
        · rw [e]; exact hlb
        · exact hvw x e
      have hah := nOf_hd (x := lb b q) hvw (by omega)
      by_cases hk4 : q.2.2 = 4
      · have elb : lb b q = 1 := if_pos hk4
        have hah : ahv 1 (nOf ws) = nOf (lb b q :: ws) := by rw [← hah, elb]
        refine gT_n 3 ?_
        refine pk_lt 4 k (fun κ1 => ?_) (fun κ1 => ?_) (rfl) (rfl) (by omega) (by omega)
        · refine gT_n 2 ?_
          refine ⟨(Or.inl rfl), ?_⟩
          exact absurd hkj (by omega)
        · refine gT_n 4 ?_
          refine ⟨rfl, pk_eq q.2.2 1 (fun κ2 => ?_) (fun κ2 => ?_) (hq.2.1) (rfl) (by omega) (by omega)⟩
          · refine gT_n 3 ?_
            refine pk_eq k 4 (fun κ3 => ?_) (fun κ3 => ?_) (rfl) (rfl) (by omega) (by omega)
            · refine gT_n 5 ?_
              refine ⟨rfl, rfl, rfl, gTM.useA (c_fail (c := 3) (p := q.1)) (Nat.le_refl _) (aR (aI (rfl) (aI (hq.2.2.1) (rfl)))) (fun r u hq => ?_)⟩
              obtain ⟨rfl, rfl⟩ := hq  -- X6_fail[R1, K3, nI q.1]
              refine gT_n 1 ?_
              refine ⟨(Or.inl rfl), ?_⟩
              exact ⟨.inl (3, q.1), _, Y, hZ _ ((pif_pos (by omega)).mpr ((pif_pos (by omega)).mpr rfl)), rfl, uFr_f hfx, hfy, rfl, rfl, rfl⟩
            · refine gT_n 7 ?_
              refine ⟨rfl, rfl, pk_le (q.2.1 - q.1) 3 (fun κ4 => ?_) (fun κ4 => ?_) (pk_subE (n := q.2.1) (k := q.1) (hq.1) (hq.2.2.1) (by omega)) (rfl) (by omega) (by omega)⟩
              · refine gT_n 5 ?_
                refine ⟨rfl, pk_ne q.2.2 4 (fun κ5 => ?_) (fun κ5 => ?_) (hq.2.1) (rfl) (by omega) (by omega)⟩
                · exact absurd hk4 (by assumption)
                · refine gT_n 5 ?_
                  refine ⟨rfl, rfl, gTM.useA (c_aheadN (x := 1) (m := nOf ws) (by omega) (nOf_lt hvw)) (Nat.le_refl _) (aI (rfl) (aL (hY) (rfl))) (fun r u hq => ?_)⟩
                  obtain ⟨rfl, rfl⟩ := hq  -- X6_ahead[K1, lN ((nOf ws))]
                  refine gT_n 1 ?_
                  refine ⟨rfl, ?_⟩
                  refine gT_uL (b := 1) rfl (X := (lN ((nOf (lb b q :: ws))))) ((congrArg lN hah)) ?_
                  refine gT_n 2 ?_
                  refine ⟨rfl, rfl, gTM.use (c_advanceB hT r3 hq.1 hq.2.2.2) (Nat.le_refl _) (fun r u hq => ?_)⟩
                  obtain ⟨f, X1, hra, rfl, rfl, hf1, ho⟩ | ⟨q1, X1, hra, rfl, rfl, hf1, ho⟩ := hq  -- X6_advance[R1]
                  · refine gT_n 1 ?_
                    refine ⟨fun c => absurd (by decide) c, fun _ => ?_⟩
                    refine gT_n 2 ?_
                    refine ⟨(Or.inl rfl), ?_⟩
                    exact ⟨.inl f, X1, _, hZ _ ((pif_pos hk14).mpr ((pif_neg (by omega)).mpr ⟨_, hra, rfl⟩)), rfl, uFr_T hfx hf1, fun a ha => (gupL_n ha).trans (hfy a ha), rfl, ho⟩
                  · refine gT_n 1 ?_
                    refine ⟨fun _ => ?_, fun c => absurd c (by decide)⟩
                    refine gT_n 4 ?_
                    refine ⟨rfl, pk_eq q1.2.2 3 (fun κ6 => ?_) (fun κ6 => ?_) (ho.2.1) (rfl) (by have := (adv_r hra).2.2.2.1; omega) (by omega)⟩
                    · refine gT_n 2 ?_
                      refine ⟨rfl, rfl, gTM.use (c_advanceB hT (adv_r hra).2.2.1 ho.1 ho.2.2.2) (Nat.le_refl _) (fun r u hq => ?_)⟩
                      obtain ⟨f, X2, hrb, rfl, rfl, hf2, ho2⟩ | ⟨q2, X2, hrb, rfl, rfl, hf2, ho2⟩ := hq  -- X6_advance[R1]
                      · refine gT_n 1 ?_
                        refine ⟨fun c => absurd (by decide) c, fun _ => ?_⟩
                        refine gT_n 2 ?_
                        refine ⟨(Or.inl rfl), ?_⟩
                        exact ⟨.inl f, X2, _, hZ _ ((pif_pos hk14).mpr ((pif_neg (by omega)).mpr ⟨_, hra, (pif_pos κ6).mpr ⟨_, hrb, rfl⟩⟩)), rfl, uFr_T (uFr_T hfx hf1) hf2, fun a ha => (gupL_n ha).trans (hfy a ha), rfl, ho2⟩
                      · refine gT_n 1 ?_
                        refine ⟨fun _ => ?_, fun c => absurd c (by decide)⟩
                        refine gT_n 2 ?_
                        have e := ih (lb b q :: ws) q2 (k + 1) (by simp only [List.length_cons]; omega) (by omega) X2 (gupL Y 1 10 (lN (nOf (lb b q :: ws)))) ho2 ⟨_, hrb⟩ (by rw [gupL_b]; exact updL_at) hvw2 (uFr_T (uFr_T hfx hf1) hf2) (fun a ha => (gupL_n ha).trans (hfy a ha)) (fun r h => hZ r ((pif_pos hk14).mpr ((pif_neg (by omega)).mpr ⟨_, hra, (pif_pos κ6).mpr ⟨_, hrb, h⟩⟩)))
                        rw [← nI_1 k] at e
                        exact gT_k e ⟨rfl, rfl, trivial⟩ rfl
                    · refine gT_n 2 ?_
                      refine ⟨(Or.inr rfl), ?_⟩
                      exact ⟨.inr (nOf (lb b q :: ws), q1), X1, _, hZ _ ((pif_pos hk14).mpr ((pif_neg (by omega)).mpr ⟨_, hra, (pif_neg κ6).mpr rfl⟩)), rfl, uFr_T hfx hf1, fun a ha => (gupL_n ha).trans (hfy a ha), rfl, ho, ⟨_, hra⟩, (by rw [gupL_b]; exact updL_at), nOf_vn hvw2⟩
              · refine gT_n 5 ?_
                refine ⟨rfl, rfl, rfl, gTM.useA (c_fail (c := 3) (p := q.1)) (Nat.le_refl _) (aR (aI (rfl) (aI (hq.2.2.1) (rfl)))) (fun r u hq => ?_)⟩
                obtain ⟨rfl, rfl⟩ := hq  -- X6_fail[R1, K3, nI q.1]
                refine gT_n 1 ?_
                refine ⟨(Or.inl rfl), ?_⟩
                exact ⟨.inl (3, q.1), _, Y, hZ _ ((pif_pos (by omega)).mpr ((pif_pos (by omega)).mpr rfl)), rfl, uFr_f hfx, hfy, rfl, rfl, rfl⟩
          · refine gT_n 4 ?_
            refine ⟨rfl, pk_eq q.2.2 4 (fun κ7 => ?_) (fun κ7 => ?_) (hq.2.1) (rfl) (by omega) (by omega)⟩
            · refine gT_n 3 ?_
              refine pk_eq k 4 (fun κ8 => ?_) (fun κ8 => ?_) (rfl) (rfl) (by omega) (by omega)
              · refine gT_n 5 ?_
                refine ⟨rfl, rfl, rfl, gTM.useA (c_fail (c := 3) (p := q.1)) (Nat.le_refl _) (aR (aI (rfl) (aI (hq.2.2.1) (rfl)))) (fun r u hq => ?_)⟩
                obtain ⟨rfl, rfl⟩ := hq  -- X6_fail[R1, K3, nI q.1]
                refine gT_n 1 ?_
                refine ⟨(Or.inl rfl), ?_⟩
                exact ⟨.inl (3, q.1), _, Y, hZ _ ((pif_pos (by omega)).mpr ((pif_pos (by omega)).mpr rfl)), rfl, uFr_f hfx, hfy, rfl, rfl, rfl⟩
              · refine gT_n 7 ?_
                refine ⟨rfl, rfl, pk_le (q.2.1 - q.1) 3 (fun κ9 => ?_) (fun κ9 => ?_) (pk_subE (n := q.2.1) (k := q.1) (hq.1) (hq.2.2.1) (by omega)) (rfl) (by omega) (by omega)⟩
                · refine gT_n 5 ?_
                  refine ⟨rfl, pk_ne q.2.2 4 (fun c => by first | exact absurd κ7 c | exact absurd c κ7 | (exfalso; omega)) (fun _ => ?_) (hq.2.1) (rfl) (by omega) (by omega)⟩
                  refine gT_n 5 ?_
                  refine ⟨rfl, rfl, gTM.useA (c_aheadN (x := 1) (m := nOf ws) (by omega) (nOf_lt hvw)) (Nat.le_refl _) (aI (rfl) (aL (hY) (rfl))) (fun r u hq => ?_)⟩
                  obtain ⟨rfl, rfl⟩ := hq  -- X6_ahead[K1, lN ((nOf ws))]
                  refine gT_n 1 ?_
                  refine ⟨rfl, ?_⟩
                  refine gT_uL (b := 1) rfl (X := (lN ((nOf (lb b q :: ws))))) ((congrArg lN hah)) ?_
                  refine gT_n 2 ?_
                  refine ⟨rfl, rfl, gTM.use (c_advanceB hT r3 hq.1 hq.2.2.2) (Nat.le_refl _) (fun r u hq => ?_)⟩
                  obtain ⟨f, X1, hra, rfl, rfl, hf1, ho⟩ | ⟨q1, X1, hra, rfl, rfl, hf1, ho⟩ := hq  -- X6_advance[R1]
                  · refine gT_n 1 ?_
                    refine ⟨fun c => absurd (by decide) c, fun _ => ?_⟩
                    refine gT_n 2 ?_
                    refine ⟨(Or.inl rfl), ?_⟩
                    exact ⟨.inl f, X1, _, hZ _ ((pif_pos hk14).mpr ((pif_neg (by omega)).mpr ⟨_, hra, rfl⟩)), rfl, uFr_T hfx hf1, fun a ha => (gupL_n ha).trans (hfy a ha), rfl, ho⟩
                  · refine gT_n 1 ?_
                    refine ⟨fun _ => ?_, fun c => absurd c (by decide)⟩
                    refine gT_n 4 ?_
                    refine ⟨rfl, pk_eq q1.2.2 3 (fun κ10 => ?_) (fun κ10 => ?_) (ho.2.1) (rfl) (by have := (adv_r hra).2.2.2.1; omega) (by omega)⟩
                    · refine gT_n 2 ?_
                      refine ⟨rfl, rfl, gTM.use (c_advanceB hT (adv_r hra).2.2.1 ho.1 ho.2.2.2) (Nat.le_refl _) (fun r u hq => ?_)⟩
                      obtain ⟨f, X2, hrb, rfl, rfl, hf2, ho2⟩ | ⟨q2, X2, hrb, rfl, rfl, hf2, ho2⟩ := hq  -- X6_advance[R1]
                      · refine gT_n 1 ?_
                        refine ⟨fun c => absurd (by decide) c, fun _ => ?_⟩
                        refine gT_n 2 ?_
                        refine ⟨(Or.inl rfl), ?_⟩
                        exact ⟨.inl f, X2, _, hZ _ ((pif_pos hk14).mpr ((pif_neg (by omega)).mpr ⟨_, hra, (pif_pos κ10).mpr ⟨_, hrb, rfl⟩⟩)), rfl, uFr_T (uFr_T hfx hf1) hf2, fun a ha => (gupL_n ha).trans (hfy a ha), rfl, ho2⟩
                      · refine gT_n 1 ?_
                        refine ⟨fun _ => ?_, fun c => absurd c (by decide)⟩
                        refine gT_n 2 ?_
                        have e := ih (lb b q :: ws) q2 (k + 1) (by simp only [List.length_cons]; omega) (by omega) X2 (gupL Y 1 10 (lN (nOf (lb b q :: ws)))) ho2 ⟨_, hrb⟩ (by rw [gupL_b]; exact updL_at) hvw2 (uFr_T (uFr_T hfx hf1) hf2) (fun a ha => (gupL_n ha).trans (hfy a ha)) (fun r h => hZ r ((pif_pos hk14).mpr ((pif_neg (by omega)).mpr ⟨_, hra, (pif_pos κ10).mpr ⟨_, hrb, h⟩⟩)))
                        rw [← nI_1 k] at e
                        exact gT_k e ⟨rfl, rfl, trivial⟩ rfl
                    · refine gT_n 2 ?_
                      refine ⟨(Or.inr rfl), ?_⟩
                      exact ⟨.inr (nOf (lb b q :: ws), q1), X1, _, hZ _ ((pif_pos hk14).mpr ((pif_neg (by omega)).mpr ⟨_, hra, (pif_neg κ10).mpr rfl⟩)), rfl, uFr_T hfx hf1, fun a ha => (gupL_n ha).trans (hfy a ha), rfl, ho, ⟨_, hra⟩, (by rw [gupL_b]; exact updL_at), nOf_vn hvw2⟩
                · refine gT_n 5 ?_
                  refine ⟨rfl, rfl, rfl, gTM.useA (c_fail (c := 3) (p := q.1)) (Nat.le_refl _) (aR (aI (rfl) (aI (hq.2.2.1) (rfl)))) (fun r u hq => ?_)⟩
                  obtain ⟨rfl, rfl⟩ := hq  -- X6_fail[R1, K3, nI q.1]
                  refine gT_n 1 ?_
                  refine ⟨(Or.inl rfl), ?_⟩
                  exact ⟨.inl (3, q.1), _, Y, hZ _ ((pif_pos (by omega)).mpr ((pif_pos (by omega)).mpr rfl)), rfl, uFr_f hfx, hfy, rfl, rfl, rfl⟩
            · exact absurd hk14 (by omega)
      · have elb : lb b q = lbW b q := if_neg hk4
        have hah : ahv (lbW b q) (nOf ws) = nOf (lb b q :: ws) := by rw [← hah, elb]
        rw [elb] at hlt
        refine gT_n 3 ?_
        refine pk_lt 4 k (fun κ1 => ?_) (fun κ1 => ?_) (rfl) (rfl) (by omega) (by omega)
        · refine gT_n 2 ?_
          refine ⟨(Or.inl rfl), ?_⟩
          exact absurd hkj (by omega)
        · refine gT_n 4 ?_
          refine ⟨rfl, pk_eq q.2.2 1 (fun κ2 => ?_) (fun κ2 => ?_) (hq.2.1) (rfl) (by omega) (by omega)⟩
          · refine gT_n 3 ?_
            refine pk_eq k 4 (fun κ3 => ?_) (fun κ3 => ?_) (rfl) (rfl) (by omega) (by omega)
            · refine gT_n 5 ?_
              refine ⟨rfl, rfl, rfl, gTM.useA (c_fail (c := 3) (p := q.1)) (Nat.le_refl _) (aR (aI (rfl) (aI (hq.2.2.1) (rfl)))) (fun r u hq => ?_)⟩
              obtain ⟨rfl, rfl⟩ := hq  -- X6_fail[R1, K3, nI q.1]
              refine gT_n 1 ?_
              refine ⟨(Or.inl rfl), ?_⟩
              exact ⟨.inl (3, q.1), _, Y, hZ _ ((pif_pos (by omega)).mpr ((pif_pos (by omega)).mpr rfl)), rfl, uFr_f hfx, hfy, rfl, rfl, rfl⟩
            · refine gT_n 7 ?_
              refine ⟨rfl, rfl, pk_le (q.2.1 - q.1) 3 (fun κ4 => ?_) (fun κ4 => ?_) (pk_subE (n := q.2.1) (k := q.1) (hq.1) (hq.2.2.1) (by omega)) (rfl) (by omega) (by omega)⟩
              · refine gT_n 5 ?_
                refine ⟨rfl, pk_ne q.2.2 4 (fun κ5 => ?_) (fun κ5 => ?_) (hq.2.1) (rfl) (by omega) (by omega)⟩
                · refine gT_n 2 ?_
                  refine ⟨rfl, rfl, gTM.use (c_labelR hT hta hq (by omega)) (Nat.le_refl _) (fun r u hq => ?_)⟩
                  obtain ⟨rfl, rfl⟩ := hq  -- X6_labelRead[R1]
                  refine gT_n 3 ?_
                  refine ⟨rfl, rfl, gTM.useA (c_aheadN (x := lbW b q) (m := nOf ws) (by omega) (nOf_lt hvw)) (Nat.le_refl _) (aI (rfl) (aL (hY) (rfl))) (fun r u hq => ?_)⟩
                  obtain ⟨rfl, rfl⟩ := hq  -- X6_ahead[nI ((lbW b q)), lN ((nOf ws))]
                  refine gT_n 1 ?_
                  refine ⟨rfl, ?_⟩
                  refine gT_uL (b := 1) rfl (X := (lN ((nOf (lb b q :: ws))))) ((congrArg lN hah)) ?_
                  refine gT_n 2 ?_
                  refine ⟨rfl, rfl, gTM.use (c_advanceB hT r3 hq.1 hq.2.2.2) (Nat.le_refl _) (fun r u hq => ?_)⟩
                  obtain ⟨f, X1, hra, rfl, rfl, hf1, ho⟩ | ⟨q1, X1, hra, rfl, rfl, hf1, ho⟩ := hq  -- X6_advance[R1]
                  · refine gT_n 1 ?_
                    refine ⟨fun c => absurd (by decide) c, fun _ => ?_⟩
                    refine gT_n 2 ?_
                    refine ⟨(Or.inl rfl), ?_⟩
                    exact ⟨.inl f, X1, _, hZ _ ((pif_pos hk14).mpr ((pif_neg (by omega)).mpr ⟨_, hra, rfl⟩)), rfl, uFr_T hfx hf1, fun a ha => (gupL_n ha).trans (hfy a ha), rfl, ho⟩
                  · refine gT_n 1 ?_
                    refine ⟨fun _ => ?_, fun c => absurd c (by decide)⟩
                    refine gT_n 4 ?_
                    refine ⟨rfl, pk_eq q1.2.2 3 (fun κ6 => ?_) (fun κ6 => ?_) (ho.2.1) (rfl) (by have := (adv_r hra).2.2.2.1; omega) (by omega)⟩
                    · refine gT_n 2 ?_
                      refine ⟨rfl, rfl, gTM.use (c_advanceB hT (adv_r hra).2.2.1 ho.1 ho.2.2.2) (Nat.le_refl _) (fun r u hq => ?_)⟩
                      obtain ⟨f, X2, hrb, rfl, rfl, hf2, ho2⟩ | ⟨q2, X2, hrb, rfl, rfl, hf2, ho2⟩ := hq  -- X6_advance[R1]
                      · refine gT_n 1 ?_
                        refine ⟨fun c => absurd (by decide) c, fun _ => ?_⟩
                        refine gT_n 2 ?_
                        refine ⟨(Or.inl rfl), ?_⟩
                        exact ⟨.inl f, X2, _, hZ _ ((pif_pos hk14).mpr ((pif_neg (by omega)).mpr ⟨_, hra, (pif_pos κ6).mpr ⟨_, hrb, rfl⟩⟩)), rfl, uFr_T (uFr_T hfx hf1) hf2, fun a ha => (gupL_n ha).trans (hfy a ha), rfl, ho2⟩
                      · refine gT_n 1 ?_
                        refine ⟨fun _ => ?_, fun c => absurd c (by decide)⟩
                        refine gT_n 2 ?_
                        have e := ih (lb b q :: ws) q2 (k + 1) (by simp only [List.length_cons]; omega) (by omega) X2 (gupL Y 1 10 (lN (nOf (lb b q :: ws)))) ho2 ⟨_, hrb⟩ (by rw [gupL_b]; exact updL_at) hvw2 (uFr_T (uFr_T hfx hf1) hf2) (fun a ha => (gupL_n ha).trans (hfy a ha)) (fun r h => hZ r ((pif_pos hk14).mpr ((pif_neg (by omega)).mpr ⟨_, hra, (pif_pos κ6).mpr ⟨_, hrb, h⟩⟩)))
                        rw [← nI_1 k] at e
                        exact gT_k e ⟨rfl, rfl, trivial⟩ rfl
                    · refine gT_n 2 ?_
                      refine ⟨(Or.inr rfl), ?_⟩
                      exact ⟨.inr (nOf (lb b q :: ws), q1), X1, _, hZ _ ((pif_pos hk14).mpr ((pif_neg (by omega)).mpr ⟨_, hra, (pif_neg κ6).mpr rfl⟩)), rfl, uFr_T hfx hf1, fun a ha => (gupL_n ha).trans (hfy a ha), rfl, ho, ⟨_, hra⟩, (by rw [gupL_b]; exact updL_at), nOf_vn hvw2⟩
                · exact absurd (by assumption) hk4
              · refine gT_n 5 ?_
                refine ⟨rfl, rfl, rfl, gTM.useA (c_fail (c := 3) (p := q.1)) (Nat.le_refl _) (aR (aI (rfl) (aI (hq.2.2.1) (rfl)))) (fun r u hq => ?_)⟩
                obtain ⟨rfl, rfl⟩ := hq  -- X6_fail[R1, K3, nI q.1]
                refine gT_n 1 ?_
                refine ⟨(Or.inl rfl), ?_⟩
                exact ⟨.inl (3, q.1), _, Y, hZ _ ((pif_pos (by omega)).mpr ((pif_pos (by omega)).mpr rfl)), rfl, uFr_f hfx, hfy, rfl, rfl, rfl⟩
          · refine gT_n 4 ?_
            refine ⟨rfl, pk_eq q.2.2 4 (fun κ7 => ?_) (fun κ7 => ?_) (hq.2.1) (rfl) (by omega) (by omega)⟩
            · refine gT_n 3 ?_
              refine pk_eq k 4 (fun κ8 => ?_) (fun κ8 => ?_) (rfl) (rfl) (by omega) (by omega)
              · refine gT_n 5 ?_
                refine ⟨rfl, rfl, rfl, gTM.useA (c_fail (c := 3) (p := q.1)) (Nat.le_refl _) (aR (aI (rfl) (aI (hq.2.2.1) (rfl)))) (fun r u hq => ?_)⟩
                obtain ⟨rfl, rfl⟩ := hq  -- X6_fail[R1, K3, nI q.1]
                refine gT_n 1 ?_
                refine ⟨(Or.inl rfl), ?_⟩
                exact ⟨.inl (3, q.1), _, Y, hZ _ ((pif_pos (by omega)).mpr ((pif_pos (by omega)).mpr rfl)), rfl, uFr_f hfx, hfy, rfl, rfl, rfl⟩
              · refine gT_n 7 ?_
                refine ⟨rfl, rfl, pk_le (q.2.1 - q.1) 3 (fun κ9 => ?_) (fun κ9 => ?_) (pk_subE (n := q.2.1) (k := q.1) (hq.1) (hq.2.2.1) (by omega)) (rfl) (by omega) (by omega)⟩
                · refine gT_n 5 ?_
                  refine ⟨rfl, pk_ne q.2.2 4 (fun c => by first | exact absurd κ7 c | exact absurd c κ7 | (exfalso; omega)) (fun _ => ?_) (hq.2.1) (rfl) (by omega) (by omega)⟩
                  exact absurd (by assumption) hk4
                · refine gT_n 5 ?_
                  refine ⟨rfl, rfl, rfl, gTM.useA (c_fail (c := 3) (p := q.1)) (Nat.le_refl _) (aR (aI (rfl) (aI (hq.2.2.1) (rfl)))) (fun r u hq => ?_)⟩
                  obtain ⟨rfl, rfl⟩ := hq  -- X6_fail[R1, K3, nI q.1]
                  refine gT_n 1 ?_
                  refine ⟨(Or.inl rfl), ?_⟩
                  exact ⟨.inl (3, q.1), _, Y, hZ _ ((pif_pos (by omega)).mpr ((pif_pos (by omega)).mpr rfl)), rfl, uFr_f hfx, hfy, rfl, rfl, rfl⟩
            · exact absurd hk14 (by omega)
    · refine gT_n 3 ?_
      refine pk_lt 4 k (fun κ1 => ?_) (fun κ1 => ?_) (rfl) (rfl) (by omega) (by omega)
      · refine gT_n 2 ?_
        refine ⟨(Or.inl rfl), ?_⟩
        exact absurd hkj (by omega)
      · refine gT_n 4 ?_
        refine ⟨rfl, pk_eq q.2.2 1 (fun κ2 => ?_) (fun κ2 => ?_) (hq.2.1) (rfl) (by omega) (by omega)⟩
        · exact absurd (by omega) hk14
        · refine gT_n 4 ?_
          refine ⟨rfl, pk_eq q.2.2 4 (fun κ3 => ?_) (fun κ3 => ?_) (hq.2.1) (rfl) (by omega) (by omega)⟩
          · exact absurd (by omega) hk14
          · refine gT_n 5 ?_
            refine ⟨rfl, rfl, rfl, gTM.useA (c_fail (c := 2) (p := q.1)) (Nat.le_refl _) (aR (aI (rfl) (aI (hq.2.2.1) (rfl)))) (fun r u hq => ?_)⟩
            obtain ⟨rfl, rfl⟩ := hq  -- X6_fail[R1, K2, nI q.1]
            refine gT_n 1 ?_
            refine ⟨(Or.inl rfl), ?_⟩
            exact ⟨.inl (2, q.1), _, Y, hZ _ ((pif_neg hk14).mpr rfl), rfl, uFr_f hfx, hfy, rfl, rfl, rfl⟩
