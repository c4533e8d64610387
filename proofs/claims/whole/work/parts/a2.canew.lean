/-! started anew: the class -/
section
variable {V I' : Nat → Nat → Int32} {Y J' : Nat → Nat → Int64} {P : Nat → Nat} {b d y pc f : Nat} {L : gL} {st : List Value} {cu : Nat × Nat} {Q : Option Value → gW → Prop}
theorem gT_gp {x X : Int32} (ev : x = X) (g : gT d y pc L st cu (gST (gupI V b f X) J' P) Q) : gT d y pc L st cu ((gST V J' P).1, gupI (gST V J' P).2.1 b f x, (gST V J' P).2.2) Q := by
  subst ev; exact g
theorem gT_ga {n : Nat} {T x X : Int32} (e : T = nI n) (hk : n < 2 ^ 31) (ev : x = X) (g : gT d y pc L st cu (gST (gupI V b n X) J' P) Q) : gT d y pc L st cu ((gST V J' P).1, gupI (gST V J' P).2.1 b T.toNatClampNeg x, (gST V J' P).2.2) Q := by
  subst ev
  rw [e, nI_clamp hk]; exact g
theorem gT_gl {x X : Int64} (ev : x = X) (g : gT d y pc L st cu (gST I' (gupL Y b f X) P) Q) : gT d y pc L st cu ((gST I' Y P).1, (gST I' Y P).2.1, gupL (gST I' Y P).2.2.1 b f x, (gST I' Y P).2.2.2) Q := by
  subst ev; exact g
theorem gT_gn {n : Nat} {T : Int32} {x X : Int64} (e : T = nI n) (hk : n < 2 ^ 31) (ev : x = X) (g : gT d y pc L st cu (gST I' (gupL Y b n X) P) Q) : gT d y pc L st cu ((gST I' Y P).1, (gST I' Y P).2.1, gupL (gST I' Y P).2.2.1 b T.toNatClampNeg x, (gST I' Y P).2.2.2) Q := by
  subst ev
  rw [e, nI_clamp hk]; exact g
end
theorem c_rcopy_18_8 {d n : Nat} {I : Nat → Nat → Int32} {J : Nat → Nat → Int64} {P : Nat → Nat} (hn : I 8 3 = nI n) (h24 : n ≤ 24) : gTM d 82 [.ref 18, .ref 8] (gST I J P) (fun r u => r = none ∧ u = gST (m2 (gupI I 18 3 (nI n)) 20 (cpr (I 10) (I 20) n) 21 (cpr (I 11) (I 21) n)) (m1 J 19 (cpr (J 9) (J 19) n)) P) := by
  have loop : ∀ i, i ≤ n → gT d 82 10 [(2, .int (nI i)), (0, .ref 18), (1, .ref 8)] [] (0, 0) (gST (m2 (gupI I 18 3 (nI n)) 20 (cpr (I 10) (I 20) i) 21 (cpr (I 11) (I 21) i)) (m1 J 19 (cpr (J 9) (J 19) i)) P) (fun r u => r = none ∧ u = gST (m2 (gupI I 18 3 (nI n)) 20 (cpr (I 10) (I 20) n) 21 (cpr (I 11) (I 21) n)) (m1 J 19 (cpr (J 9) (J 19) n)) P) := by
    refine loopU n (fun i hi ih => ?_)
    refine gT_n 4 ?_
    refine ⟨rfl, pk_le n i (fun κ1 => ?_) (fun κ1 => ?_) (rfl) (rfl) (by omega) (by omega)⟩
    · refine gT_n 1 ?_
      refine ⟨rfl, ?_⟩
      obtain rfl : i = n := by omega
      exact ⟨rfl, rfl⟩
    · refine gT_n 8 ?_
      refine ⟨rfl, rfl, rfl, (pk_in i 24 (by omega) (rfl)), rfl, (pk_in i 24 (by omega) (rfl)), ?_⟩
      refine gT_ivL (n := i) (X := (J 9 i)) (rfl) (by omega) ((rdJ (rfl) (by omega) rfl)) ?_
      refine gT_n 8 ?_
      refine ⟨rfl, rfl, rfl, (pk_in i 24 (by omega) (rfl)), rfl, (pk_in i 24 (by omega) (rfl)), ?_⟩
      refine gT_iv (n := i) (X := (I 10 i)) (rfl) (by omega) ((rdI (rfl) (by omega) rfl)) ?_
      refine gT_n 8 ?_
      refine ⟨rfl, rfl, rfl, (pk_in i 24 (by omega) (rfl)), rfl, (pk_in i 24 (by omega) (rfl)), ?_⟩
      refine gT_iv (n := i) (X := (I 11 i)) (rfl) (by omega) ((rdI (rfl) (by omega) rfl)) ?_
      refine gT_n 2 ?_
      refine gT_m (w' := gST (m2 (gupI I 18 3 (nI n)) 20 (cpr (I 10) (I 20) (i + 1)) 21 (cpr (I 11) (I 21) (i + 1))) (m1 J 19 (cpr (J 9) (J 19) (i + 1))) P) ?_ ?_
      · show (SH, gupI (gupI (m2 (gupI I 18 3 (nI n)) 20 (cpr (I 10) (I 20) i) 21 (cpr (I 11) (I 21) i)) 20 i (I 10 i)) 21 i (I 11 i), gupL (m1 J 19 (cpr (J 9) (J 19) i)) 19 i (J 9 i), gRf P) = gST _ _ P
        rw [gup_m2a, gup_m2b (by decide), gup_m1L, cpr_upd, cpr_upd, cpr_updL]; rfl
      have e := ih (i + 1) (by omega) (by omega)
      rw [← nI_1] at e
      exact e
  have e := loop 0 (by omega)
  rw [cpr_0, cpr_0, cpr_0, m1_self, show m2 (gupI I 18 3 (nI n)) 20 (I 20) 21 (I 21) = (gupI I 18 3 (nI n)) from m2_self] at e
  refine gT_n 6 ?_
  refine ⟨rfl, rfl, ?_⟩
  exact gT_m (by rw [← hn]; rfl) e
theorem c_tcopy {d : Nat} {I : Nat → Nat → Int32} {J : Nat → Nat → Int64} {P : Nat → Nat} (hb : ∀ z, z < 4 → I 6 z = 0 ∨ I 6 z = 1) : gTM d 92 [.ref 12, .ref 3] (gST I J P) (fun r u => r = none ∧ ∃ X' Y', u = gST X' Y' P ∧ (∀ a, ¬ (12 ≤ a ∧ a ≤ 16) → X' a = I a) ∧ (∀ a, ¬ a = 13 → Y' a = J a) ∧ X' 12 4 = I 3 4 ∧ X' 12 5 = I 3 5 ∧ ∀ z, z < 4 → Y' 13 z = J 4 z ∧ X' 14 z = I 5 z ∧ X' 15 z = I 6 z ∧ X' 16 z = I 7 z) := by
  refine gT_n 4 ?_
  refine ⟨rfl, rfl, ?_⟩
  refine gT_gp (b := 12) (X := (I 3 4)) (rfl) ?_
  refine gT_n 4 ?_
  refine ⟨rfl, rfl, ?_⟩
  refine gT_gp (b := 12) (X := (I 3 5)) (rfl) ?_
  refine gT_n 2 ?_
  refine gT_k (L := [(2, .int 0), (0, .ref 12), (1, .ref 3)]) ?_ ⟨rfl, rfl, rfl, trivial⟩ rfl
  refine gT_n 3 ?_
  refine ⟨fun c => absurd c (by decide), fun _ => ?_⟩
  refine gT_n 8 ?_
  refine ⟨rfl, rfl, rfl, (pk_in 0 4 (by decide) rfl), rfl, (pk_inS (m := 4) (k := 0) (rfl) (by decide) (rfl)), ?_⟩
  refine gT_gn (b := 13) (n := 0) (X := (J 4 0)) (rfl) (by omega) (rfl) ?_
  refine gT_n 8 ?_
  refine ⟨rfl, rfl, rfl, (pk_in 0 4 (by decide) rfl), rfl, (pk_inS (m := 4) (k := 0) (rfl) (by decide) (rfl)), ?_⟩
  refine gT_ga (b := 14) (n := 0) (X := (I 5 0)) (rfl) (by omega) (rfl) ?_
  refine gT_n 8 ?_
  refine ⟨rfl, rfl, (Or.inr rfl), (pk_in 0 4 (by decide) rfl), (Or.inr rfl), (pk_inS (m := 4) (k := 0) (rfl) (by decide) (rfl)), (Or.inr ⟨rfl, (hb 0 (by decide))⟩), ?_⟩
  refine gT_ga (b := 15) (n := 0) (X := (I 6 0)) (rfl) (by omega) (rfl) ?_
  refine gT_n 8 ?_
  refine ⟨rfl, rfl, rfl, (pk_in 0 4 (by decide) rfl), rfl, (pk_inS (m := 4) (k := 0) (rfl) (by decide) (rfl)), ?_⟩
  refine gT_ga (b := 16) (n := 0) (X := (I 7 0)) (rfl) (by omega) (rfl) ?_
  refine gT_n 2 ?_
  refine gT_k (L := [(2, .int 1), (0, .ref 12), (1, .ref 3)]) ?_ ⟨rfl, rfl, rfl, trivial⟩ rfl
  refine gT_n 3 ?_
  refine ⟨fun c => absurd c (by decide), fun _ => ?_⟩
  refine gT_n 8 ?_
  refine ⟨rfl, rfl, rfl, (pk_in 1 4 (by decide) rfl), rfl, (pk_inS (m := 4) (k := 1) (rfl) (by decide) (rfl)), ?_⟩
  refine gT_gn (b := 13) (n := 1) (X := (J 4 1)) (rfl) (by omega) (rfl) ?_
  refine gT_n 8 ?_
  refine ⟨rfl, rfl, rfl, (pk_in 1 4 (by decide) rfl), rfl, (pk_inS (m := 4) (k := 1) (rfl) (by decide) (rfl)), ?_⟩
  refine gT_ga (b := 14) (n := 1) (X := (I 5 1)) (rfl) (by omega) (rfl) ?_
  refine gT_n 8 ?_
  refine ⟨rfl, rfl, (Or.inr rfl), (pk_in 1 4 (by decide) rfl), (Or.inr rfl), (pk_inS (m := 4) (k := 1) (rfl) (by decide) (rfl)), (Or.inr ⟨rfl, (hb 1 (by decide))⟩), ?_⟩
  refine gT_ga (b := 15) (n := 1) (X := (I 6 1)) (rfl) (by omega) (rfl) ?_
  refine gT_n 8 ?_
  refine ⟨rfl, rfl, rfl, (pk_in 1 4 (by decide) rfl), rfl, (pk_inS (m := 4) (k := 1) (rfl) (by decide) (rfl)), ?_⟩
  refine gT_ga (b := 16) (n := 1) (X := (I 7 1)) (rfl) (by omega) (rfl) ?_
  refine gT_n 2 ?_
  refine gT_k (L := [(2, .int 2), (0, .ref 12), (1, .ref 3)]) ?_ ⟨rfl, rfl, rfl, trivial⟩ rfl
  refine gT_n 3 ?_
  refine ⟨fun c => absurd c (by decide), fun _ => ?_⟩
  refine gT_n 8 ?_
  refine ⟨rfl, rfl, rfl, (pk_in 2 4 (by decide) rfl), rfl, (pk_inS (m := 4) (k := 2) (rfl) (by decide) (rfl)), ?_⟩
  refine gT_gn (b := 13) (n := 2) (X := (J 4 2)) (rfl) (by omega) (rfl) ?_
  refine gT_n 8 ?_
  refine ⟨rfl, rfl, rfl, (pk_in 2 4 (by decide) rfl), rfl, (pk_inS (m := 4) (k := 2) (rfl) (by decide) (rfl)), ?_⟩
  refine gT_ga (b := 14) (n := 2) (X := (I 5 2)) (rfl) (by omega) (rfl) ?_
  refine gT_n 8 ?_
  refine ⟨rfl, rfl, (Or.inr rfl), (pk_in 2 4 (by decide) rfl), (Or.inr rfl), (pk_inS (m := 4) (k := 2) (rfl) (by decide) (rfl)), (Or.inr ⟨rfl, (hb 2 (by decide))⟩), ?_⟩
  refine gT_ga (b := 15) (n := 2) (X := (I 6 2)) (rfl) (by omega) (rfl) ?_
  refine gT_n 8 ?_
  refine ⟨rfl, rfl, rfl, (pk_in 2 4 (by decide) rfl), rfl, (pk_inS (m := 4) (k := 2) (rfl) (by decide) (rfl)), ?_⟩
  refine gT_ga (b := 16) (n := 2) (X := (I 7 2)) (rfl) (by omega) (rfl) ?_
  refine gT_n 2 ?_
  refine gT_k (L := [(2, .int 3), (0, .ref 12), (1, .ref 3)]) ?_ ⟨rfl, rfl, rfl, trivial⟩ rfl
  refine gT_n 3 ?_
  refine ⟨fun c => absurd c (by decide), fun _ => ?_⟩
  refine gT_n 8 ?_
  refine ⟨rfl, rfl, rfl, (pk_in 3 4 (by decide) rfl), rfl, (pk_inS (m := 4) (k := 3) (rfl) (by decide) (rfl)), ?_⟩
  refine gT_gn (b := 13) (n := 3) (X := (J 4 3)) (rfl) (by omega) (rfl) ?_
  refine gT_n 8 ?_
  refine ⟨rfl, rfl, rfl, (pk_in 3 4 (by decide) rfl), rfl, (pk_inS (m := 4) (k := 3) (rfl) (by decide) (rfl)), ?_⟩
  refine gT_ga (b := 14) (n := 3) (X := (I 5 3)) (rfl) (by omega) (rfl) ?_
  refine gT_n 8 ?_
  refine ⟨rfl, rfl, (Or.inr rfl), (pk_in 3 4 (by decide) rfl), (Or.inr rfl), (pk_inS (m := 4) (k := 3) (rfl) (by decide) (rfl)), (Or.inr ⟨rfl, (hb 3 (by decide))⟩), ?_⟩
  refine gT_ga (b := 15) (n := 3) (X := (I 6 3)) (rfl) (by omega) (rfl) ?_
  refine gT_n 8 ?_
  refine ⟨rfl, rfl, rfl, (pk_in 3 4 (by decide) rfl), rfl, (pk_inS (m := 4) (k := 3) (rfl) (by decide) (rfl)), ?_⟩
  refine gT_ga (b := 16) (n := 3) (X := (I 7 3)) (rfl) (by omega) (rfl) ?_
  refine gT_n 2 ?_
  refine gT_k (L := [(2, .int 4), (0, .ref 12), (1, .ref 3)]) ?_ ⟨rfl, rfl, rfl, trivial⟩ rfl
  refine gT_n 3 ?_
  refine ⟨fun _ => ?_, fun c => absurd (by decide) c⟩
  refine gT_n 1 ?_
  refine ⟨rfl, ?_⟩
  refine ⟨rfl, _, _, rfl, fun a h1 => ?_, fun a h1 => ?_, rfl, rfl, fun z hz => ?_⟩
  · simp only [gupI_n (show ¬ a = 12 by omega), gupI_n (show ¬ a = 14 by omega), gupI_n (show ¬ a = 15 by omega), gupI_n (show ¬ a = 16 by omega)]
  · simp only [gupL_n h1]
  have hc : z = 0 ∨ z = 1 ∨ z = 2 ∨ z = 3 := by omega
  rcases hc with rfl | rfl | rfl | rfl <;> exact ⟨rfl, rfl, rfl, rfl⟩
theorem c_kempty {d b : Nat} {I : Nat → Nat → Int32} {J : Nat → Nat → Int64} {P : Nat → Nat} (hb : kRow P b) : gTM d 22 [.ref b] (gST I J P) (fun r u => r = none ∧ ∃ X', u = gST X' J P ∧ (∀ o, ¬ (b ≤ o ∧ o ≤ b + 2) → X' o = I o) ∧ cK (X' b 2) (X' (b + 1)) (X' (b + 2)) []) := by
  refine gT_n 3 ?_
  refine ⟨hb.ob, ?_⟩
  refine gT_gp (b := b) (X := 0) (rfl) ?_
  refine gT_n 2 ?_
  refine gT_k (L := [(1, .int 0), (0, .ref b)]) ?_ ⟨rfl, rfl, trivial⟩ rfl
  refine gT_n 3 ?_
  refine ⟨fun c => absurd c (by decide), fun _ => ?_⟩
  refine gT_n 2 ?_
  refine ⟨hb.ob, ?_⟩
  refine gT_top (hb.v0) ?_
  refine gT_n 3 ?_
  refine ⟨hb.ar1, (pk_inS (m := 3) (k := 0) (hb.ln1) (by decide) (rfl)), ?_⟩
  refine gT_ga (b := b + 1) (n := 0) (X := 0) (rfl) (by decide) (rfl) ?_
  refine gT_n 2 ?_
  refine ⟨hb.ob, ?_⟩
  refine gT_top (hb.v1) ?_
  refine gT_n 3 ?_
  refine ⟨hb.ar2, (pk_inS (m := 3) (k := 0) (hb.ln2) (by decide) (rfl)), ?_⟩
  refine gT_ga (b := b + 2) (n := 0) (X := 0) (rfl) (by decide) (rfl) ?_
  refine gT_n 2 ?_
  refine gT_k (L := [(1, .int 1), (0, .ref b)]) ?_ ⟨rfl, rfl, trivial⟩ rfl
  refine gT_n 3 ?_
  refine ⟨fun c => absurd c (by decide), fun _ => ?_⟩
  refine gT_n 2 ?_
  refine ⟨hb.ob, ?_⟩
  refine gT_top (hb.v0) ?_
  refine gT_n 3 ?_
  refine ⟨hb.ar1, (pk_inS (m := 3) (k := 1) (hb.ln1) (by decide) (rfl)), ?_⟩
  refine gT_ga (b := b + 1) (n := 1) (X := 0) (rfl) (by decide) (rfl) ?_
  refine gT_n 2 ?_
  refine ⟨hb.ob, ?_⟩
  refine gT_top (hb.v1) ?_
  refine gT_n 3 ?_
  refine ⟨hb.ar2, (pk_inS (m := 3) (k := 1) (hb.ln2) (by decide) (rfl)), ?_⟩
  refine gT_ga (b := b + 2) (n := 1) (X := 0) (rfl) (by decide) (rfl) ?_
  refine gT_n 2 ?_
  refine gT_k (L := [(1, .int 2), (0, .ref b)]) ?_ ⟨rfl, rfl, trivial⟩ rfl
  refine gT_n 3 ?_
  refine ⟨fun c => absurd c (by decide), fun _ => ?_⟩
  refine gT_n 2 ?_
  refine ⟨hb.ob, ?_⟩
  refine gT_top (hb.v0) ?_
  refine gT_n 3 ?_
  refine ⟨hb.ar1, (pk_inS (m := 3) (k := 2) (hb.ln1) (by decide) (rfl)), ?_⟩
  refine gT_ga (b := b + 1) (n := 2) (X := 0) (rfl) (by decide) (rfl) ?_
  refine gT_n 2 ?_
  refine ⟨hb.ob, ?_⟩
  refine gT_top (hb.v1) ?_
  refine gT_n 3 ?_
  refine ⟨hb.ar2, (pk_inS (m := 3) (k := 2) (hb.ln2) (by decide) (rfl)), ?_⟩
  refine gT_ga (b := b + 2) (n := 2) (X := 0) (rfl) (by decide) (rfl) ?_
  refine gT_n 2 ?_
  refine gT_k (L := [(1, .int 3), (0, .ref b)]) ?_ ⟨rfl, rfl, trivial⟩ rfl
  refine gT_n 3 ?_
  refine ⟨fun _ => ?_, fun c => absurd (by decide) c⟩
  refine gT_n 1 ?_
  refine ⟨rfl, ?_⟩
  refine ⟨rfl, _, rfl, fun o h1 => ?_, ?_⟩
  · simp only [gupI_n (show ¬ o = b by omega), gupI_n (show ¬ o = b + 1 by omega), gupI_n (show ¬ o = b + 2 by omega)]
  simp only [gupI_n (show ¬ b = b + 1 by omega), gupI_n (show ¬ b = b + 2 by omega), gupI_n (show ¬ b + 1 = b by omega), gupI_n (show ¬ b + 1 = b + 2 by omega), gupI_n (show ¬ b + 2 = b by omega), gupI_n (show ¬ b + 2 = b + 1 by omega), gupI_b]
  exact ⟨rfl, ⟨rfl, rfl, rfl⟩, rfl, rfl, rfl⟩
theorem c_kinsX {d b : Nat} {k c : Int32} {l : zK} {I : Nat → Nat → Int32} {J : Nat → Nat → Int64} {P : Nat → Nat} (hb : kRow P b) (hl : l.length ≤ 2) (hK : cK (I b 2) (I (b + 1)) (I (b + 2)) l) : gTM (d + 1) 26 [.ref b, .int k, .int c] (gST I J P) (fun r u => r = none ∧ ∃ X', u = gST X' J P ∧ (∀ o, ¬ (b ≤ o ∧ o ≤ b + 2) → X' o = I o) ∧ cK (X' b 2) (X' (b + 1)) (X' (b + 2)) (kins l k c)) := by
  refine gTM.use (c_kins hb hl hK) (Nat.le_refl _) (fun r u h => ?_)
  obtain ⟨h1, n', f', g', h2, h3⟩ := h
  refine ⟨h1, _, h2, fun o ho => ?_, ?_⟩
  · funext i; exact ks_n (by omega) (by omega) (by omega)
  · rw [ks_0, ks_f, ks_g]; exact h3
def kz (t : zT) (z : Nat) : zK := if z < t.1 ∧ t.2.2.1 z = true then [(nI (10 + z), 0)] else []
def az (t : zT) (z : Nat) : Int32 := if z < t.1 ∧ t.2.2.1 z = true then nI (10 + z) else 0
theorem anew_s {X X' : Nat → Nat → Int32} {t : zT} {z : Nat} {v : Int32} (h : (∀ y, y < z → cK (X (34 + 6 * y) 2) (X (34 + 6 * y + 1)) (X (34 + 6 * y + 2)) (kz t y) ∧ cK (X (37 + 6 * y) 2) (X (37 + 6 * y + 1)) (X (37 + 6 * y + 2)) (kz t y) ∧ X 24 y = az t y)) (hf : ∀ o, ¬ o = 24 → ¬ (34 + 6 * z ≤ o ∧ o ≤ 39 + 6 * z) → X' o = X o) (h24 : ∀ y, X' 24 y = if y = z then v else X 24 y) (hv : v = az t z) (k1 : cK (X' (34 + 6 * z) 2) (X' (34 + 6 * z + 1)) (X' (34 + 6 * z + 2)) (kz t z)) (k2 : cK (X' (37 + 6 * z) 2) (X' (37 + 6 * z + 1)) (X' (37 + 6 * z + 2)) (kz t z)) : (∀ y, y < (z + 1) → cK (X' (34 + 6 * y) 2) (X' (34 + 6 * y + 1)) (X' (34 + 6 * y + 2)) (kz t y) ∧ cK (X' (37 + 6 * y) 2) (X' (37 + 6 * y + 1)) (X' (37 + 6 * y + 2)) (kz t y) ∧ X' 24 y = az t y) := by
  intro y hy
  by_cases e : y = z
  · subst e
    exact ⟨k1, k2, by rw [h24, if_pos rfl]; exact hv⟩
  · have g := h y (by omega)
    rw [hf (34 + 6 * y) (by omega) (by omega), hf (34 + 6 * y + 1) (by omega) (by omega), hf (34 + 6 * y + 2) (by omega) (by omega), hf (37 + 6 * y) (by omega) (by omega), hf (37 + 6 * y + 1) (by omega) (by omega), hf (37 + 6 * y + 2) (by omega) (by omega), h24, if_neg e]
    exact g
theorem c_worldAnew {d : Nat} {t : zT} {I : Nat → Nat → Int32} {J : Nat → Nat → Int64} {P : Nat → Nat} (hz : zOK t) (hT : cTr I J t) : gTM (d + 2) 112 [.ref 17, .ref 12] (gST I J P) (fun r u => r = none ∧ ∃ X, u = gST X J P ∧ (∀ a, ¬ (a = 24 ∨ (34 ≤ a ∧ a ≤ 57)) → X a = gupI (gupI I 17 5 0) 25 4 0 a) ∧ (∀ y, y < 4 → cK (X (34 + 6 * y) 2) (X (34 + 6 * y + 1)) (X (34 + 6 * y + 2)) (kz t y) ∧ cK (X (37 + 6 * y) 2) (X (37 + 6 * y + 1)) (X (37 + 6 * y + 2)) (kz t y) ∧ X 24 y = az t y)) := by
  have h4 := hz.2.1
  have loop : ∀ z, z ≤ 4 → ∀ X : Nat → Nat → Int32, (∀ a, ¬ (a = 24 ∨ (34 ≤ a ∧ a ≤ 57)) → X a = gupI (gupI I 17 5 0) 25 4 0 a) → (∀ y, y < z → cK (X (34 + 6 * y) 2) (X (34 + 6 * y + 1)) (X (34 + 6 * y + 2)) (kz t y) ∧ cK (X (37 + 6 * y) 2) (X (37 + 6 * y + 1)) (X (37 + 6 * y + 2)) (kz t y) ∧ X 24 y = az t y) → gT (d + 2) 112 15 [(2, .int (nI z)), (0, .ref 17), (1, .ref 12)] [] (0, 0) (gST X J P) (fun r u => r = none ∧ ∃ X, u = gST X J P ∧ (∀ a, ¬ (a = 24 ∨ (34 ≤ a ∧ a ≤ 57)) → X a = gupI (gupI I 17 5 0) 25 4 0 a) ∧ (∀ y, y < 4 → cK (X (34 + 6 * y) 2) (X (34 + 6 * y + 1)) (X (34 + 6 * y + 2)) (kz t y) ∧ cK (X (37 + 6 * y) 2) (X (37 + 6 * y + 1)) (X (37 + 6 * y + 2)) (kz t y) ∧ X 24 y = az t y)) := by
    refine loopU 4 (fun z hi ih => ?_)
    intro X hfr hZ
    by_cases hz4 : z < 4
    · refine gT_n 3 ?_
      refine pk_le 4 z (fun κ1 => ?_) (fun κ1 => ?_) (rfl) (rfl) (by omega) (by omega)
      · refine gT_n 1 ?_
        refine ⟨rfl, ?_⟩
        exact ⟨rfl, X, rfl, hfr, fun y hy => hZ y (by omega)⟩
      · refine gT_n 4 ?_
        refine ⟨rfl, rfl, (pk_in z 4 (by omega) (rfl)), ?_⟩
        refine gT_top (aa_ref (b := 34 + 6 * z) (rfl) (by omega) (kRow_out (P := P) hz4).2) ?_
        refine gT_n 1 ?_
        refine ⟨(kRow_out (P := P) hz4).1.ob, rfl, gTM.use (c_kempty (I := X) (kRow_out (P := P) hz4).1) (Nat.le_refl _) (fun r u hq => ?_)⟩
        obtain ⟨rfl, X1, rfl, hf1, hk1⟩ := hq  -- X2_empty[Rb]
        refine gT_n 4 ?_
        refine ⟨rfl, rfl, (pk_in z 4 (by omega) (rfl)), ?_⟩
        refine gT_top (aa_ref (b := 37 + 6 * z) (rfl) (by omega) (kRow_dig (P := P) hz4).2) ?_
        refine gT_n 1 ?_
        refine ⟨(kRow_dig (P := P) hz4).1.ob, rfl, gTM.use (c_kempty (I := X1) (kRow_dig (P := P) hz4).1) (Nat.le_refl _) (fun r u hq => ?_)⟩
        obtain ⟨rfl, X2, rfl, hf2, hk2⟩ := hq  -- X2_empty[Re]
        have hT2 : cT0 (gupI X2 24 z 0 12 4) (J 13) (gupI X2 24 z 0 14) (gupI X2 24 z 0 15) t := by
          rw [gupI_n (by omega), gupI_n (by omega), gupI_n (by omega), hf2 _ (by omega), hf2 _ (by omega), hf2 _ (by omega), hf1 _ (by omega), hf1 _ (by omega), hf1 _ (by omega), hfr _ (by omega), hfr _ (by omega), hfr _ (by omega)]; exact hT.1
        refine gT_n 5 ?_
        refine ⟨rfl, rfl, (pk_inS (m := 4) (k := z) (rfl) (by omega) (rfl)), ?_⟩
        refine gT_ga (b := 24) (n := z) (X := 0) (rfl) (by omega) (rfl) ?_
        refine gT_n 3 ?_
        refine ⟨rfl, rfl, gTM.use (c_has (I := gupI X2 24 z 0) (J := J) hz hT2) (Nat.le_refl _) (fun r u hq => ?_)⟩
        obtain ⟨rfl, ⟨rfl, β2⟩ | ⟨rfl, β2⟩⟩ := hq  -- X8_has[R12, nI z]
        · refine gT_n 1 ?_
          refine ⟨fun c => absurd c (by decide), fun _ => ?_⟩
          refine gT_n 5 ?_
          refine ⟨rfl, (Or.inr rfl), (pk_in z 4 (by omega) (rfl)), px_eq (X := (bI (t.2.2.1 z))) (Y := (0)) ((rdI (rfl) (by omega) (hT2.2.2.2.1 z (by obtain ⟨zz, h1, h2⟩ := β2; have := (nI_eq (a := z) (b := zz) (by omega) (by omega)).mp h2; omega)))) (rfl) (fun κ3 => ?_) (fun κ3 => ?_)⟩
          · refine gT_n 2 ?_
            have hc : ¬ (z < t.1 ∧ t.2.2.1 z = true) := fun c => by have e := bI_0 κ3; rw [c.2] at e; exact absurd e (by decide)
            have ek : kz t z = [] := if_neg hc
            have ea : 0 = az t z := (if_neg hc).symm
            have e := ih (z + 1) (by omega) (by omega) (gupI X2 24 z 0) (fun a ha => by rw [gupI_n (by omega), hf2 a (by omega), hf1 a (by omega)]; exact hfr a ha) (anew_s (v := 0) hZ (fun o h1 h2 => by rw [gupI_n h1, hf2 o (by omega), hf1 o (by omega)]) (fun y => ?_) ea ?_ ?_)
            · rw [← nI_1 z] at e
              exact gT_k e ⟨rfl, rfl, rfl, trivial⟩ rfl
            · rw [gupI_b]
              show (if y = z then _ else X2 24 y) = _
              rw [hf2 24 (by omega), hf1 24 (by omega)]
            · rw [ek, gupI_n (by omega), gupI_n (by omega), gupI_n (by omega), hf2 _ (by omega), hf2 _ (by omega), hf2 _ (by omega)]; exact hk1
            · rw [ek, gupI_n (by omega), gupI_n (by omega), gupI_n (by omega)]; exact hk2
          · refine gT_n 4 ?_
            refine ⟨rfl, rfl, (pk_in z 4 (by omega) (rfl)), ?_⟩
            refine gT_top (aa_ref (b := 34 + 6 * z) (rfl) (by omega) (kRow_out (P := P) hz4).2) ?_
            refine gT_n 5 ?_
            refine ⟨(kRow_out (P := P) hz4).1.ob, rfl, gTM.useA (c_kinsX (I := gupI X2 24 z 0) (l := []) (k := nI (10 + z)) (c := 0) (kRow_out (P := P) hz4).1 (by decide) (by rw [gupI_n (by omega), gupI_n (by omega), gupI_n (by omega), hf2 _ (by omega), hf2 _ (by omega), hf2 _ (by omega)]; exact hk1)) (Nat.le_refl _) (aR (aI ((pk_addE (n := 10) (k := z) (rfl) (rfl))) (aI (rfl) (rfl)))) (fun r u hq => ?_)⟩
            obtain ⟨rfl, X3, rfl, hf3, hk3⟩ := hq  -- X2_insert[Rb, (nI (10 + z)), K0]
            refine gT_n 4 ?_
            refine ⟨rfl, rfl, (pk_in z 4 (by omega) (rfl)), ?_⟩
            refine gT_top (aa_ref (b := 37 + 6 * z) (rfl) (by omega) (kRow_dig (P := P) hz4).2) ?_
            refine gT_n 5 ?_
            refine ⟨(kRow_dig (P := P) hz4).1.ob, rfl, gTM.useA (c_kinsX (I := X3) (l := []) (k := nI (10 + z)) (c := 0) (kRow_dig (P := P) hz4).1 (by decide) (by rw [hf3 _ (by omega), hf3 _ (by omega), hf3 _ (by omega), gupI_n (by omega), gupI_n (by omega), gupI_n (by omega)]; exact hk2)) (Nat.le_refl _) (aR (aI ((pk_addE (n := 10) (k := z) (rfl) (rfl))) (aI (rfl) (rfl)))) (fun r u hq => ?_)⟩
            obtain ⟨rfl, X4, rfl, hf4, hk4⟩ := hq  -- X2_insert[Re, (nI (10 + z)), K0]
            refine gT_n 7 ?_
            refine ⟨rfl, rfl, (pk_inS (m := 4) (k := z) (rfl) (by omega) (rfl)), ?_⟩
            refine gT_ga (b := 24) (n := z) (X := (nI (10 + z))) (rfl) (by omega) (pk_addE (n := 10) (k := z) (rfl) (rfl)) ?_
            refine gT_n 2 ?_
            have hc : z < t.1 ∧ t.2.2.1 z = true := ⟨by obtain ⟨zz, h1, h2⟩ := β2; have := (nI_eq (a := z) (b := zz) (by omega) (by omega)).mp h2; omega, bI_1 κ3⟩
            have ek : kz t z = [(nI (10 + z), 0)] := if_pos hc
            have ea : nI (10 + z) = az t z := (if_pos hc).symm
            have e := ih (z + 1) (by omega) (by omega) (gupI X4 24 z (nI (10 + z))) (fun a ha => by rw [gupI_n (by omega), hf4 a (by omega), hf3 a (by omega), gupI_n (by omega), hf2 a (by omega), hf1 a (by omega)]; exact hfr a ha) (anew_s (v := nI (10 + z)) hZ (fun o h1 h2 => by rw [gupI_n h1, hf4 o (by omega), hf3 o (by omega), gupI_n h1, hf2 o (by omega), hf1 o (by omega)]) (fun y => ?_) ea ?_ ?_)
            · rw [← nI_1 z] at e
              exact gT_k e ⟨rfl, rfl, rfl, trivial⟩ rfl
            · rw [gupI_b]
              show (if y = z then _ else X4 24 y) = _
              rw [hf4 24 (by omega), hf3 24 (by omega), gupI_b, hf2 24 (by omega), hf1 24 (by omega)]
              by_cases g : y = z
              · rw [if_pos g, if_pos g]
              · rw [if_neg g, if_neg g, upd_ne g]
            · rw [ek, gupI_n (by omega), gupI_n (by omega), gupI_n (by omega), hf4 _ (by omega), hf4 _ (by omega), hf4 _ (by omega)]; exact hk3
            · rw [ek, gupI_n (by omega), gupI_n (by omega), gupI_n (by omega)]; exact hk4
        · refine gT_n 1 ?_
          refine ⟨fun _ => ?_, fun c => absurd (by decide) c⟩
          refine gT_n 2 ?_
          have hc : ¬ (z < t.1 ∧ t.2.2.1 z = true) := fun c => β2 ⟨z, c.1, rfl⟩
          have ek : kz t z = [] := if_neg hc
          have ea : 0 = az t z := (if_neg hc).symm
          have e := ih (z + 1) (by omega) (by omega) (gupI X2 24 z 0) (fun a ha => by rw [gupI_n (by omega), hf2 a (by omega), hf1 a (by omega)]; exact hfr a ha) (anew_s (v := 0) hZ (fun o h1 h2 => by rw [gupI_n h1, hf2 o (by omega), hf1 o (by omega)]) (fun y => ?_) ea ?_ ?_)
          · rw [← nI_1 z] at e
            exact gT_k e ⟨rfl, rfl, rfl, trivial⟩ rfl
          · rw [gupI_b]
            show (if y = z then _ else X2 24 y) = _
            rw [hf2 24 (by omega), hf1 24 (by omega)]
          · rw [ek, gupI_n (by omega), gupI_n (by omega), gupI_n (by omega), hf2 _ (by omega), hf2 _ (by omega), hf2 _ (by omega)]; exact hk1
          · rw [ek, gupI_n (by omega), gupI_n (by omega), gupI_n (by omega)]; exact hk2
    · refine gT_n 3 ?_
      refine pk_le 4 z (fun κ1 => ?_) (fun κ1 => ?_) (rfl) (rfl) (by omega) (by omega)
      · refine gT_n 1 ?_
        refine ⟨rfl, ?_⟩
        exact ⟨rfl, X, rfl, hfr, fun y hy => hZ y (by omega)⟩
      · exact absurd (by omega) hz4
  refine gT_n 3 ?_
  refine ⟨rfl, ?_⟩
  refine gT_gp (b := 17) (X := 0) (rfl) ?_
  refine gT_n 4 ?_
  refine ⟨rfl, rfl, ?_⟩
  refine gT_gp (b := 25) (X := 0) (rfl) ?_
  refine gT_n 2 ?_
  exact gT_k (loop 0 (by omega) _ (fun _ _ => rfl) (fun y hy => absurd hy (Nat.not_lt_zero y))) ⟨rfl, rfl, rfl, trivial⟩ rfl
