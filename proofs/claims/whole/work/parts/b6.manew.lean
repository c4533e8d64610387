/-! started anew: the reference -/
def aDn (t : zT) (X : Nat → Nat → Int32) (z : Nat) : Prop := ∀ y, y < z → X 179 y = nI (kz t y).length ∧ X 183 y = nI (kz t y).length ∧ X 180 y = (if y < t.1 ∧ t.2.2.1 y = true then nI (10 + y) else -4) ∧ (y < t.1 ∧ t.2.2.1 y = true → X 177 (3 * y) = nI (10 + y) ∧ X 178 (3 * y) = 0 ∧ X 181 (2 * y) = nI (10 + y) ∧ X 182 (2 * y) = 0)
def aFr (I X : Nat → Nat → Int32) : Prop := ∀ a, ¬ (177 ≤ a ∧ a ≤ 183) → X a = I a
theorem kz_y {t : zT} {y : Nat} (h : y < t.1 ∧ t.2.2.1 y = true) : nI (kz t y).length = 1 := by
  unfold kz; rw [if_pos h]; rfl
theorem kz_n {t : zT} {y : Nat} (h : ¬ (y < t.1 ∧ t.2.2.1 y = true)) : nI (kz t y).length = 0 := by
  unfold kz; rw [if_neg h]; rfl
theorem aDn_n {t : zT} {X : Nat → Nat → Int32} {z : Nat} (h : aDn t X z) (g : ¬ (z < t.1 ∧ t.2.2.1 z = true)) : aDn t (gupI (gupI (gupI X 179 z 0) 183 z 0) 180 z (-4)) (z + 1) := by
  intro y hy
  show upd (X 179) z 0 y = _ ∧ upd (X 183) z 0 y = _ ∧ upd (X 180) z (-4) y = _ ∧ (_ → X 177 (3 * y) = _ ∧ X 178 (3 * y) = 0 ∧ X 181 (2 * y) = _ ∧ X 182 (2 * y) = 0)
  by_cases e : y = z
  · subst e
    rw [upd_at, upd_at, upd_at, if_neg g, kz_n g]
    exact ⟨rfl, rfl, rfl, fun k => absurd k g⟩
  · rw [upd_ne e, upd_ne e, upd_ne e]; exact h y (by omega)
def aW (X : Nat → Nat → Int32) (z : Nat) : Nat → Nat → Int32 := gupI (gupI (gupI (gupI (gupI (gupI (gupI (gupI (gupI (gupI X 179 z 0) 183 z 0) 180 z (-4)) 179 z 1) 177 (3 * z) (nI (10 + z))) 178 (3 * z) 0) 180 z (nI (10 + z))) 183 z 1) 181 (2 * z) (nI (10 + z))) 182 (2 * z) 0
theorem aDn_y {t : zT} {X : Nat → Nat → Int32} {z : Nat} (h : aDn t X z) (g : z < t.1 ∧ t.2.2.1 z = true) : aDn t (aW X z) (z + 1) := by
  intro y hy
  show upd (upd (X 179) z 0) z 1 y = _ ∧ upd (upd (X 183) z 0) z 1 y = _ ∧ upd (upd (X 180) z (-4)) z (nI (10 + z)) y = _ ∧ (_ → upd (X 177) (3 * z) (nI (10 + z)) (3 * y) = _ ∧ upd (X 178) (3 * z) 0 (3 * y) = 0 ∧ upd (X 181) (2 * z) (nI (10 + z)) (2 * y) = _ ∧ upd (X 182) (2 * z) 0 (2 * y) = 0)
  by_cases e : y = z
  · subst e
    rw [upd_at, upd_at, upd_at, upd_at, upd_at, upd_at, upd_at, if_pos g, kz_y g]
    exact ⟨rfl, rfl, rfl, fun _ => ⟨rfl, rfl, rfl, rfl⟩⟩
  · rw [upd_ne e, upd_ne e, upd_ne e, upd_ne e, upd_ne e, upd_ne e, upd_ne (by omega), upd_ne (by omega), upd_ne (by omega), upd_ne (by omega)]; exact h y (by omega)
theorem aFr_n {I X : Nat → Nat → Int32} {z : Nat} (h : aFr I X) : aFr I (gupI (gupI (gupI X 179 z 0) 183 z 0) 180 z (-4)) := fun a ha => by
  rw [gupI_n (by omega), gupI_n (by omega), gupI_n (by omega)]; exact h a ha
theorem aFr_y {I X : Nat → Nat → Int32} {z : Nat} (h : aFr I X) : aFr I (aW X z) := fun a ha => by
  unfold aW
  rw [gupI_n (by omega), gupI_n (by omega), gupI_n (by omega), gupI_n (by omega), gupI_n (by omega), gupI_n (by omega), gupI_n (by omega)]; exact aFr_n h a ha
theorem m_anewL {d : Nat} {t : zT} {Q : Option Value → gW → Prop} {I : Nat → Nat → Int32} {J : Nat → Nat → Int64} {P : Nat → Nat} (hz : zOK t) (hn : I 171 2 = nI t.1) (hs : ∀ z, z < t.1 → I 173 z = bI (t.2.2.1 z)) (hK : ∀ X, aFr I X → aDn t X 4 → gT d 157 123 [(1, .int 4), (0, .ref 171)] [] (0, 0) (gST X J P) Q) : ∀ z, z ≤ 4 → ∀ X, aFr I X → aDn t X z → gT d 157 7 [(1, .int (nI z)), (0, .ref 171)] [] (0, 0) (gST X J P) Q := by
  have h4 := hz.2.1
  refine loopU 4 (fun z hi ih => ?_)
  intro X hfr hdn
  refine gT_n 3 ?_
  refine pk_le 4 z (fun κ1 => ?_) (fun κ1 => ?_) (rfl) (rfl) (by omega) (by omega)
  · obtain rfl : z = 4 := by omega
    exact gT_k (hK X hfr hdn) ⟨rfl, rfl, trivial⟩ rfl
  · refine gT_n 5 ?_
    refine ⟨rfl, rfl, (pk_inS (m := 4) (k := z) (rfl) (by omega) (rfl)), ?_⟩
    refine gT_ga (b := 179) (n := z) (X := 0) (rfl) (by omega) (rfl) ?_
    refine gT_n 5 ?_
    refine ⟨rfl, rfl, (pk_inS (m := 4) (k := z) (rfl) (by omega) (rfl)), ?_⟩
    refine gT_ga (b := 183) (n := z) (X := 0) (rfl) (by omega) (rfl) ?_
    refine gT_n 5 ?_
    refine ⟨rfl, rfl, (pk_inS (m := 4) (k := z) (rfl) (by omega) (rfl)), ?_⟩
    refine gT_ga (b := 180) (n := z) (X := (-4)) (rfl) (by omega) (rfl) ?_
    refine gT_n 4 ?_
    refine ⟨rfl, pk_le t.1 z (fun κ2 => ?_) (fun κ2 => ?_) (((congrFun (hfr 171 (by omega)) 2).trans hn)) (rfl) (by omega) (by omega)⟩
    · refine gT_n 2 ?_
      have e' := ih (z + 1) (by omega) (by omega) _ (aFr_n hfr) (aDn_n hdn (fun c => absurd c.1 (by omega)))
      exact gT_k e' ⟨viI (nI_1 z), rfl, trivial⟩ rfl
    · refine gT_n 5 ?_
      refine ⟨rfl, (Or.inr rfl), (pk_in z 4 (by omega) (rfl)), px_eq (X := (bI (t.2.2.1 z))) (Y := (0)) ((rdI (rfl) (by omega) ((congrFun (hfr 173 (by omega)) z).trans (hs z (by omega))))) (rfl) (fun κ3 => ?_) (fun κ3 => ?_)⟩
      · refine gT_n 2 ?_
        have e' := ih (z + 1) (by omega) (by omega) _ (aFr_n hfr) (aDn_n hdn (fun c => absurd (c.2.symm.trans (bI_0 κ3)) (by decide)))
        exact gT_k e' ⟨viI (nI_1 z), rfl, trivial⟩ rfl
      · refine gT_n 5 ?_
        refine ⟨rfl, rfl, (pk_inS (m := 4) (k := z) (rfl) (by omega) (rfl)), ?_⟩
        refine gT_ga (b := 179) (n := z) (X := 1) (rfl) (by omega) (rfl) ?_
        refine gT_n 9 ?_
        refine ⟨rfl, rfl, (pk_inS (m := 12) (k := (3 * z)) (rfl) (by omega) (pk_mulE (n := 3) (k := z) (rfl) (rfl))), ?_⟩
        refine gT_ga (b := 177) (n := (3 * z)) (X := (nI (10 + z))) (pk_mulE (n := 3) (k := z) (rfl) (rfl)) (by omega) (pk_addE (n := 10) (k := z) (rfl) (rfl)) ?_
        refine gT_n 7 ?_
        refine ⟨rfl, rfl, (pk_inS (m := 12) (k := (3 * z)) (rfl) (by omega) (pk_mulE (n := 3) (k := z) (rfl) (rfl))), ?_⟩
        refine gT_ga (b := 178) (n := (3 * z)) (X := 0) (pk_mulE (n := 3) (k := z) (rfl) (rfl)) (by omega) (rfl) ?_
        refine gT_n 7 ?_
        refine ⟨rfl, rfl, (pk_inS (m := 4) (k := z) (rfl) (by omega) (rfl)), ?_⟩
        refine gT_ga (b := 180) (n := z) (X := (nI (10 + z))) (rfl) (by omega) (pk_addE (n := 10) (k := z) (rfl) (rfl)) ?_
        refine gT_n 5 ?_
        refine ⟨rfl, rfl, (pk_inS (m := 4) (k := z) (rfl) (by omega) (rfl)), ?_⟩
        refine gT_ga (b := 183) (n := z) (X := 1) (rfl) (by omega) (rfl) ?_
        refine gT_n 9 ?_
        refine ⟨rfl, rfl, (pk_inS (m := 8) (k := (2 * z)) (rfl) (by omega) (pk_mulE (n := 2) (k := z) (rfl) (rfl))), ?_⟩
        refine gT_ga (b := 181) (n := (2 * z)) (X := (nI (10 + z))) (pk_mulE (n := 2) (k := z) (rfl) (rfl)) (by omega) (pk_addE (n := 10) (k := z) (rfl) (rfl)) ?_
        refine gT_n 7 ?_
        refine ⟨rfl, rfl, (pk_inS (m := 8) (k := (2 * z)) (rfl) (by omega) (pk_mulE (n := 2) (k := z) (rfl) (rfl))), ?_⟩
        refine gT_ga (b := 182) (n := (2 * z)) (X := 0) (pk_mulE (n := 2) (k := z) (rfl) (rfl)) (by omega) (rfl) ?_
        refine gT_n 2 ?_
        have e' := ih (z + 1) (by omega) (by omega) _ (aFr_y hfr) (aDn_y hdn ⟨by omega, bI_1 κ3⟩)
        exact gT_k e' ⟨viI (nI_1 z), rfl, trivial⟩ rfl
theorem m_anew {d : Nat} {t : zT} {I : Nat → Nat → Int32} {J : Nat → Nat → Int64} {P : Nat → Nat} (hz : zOK t) (hn : I 171 2 = nI t.1) (hs : ∀ z, z < t.1 → I 173 z = bI (t.2.2.1 z)) : gTM d 157 [.ref 171] (gST I J P) (fun r u => r = none ∧ ∃ X, u = gST (gupI (gupI (gupI (gupI (gupI X 171 46 0) 171 57 0) 171 56 0) 209 0 0) 209 1 0) (gupL J 171 16 (lN 0)) P ∧ aFr (gupI I 171 15 0) X ∧ aDn t X 4) := by
  refine gT_n 3 ?_
  refine ⟨rfl, ?_⟩
  refine gT_gp (b := 171) (X := 0) (rfl) ?_
  refine gT_n 2 ?_
  refine gT_k (m_anewL (I := gupI I 171 15 0) hz hn hs (fun X hfr hdn => ?_) 0 (by omega) _ (fun _ _ => rfl) (fun y hy => absurd hy (Nat.not_lt_zero y))) ⟨rfl, rfl, trivial⟩ rfl
  refine gT_n 3 ?_
  refine ⟨rfl, (Or.inl rfl), ?_⟩
  refine gT_gp (b := 171) (X := 0) (rfl) ?_
  refine gT_n 3 ?_
  refine ⟨rfl, (Or.inl rfl), ?_⟩
  refine gT_gp (b := 171) (X := 0) (rfl) ?_
  refine gT_n 3 ?_
  refine ⟨rfl, ?_⟩
  refine gT_gp (b := 171) (X := 0) (rfl) ?_
  refine gT_n 5 ?_
  refine ⟨rfl, (Or.inr rfl), (pk_inS (m := 2) (k := 0) (rfl) (by decide) (rfl)), (Or.inr ⟨rfl, Or.inl rfl⟩), ?_⟩
  refine gT_ga (b := 209) (n := 0) (X := 0) (rfl) (by omega) (rfl) ?_
  refine gT_n 5 ?_
  refine ⟨rfl, (Or.inr rfl), (pk_inS (m := 2) (k := 1) (rfl) (by decide) (rfl)), (Or.inr ⟨rfl, Or.inl rfl⟩), ?_⟩
  refine gT_ga (b := 209) (n := 1) (X := 0) (rfl) (by omega) (rfl) ?_
  refine gT_n 3 ?_
  refine ⟨rfl, ?_⟩
  refine gT_gl (b := 171) (X := (lN 0)) (rfl) ?_
  refine gT_n 1 ?_
  refine ⟨rfl, ?_⟩
  exact ⟨rfl, X, rfl, hfr, hdn⟩
