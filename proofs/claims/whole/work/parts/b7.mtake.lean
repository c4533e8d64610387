/-! the draft taken: the reference -/
theorem b01_of {x v : Int32} (h : x = v) (g : v = 0 ∨ v = 1) : x = 0 ∨ x = 1 := by rw [h]; exact g
def tD1 (I : Nat → Nat → Int32) (J : Nat → Nat → Int64) (X : Nat → Nat → Int32) (Y : Nat → Nat → Int64) (z : Nat) : Prop := (∀ a, ¬ a = 173 → X a = I a) ∧ (∀ a, ¬ a = 172 → Y a = J a) ∧ (∀ y, (y = 0 ∨ z ≤ y) → Y 172 y = J 172 y ∧ X 173 y = I 173 y) ∧ (∀ y, 1 ≤ y → y < z → Y 172 y = J 187 y ∧ X 173 y = I 188 y)
theorem tD1_s {I X : Nat → Nat → Int32} {J Y : Nat → Nat → Int64} {z : Nat} (h : tD1 I J X Y z) (h1 : 1 ≤ z) : tD1 I J (gupI X 173 z (I 188 z)) (gupL Y 172 z (J 187 z)) (z + 1) := by
  refine ⟨fun a ha => (gupI_n ha).trans (h.1 a ha), fun a ha => (gupL_n ha).trans (h.2.1 a ha), fun y hy => ?_, fun y g1 g2 => ?_⟩
  · show vp_updL (Y 172) z (J 187 z) y = _ ∧ upd (X 173) z (I 188 z) y = _
    rw [updL_ne (by omega), upd_ne (by omega)]; exact h.2.2.1 y (by omega)
  · show vp_updL (Y 172) z (J 187 z) y = _ ∧ upd (X 173) z (I 188 z) y = _
    by_cases e : y = z
    · rw [updL_y e, upd_y e, e]; exact ⟨rfl, rfl⟩
    · rw [updL_ne e, upd_ne e]; exact h.2.2.2 y g1 (by omega)
def tD2 (I : Nat → Nat → Int32) (J : Nat → Nat → Int64) (X : Nat → Nat → Int32) (Y : Nat → Nat → Int64) (r : Nat) : Prop := (∀ a, ¬ (a = 175 ∨ a = 176) → X a = I a) ∧ (∀ a, ¬ a = 174 → Y a = J a) ∧ (∀ y, y < r → Y 174 y = J 189 y ∧ X 175 y = I 190 y ∧ X 176 y = I 191 y)
theorem tD2_s {I X : Nat → Nat → Int32} {J Y : Nat → Nat → Int64} {z : Nat} (h : tD2 I J X Y z) : tD2 I J (gupI (gupI X 175 z (I 190 z)) 176 z (I 191 z)) (gupL Y 174 z (J 189 z)) (z + 1) := by
  refine ⟨fun a ha => ?_, fun a ha => (gupL_n ha).trans (h.2.1 a ha), fun y g2 => ?_⟩
  · rw [gupI_n (by omega), gupI_n (by omega)]; exact h.1 a ha
  · show vp_updL (Y 174) z (J 189 z) y = _ ∧ upd (X 175) z (I 190 z) y = _ ∧ upd (X 176) z (I 191 z) y = _
    by_cases e : y = z
    · rw [updL_y e, upd_y e, upd_y e, e]; exact ⟨rfl, rfl, rfl⟩
    · rw [updL_ne e, upd_ne e, upd_ne e]; exact h.2.2 y (by omega)
theorem m_take1 {d k : Nat} {Q : Option Value → gW → Prop} {I : Nat → Nat → Int32} {J : Nat → Nat → Int64} {P : Nat → Nat} (h4 : k ≤ 4) (hk : I 171 2 = nI k) (hb : ∀ z, z < 4 → I 188 z = 0 ∨ I 188 z = 1) (hK : ∀ X Y, tD1 I J X Y k → gT d 196 48 [(1, .int (nI k)), (0, .ref 171)] [] (0, 0) (gST X Y P) Q) : ∀ z, z ≤ k → ∀ X Y, 1 ≤ z → tD1 I J X Y z → gT d 196 10 [(1, .int (nI z)), (0, .ref 171)] [] (0, 0) (gST X Y P) Q := by
  refine loopU k (fun z hi ih => ?_)
  intro X Y h1 hd
  refine gT_n 4 ?_
  refine ⟨rfl, pk_le k z (fun κ1 => ?_) (fun κ1 => ?_) (((congrFun (hd.1 171 (by omega)) 2).trans hk)) (rfl) (by omega) (by omega)⟩
  · obtain rfl : z = k := by omega
    exact gT_k (hK X Y hd) ⟨rfl, rfl, trivial⟩ rfl
  · refine gT_n 8 ?_
    refine ⟨rfl, rfl, rfl, (pk_in z 4 (by omega) (rfl)), rfl, (pk_inS (m := 4) (k := z) (rfl) (by omega) (rfl)), ?_⟩
    refine gT_gn (b := 172) (n := z) (X := (J 187 z)) (rfl) (by omega) ((rdJ (rfl) (by omega) (congrFun (hd.2.1 187 (by omega)) z))) ?_
    refine gT_n 8 ?_
    refine ⟨rfl, rfl, (Or.inr rfl), (pk_in z 4 (by omega) (rfl)), (Or.inr rfl), (pk_inS (m := 4) (k := z) (rfl) (by omega) (rfl)), (Or.inr ⟨rfl, b01_of (rdI (k := z) rfl (by omega) (congrFun (hd.1 188 (by omega)) z)) (hb z (by omega))⟩), ?_⟩
    refine gT_ga (b := 173) (n := z) (X := (I 188 z)) (rfl) (by omega) ((rdI (rfl) (by omega) (congrFun (hd.1 188 (by omega)) z))) ?_
    refine gT_n 2 ?_
    have e' := ih (z + 1) (by omega) (by omega) _ _ (by omega) (tD1_s hd h1)
    exact gT_k e' ⟨viI (nI_1 z), rfl, trivial⟩ rfl
theorem m_take2 {d k : Nat} {Q : Option Value → gW → Prop} {I : Nat → Nat → Int32} {J : Nat → Nat → Int64} {P : Nat → Nat} (h4 : k ≤ 24) (hk : I 171 7 = nI k) (hK : ∀ X Y, tD2 I J X Y k → gT d 196 108 [(1, .int (nI k)), (0, .ref 171)] [] (0, 0) (gST X Y P) Q) : ∀ z, z ≤ k → ∀ X Y, tD2 I J X Y z → gT d 196 58 [(1, .int (nI z)), (0, .ref 171)] [] (0, 0) (gST X Y P) Q := by
  refine loopU k (fun z hi ih => ?_)
  intro X Y hd
  refine gT_n 4 ?_
  refine ⟨rfl, pk_le k z (fun κ1 => ?_) (fun κ1 => ?_) (((congrFun (hd.1 171 (by omega)) 7).trans hk)) (rfl) (by omega) (by omega)⟩
  · obtain rfl : z = k := by omega
    exact gT_k (hK X Y hd) ⟨rfl, rfl, trivial⟩ rfl
  · refine gT_n 8 ?_
    refine ⟨rfl, rfl, rfl, (pk_in z 25 (by omega) (rfl)), rfl, (pk_inS (m := 25) (k := z) (rfl) (by omega) (rfl)), ?_⟩
    refine gT_gn (b := 174) (n := z) (X := (J 189 z)) (rfl) (by omega) ((rdJ (rfl) (by omega) (congrFun (hd.2.1 189 (by omega)) z))) ?_
    refine gT_n 8 ?_
    refine ⟨rfl, rfl, rfl, (pk_in z 25 (by omega) (rfl)), rfl, (pk_inS (m := 25) (k := z) (rfl) (by omega) (rfl)), ?_⟩
    refine gT_ga (b := 175) (n := z) (X := (I 190 z)) (rfl) (by omega) ((rdI (rfl) (by omega) (congrFun (hd.1 190 (by omega)) z))) ?_
    refine gT_n 8 ?_
    refine ⟨rfl, rfl, rfl, (pk_in z 25 (by omega) (rfl)), rfl, (pk_inS (m := 25) (k := z) (rfl) (by omega) (rfl)), ?_⟩
    refine gT_ga (b := 176) (n := z) (X := (I 191 z)) (rfl) (by omega) ((rdI (rfl) (by omega) (congrFun (hd.1 191 (by omega)) z))) ?_
    refine gT_n 2 ?_
    have e' := ih (z + 1) (by omega) (by omega) _ _ (tD2_s hd)
    exact gT_k e' ⟨viI (nI_1 z), rfl, trivial⟩ rfl
theorem take_fin {I X1 X2 X3 : Nat → Nat → Int32} {J Y1 Y2 : Nat → Nat → Int64} {D : zD} (hD : dfm I J D) (hO : dOK D) (h172 : J 172 0 = lN (mo 0)) (h173 : I 173 0 = 1) (h173b : ∀ z, z < 4 → I 173 z = 0 ∨ I 173 z = 1) (hd1 : tD1 (gupI I 171 2 (nI D.1.1)) J X1 Y1 D.1.1) (hd2 : tD2 (gupI X1 171 7 (nI D.2.1.length)) Y1 X2 Y2 D.2.1.length) (hfr : aFr (gupI (gupI X2 171 3 (nI D.1.2.2.2)) 171 15 0) X3) (hdn : aDn D.1 X3 4) : ∃ X Y, X = gupI (gupI (gupI (gupI (gupI X3 171 46 0) 171 57 0) 171 56 0) 209 0 0) 209 1 0 ∧ Y = gupL Y2 171 16 (lN 0) ∧ mT (X 171 2) (Y 172) (X 173) D.1 ∧ X 171 3 = nI D.1.2.2.2 ∧ mR (X 171 7) (Y 174) (X 175) (X 176) D.2.1 ∧ aDn D.1 X 4 ∧ (X 171 15 = 0 ∧ X 171 56 = 0 ∧ X 171 46 = 0 ∧ X 171 57 = 0 ∧ X 209 0 = 0 ∧ X 209 1 = 0 ∧ Y 171 16 = lN 0) ∧ (X 171 18 = I 171 18 ∧ X 171 19 = I 171 19 ∧ X 188 = I 188 ∧ X 185 = I 185 ∧ X 186 = I 186) ∧ (∀ a, a < 171 → X a = I a) ∧ (∀ a, a < 171 → Y a = J a) := by
  have h4 := hO.1.2.1
  have e171 : X3 171 = upd (upd (upd (upd (I 171) 2 (nI D.1.1)) 7 (nI D.2.1.length)) 3 (nI D.1.2.2.2)) 15 0 := by
    rw [hfr 171 (by omega), gupI_b, gupI_b, hd2.1 171 (by omega), gupI_b, hd1.1 171 (by omega), gupI_b]
  have eo : ∀ a, ¬ a = 171 → ¬ a = 209 → ¬ (173 ≤ a ∧ a ≤ 183) → (gupI (gupI (gupI (gupI (gupI X3 171 46 0) 171 57 0) 171 56 0) 209 0 0) 209 1 0) a = I a := fun a g1 g2 g3 => by
    rw [gupI_n g2, gupI_n g2, gupI_n g1, gupI_n g1, gupI_n g1, hfr a (by omega), gupI_n g1, gupI_n g1, hd2.1 a (by omega), gupI_n g1, hd1.1 a (by omega), gupI_n g1]
  have e173 : ∀ y, X3 173 y = X1 173 y := fun y => by rw [hfr 173 (by omega), gupI_n (by omega), gupI_n (by omega), hd2.1 173 (by omega), gupI_n (by omega)]
  have e175 : X3 175 = X2 175 := by rw [hfr 175 (by omega), gupI_n (by omega), gupI_n (by omega)]
  have e176 : X3 176 = X2 176 := by rw [hfr 176 (by omega), gupI_n (by omega), gupI_n (by omega)]
  have g171 : ∀ f, ¬ f = 46 → ¬ f = 57 → ¬ f = 56 → (gupI (gupI (gupI (gupI (gupI X3 171 46 0) 171 57 0) 171 56 0) 209 0 0) 209 1 0) 171 f = X3 171 f := fun f g1 g2 g3 => by
    rw [gupI_n (by omega), gupI_n (by omega), gupI_b, gupI_b, gupI_b, upd_ne g3, upd_ne g2, upd_ne g1]
  refine ⟨_, _, rfl, rfl, ⟨?_, fun z hz => ?_, fun z hz => ?_, fun z hz => ?_⟩, ?_, ⟨?_, fun i hi => ?_⟩, hdn, ⟨?_, rfl, rfl, rfl, rfl, rfl, rfl⟩, ⟨?_, ?_, ?_, ?_, ?_⟩, fun a ha => ?_, fun a ha => ?_⟩
  · rw [g171 2 (by omega) (by omega) (by omega), e171]; rfl
  · show Y2 172 z = _
    rw [hd2.2.1 172 (by omega)]
    by_cases e : z = 0
    · rw [e, (hd1.2.2.1 0 (Or.inl rfl)).1, h172, hO.1.2.2.1]
    · rw [(hd1.2.2.2 z (by omega) hz).1]; exact (hD.2.1 z (by omega) hz).1
  · show X3 173 z = _
    rw [e173]
    by_cases e : z = 0
    · rw [e, (hd1.2.2.1 0 (Or.inl rfl)).2, hO.1.2.2.2.1]; exact h173
    · rw [(hd1.2.2.2 z (by omega) hz).2]; exact (hD.2.1 z (by omega) hz).2
  · show X3 173 z = 0 ∨ X3 173 z = 1
    rw [e173]
    by_cases e : z = 0 ∨ D.1.1 ≤ z
    · rw [(hd1.2.2.1 z e).2]; exact h173b z hz
    · rw [(hd1.2.2.2 z (by omega) (by omega)).2]; exact hD.2.2.1 z hz
  · rw [g171 3 (by omega) (by omega) (by omega), e171]; rfl
  · rw [g171 7 (by omega) (by omega) (by omega), e171]; rfl
  · show Y2 174 i = _ ∧ X3 175 i = _ ∧ X3 176 i = _
    have e := hd2.2.2 i hi
    have m := hD.2.2.2.1.2 i hi
    rw [e175, e176, e.1, e.2.1, e.2.2, hd1.2.1 189 (by omega), gupI_n (by omega), gupI_n (by omega), hd1.1 190 (by omega), hd1.1 191 (by omega), gupI_n (by omega), gupI_n (by omega)]
    exact m
  · rw [g171 15 (by omega) (by omega) (by omega), e171]; rfl
  · rw [g171 18 (by omega) (by omega) (by omega), e171]; rfl
  · rw [g171 19 (by omega) (by omega) (by omega), e171]; rfl
  · exact eo 188 (by omega) (by omega) (by omega)
  · exact eo 185 (by omega) (by omega) (by omega)
  · exact eo 186 (by omega) (by omega) (by omega)
  · exact eo a (by omega) (by omega) (by omega)
  · rw [gupL_n (by omega), hd2.2.1 a (by omega), hd1.2.1 a (by omega)]
theorem m_takesDraft {d : Nat} {D : zD} {I : Nat → Nat → Int32} {J : Nat → Nat → Int64} {P : Nat → Nat} (hD : dfm I J D) (hO : dOK D) (h172 : J 172 0 = lN (mo 0)) (h173 : I 173 0 = 1) (h173b : ∀ z, z < 4 → I 173 z = 0 ∨ I 173 z = 1) : gTM (d + 1) 196 [.ref 171] (gST I J P) (fun r u => r = none ∧ ∃ X Y, u = gST X Y P ∧ mT (X 171 2) (Y 172) (X 173) D.1 ∧ X 171 3 = nI D.1.2.2.2 ∧ mR (X 171 7) (Y 174) (X 175) (X 176) D.2.1 ∧ aDn D.1 X 4 ∧ (X 171 15 = 0 ∧ X 171 56 = 0 ∧ X 171 46 = 0 ∧ X 171 57 = 0 ∧ X 209 0 = 0 ∧ X 209 1 = 0 ∧ Y 171 16 = lN 0) ∧ (X 171 18 = I 171 18 ∧ X 171 19 = I 171 19 ∧ X 188 = I 188 ∧ X 185 = I 185 ∧ X 186 = I 186) ∧ (∀ a, a < 171 → X a = I a) ∧ (∀ a, a < 171 → Y a = J a)) := by
  have h4 := hO.1.2.1
  have h24 := hO.2.1.1
  have h99 := hO.2.2
  have hF : ∀ X1 Y1 X2 Y2 X3, tD1 (gupI I 171 2 (nI D.1.1)) J X1 Y1 D.1.1 → tD2 (gupI X1 171 7 (nI D.2.1.length)) Y1 X2 Y2 D.2.1.length → aFr (gupI (gupI X2 171 3 (nI D.1.2.2.2)) 171 15 0) X3 → aDn D.1 X3 4 → (none : Option Value) = none ∧ ∃ X Y, gST (gupI (gupI (gupI (gupI (gupI X3 171 46 0) 171 57 0) 171 56 0) 209 0 0) 209 1 0) (gupL Y2 171 16 (lN 0)) P = gST X Y P ∧ mT (X 171 2) (Y 172) (X 173) D.1 ∧ X 171 3 = nI D.1.2.2.2 ∧ mR (X 171 7) (Y 174) (X 175) (X 176) D.2.1 ∧ aDn D.1 X 4 ∧ (X 171 15 = 0 ∧ X 171 56 = 0 ∧ X 171 46 = 0 ∧ X 171 57 = 0 ∧ X 209 0 = 0 ∧ X 209 1 = 0 ∧ Y 171 16 = lN 0) ∧ (X 171 18 = I 171 18 ∧ X 171 19 = I 171 19 ∧ X 188 = I 188 ∧ X 185 = I 185 ∧ X 186 = I 186) ∧ (∀ a, a < 171 → X a = I a) ∧ (∀ a, a < 171 → Y a = J a) := fun X1 Y1 X2 Y2 X3 hd1 hd2 hfr hdn => by
    obtain ⟨X, Y, rfl, rfl, h⟩ := take_fin hD hO h172 h173 h173b hd1 hd2 hfr hdn
    exact ⟨rfl, _, _, rfl, h⟩
  refine gT_n 4 ?_
  refine ⟨rfl, rfl, ?_⟩
  refine gT_gp (b := 171) (X := (nI D.1.1)) (hD.1) ?_
  refine gT_n 2 ?_
  refine gT_k (m_take1 (k := D.1.1) (I := (gupI I 171 2 (nI D.1.1))) (J := J) (by omega) rfl hD.2.2.1 (fun X1 Y1 hd1 => ?_) 1 hO.1.1 _ _ (Nat.le_refl _) ⟨fun _ _ => rfl, fun _ _ => rfl, fun _ _ => ⟨rfl, rfl⟩, fun y g1 g2 => absurd g2 (by omega)⟩) ⟨rfl, rfl, trivial⟩ rfl
  refine gT_n 4 ?_
  refine ⟨rfl, rfl, ?_⟩
  refine gT_gp (b := 171) (X := (nI D.2.1.length)) (((congrFun (hd1.1 171 (by omega)) 33).trans hD.2.2.2.1.1)) ?_
  refine gT_n 2 ?_
  refine gT_k (m_take2 (k := D.2.1.length) (I := (gupI X1 171 7 (nI D.2.1.length))) (J := Y1) (by omega) rfl (fun X2 Y2 hd2 => ?_) 0 (Nat.zero_le _) _ _ ⟨fun _ _ => rfl, fun _ _ => rfl, fun y g1 => absurd g1 (Nat.not_lt_zero y)⟩) ⟨rfl, rfl, trivial⟩ rfl
  have hx173 : ∀ z, z < D.1.1 → gupI X2 171 3 (nI D.1.2.2.2) 173 z = bI (D.1.2.2.1 z) := fun z hz => by
    rw [gupI_n (by omega), hd2.1 173 (by omega), gupI_n (by omega)]
    by_cases e : z = 0
    · rw [e, (hd1.2.2.1 0 (Or.inl rfl)).2, gupI_n (by omega), hO.1.2.2.2.1]; exact h173
    · rw [(hd1.2.2.2 z (by omega) hz).2, gupI_n (by omega)]; exact (hD.2.1 z (by omega) hz).2
  have hx171 : (gupI X2 171 3 (nI D.1.2.2.2)) 171 = upd (upd (upd (I 171) 2 (nI D.1.1)) 7 (nI D.2.1.length)) 3 (nI D.1.2.2.2) := by
    rw [gupI_b, hd2.1 171 (by omega), gupI_b, hd1.1 171 (by omega), gupI_b]
  refine gT_n 4 ?_
  refine ⟨rfl, rfl, ?_⟩
  refine gT_gp (b := 171) (X := (nI D.1.2.2.2)) (((congrFun (hd2.1 171 (by omega)) 34).trans ((congrFun (hd1.1 171 (by omega)) 34).trans hD.2.2.2.2.1))) ?_
  refine gT_n 2 ?_
  refine ⟨rfl, rfl, gTM.use (m_anew (t := D.1) (I := gupI X2 171 3 (nI D.1.2.2.2)) (J := Y2) hO.1 (congrFun hx171 2) (fun z hz => hx173 z hz)) (Nat.le_refl _) (fun r u hq => ?_)⟩
  obtain ⟨rfl, X3, rfl, hfr, hdn⟩ := hq  -- X12_anew[R171]
  refine gT_n 1 ?_
  refine ⟨rfl, ?_⟩
  exact hF X1 Y1 X2 Y2 X3 hd1 hd2 hfr hdn
