/-! entries that come; numbers taken; items looked at: the class -/
theorem eg_app1 {l X : List zE} {j : Nat} (h : j < l.length) : eg (l ++ X) j = eg l j := by
  unfold eg
  rw [List.getD_eq_getElem?_getD, List.getD_eq_getElem?_getD, List.getElem?_append_left h]
theorem eg_app2 {l : List zE} {q : zE} : eg (l ++ [q]) l.length = q := by
  unfold eg
  rw [List.getD_eq_getElem?_getD, List.getElem?_append_right (Nat.le_refl _), Nat.sub_self]; rfl
theorem eg_era {l : List zE} {a j : Nat} : eg (l.eraseIdx a) j = if j < a then eg l j else eg l (j + 1) := by
  unfold eg
  rw [List.getD_eq_getElem?_getD, List.getElem?_eraseIdx]
  by_cases h : j < a
  · rw [if_pos h, if_pos h, List.getD_eq_getElem?_getD]
  · rw [if_neg h, if_neg h, List.getD_eq_getElem?_getD]
theorem sE_len {C : List zE} {z : Nat} {k : Int32} {r : Option Nat} (h4 : C.length ≤ 4) (h : isE C z k r) : (sE C r).length ≤ 3 := by
  cases r with
  | some a =>
    show (C.eraseIdx a).length ≤ 3
    rw [List.length_eraseIdx_of_lt h.1]; omega
  | none =>
    show (if C.length = 4 then C.tail else C).length ≤ 3
    by_cases g : C.length = 4
    · rw [if_pos g, List.length_tail]; omega
    · rw [if_neg g]; omega
theorem c_takeOutN {d : Nat} {w : gW} (ho : gob w 25 = some 0) : gTM d 7 [.ref 25, .int (-4)] w (fun r u => r = none ∧ u = w) := by
  refine gT_n 2 ?_
  refine ⟨fun _ => ?_, fun c => absurd (by decide) c⟩
  refine gT_n 1 ?_
  refine ⟨rfl, ?_⟩
  exact ⟨rfl, rfl⟩
theorem c_storeT168 {d z n : Nat} {k : Int32} {tl : Int64} {f : Nat → zE} {I X : Nat → Nat → Int32} {J : Nat → Nat → Int64} {Y : Nat → Int64} {P : Nat → Nat} (hX : X 25 4 = nI n) (hn : n < 4) (hF : cF (X 26) (X 27) Y (fun j => X (30 + j)) f n) : gT d 6 23 [(0, .ref 25), (1, .int (nI z)), (2, .int k), (3, .ref 168), (4, .long tl)] [] (0, 0) (gST (kM I X) (m1 J 28 Y) P) (fun r u => r = none ∧ ∃ X' Y', u = gST (kM I X') (m1 J 28 Y') P ∧ X' 25 4 = nI (n + 1) ∧ (∀ j, 167 ≤ j → X' j = X j) ∧ cF (X' 26) (X' 27) Y' (fun j => X' (30 + j)) (fun j => if j < n then f j else (z, k, (X 168 0, X 168 1, X 168 2), tl)) (n + 1)) := by
  refine gT_n 6 ?_
  refine ⟨rfl, rfl, rfl, (pk_inS (m := 4) (k := n) (rfl) (by omega) ((by first | exact hX | exact (congrFun (vu_n (b := 30 + n) (a := 25) (by omega)) 4).trans hX))), ?_⟩
  refine gT_kA (b := 26) rfl (n := n) (X := (nI z)) ((by first | exact hX | exact (congrFun (vu_n (b := 30 + n) (a := 25) (by omega)) 4).trans hX)) (by omega) (rfl) ?_
  refine gT_n 6 ?_
  refine ⟨rfl, rfl, rfl, (pk_inS (m := 4) (k := n) (rfl) (by omega) ((by first | exact hX | exact (congrFun (vu_n (b := 30 + n) (a := 25) (by omega)) 4).trans hX))), ?_⟩
  refine gT_kA (b := 27) rfl (n := n) (X := k) ((by first | exact hX | exact (congrFun (vu_n (b := 30 + n) (a := 25) (by omega)) 4).trans hX)) (by omega) (rfl) ?_
  refine gT_n 6 ?_
  refine ⟨rfl, rfl, rfl, (pk_inS (m := 4) (k := n) (rfl) (by omega) ((by first | exact hX | exact (congrFun (vu_n (b := 30 + n) (a := 25) (by omega)) 4).trans hX))), ?_⟩
  refine gT_kJ (n := n) (X := tl) ((by first | exact hX | exact (congrFun (vu_n (b := 30 + n) (a := 25) (by omega)) 4).trans hX)) (by omega) (rfl) ?_
  refine gT_n 7 ?_
  refine ⟨rfl, rfl, rfl, (pk_in n 4 (by omega) ((by first | exact hX | exact (congrFun (vu_n (b := 30 + n) (a := 25) (by omega)) 4).trans hX))), ?_⟩
  refine gT_top (aa_ref (b := 30 + n) ((by first | exact hX | exact (congrFun (vu_n (b := 30 + n) (a := 25) (by omega)) 4).trans hX)) (by omega) (kR30 (I := I) (J := J) (P := P) (by omega)).2.2) ?_
  refine gT_n 3 ?_
  refine ⟨rfl, rfl, (kR30 (by omega)).1, ⟨by decide, by decide, by decide, by show 0 + 3 ≤ 3; decide, by rw [(kR30 (by omega)).2.1]; decide⟩, ?_⟩
  refine gT_kC (c := 168) (k30 (by omega)) rfl ?_
  refine gT_n 6 ?_
  refine ⟨rfl, rfl, ?_⟩
  refine gT_kP (b := 25) rfl (X := (nI (n + 1))) (pk_addE (n := n) (k := 1) ((by first | exact hX | exact (congrFun (vu_n (b := 30 + n) (a := 25) (by omega)) 4).trans hX)) (rfl)) ?_
  refine gT_n 1 ?_
  refine ⟨rfl, ?_⟩
  refine ⟨rfl, _, _, rfl, gupI_rr, fun j hj => ?_, fun j hj => ?_⟩
  · rw [gupI_n (by omega), vu_n (by omega), gupI_n (by omega), gupI_n (by omega)]
  dsimp only
  unfold cE1
  dsimp only
  rw [gupI_n (a := 26) (by omega), gupI_n (a := 27) (by omega), gupI_n (a := 30 + j) (by omega), vu_n (a := 26) (by omega), vu_n (a := 27) (by omega), gupI_n (a := 26) (by omega), gupI_b, gupI_b, gupI_n (a := 27) (by omega)]
  by_cases g : j = n
  · subst g
    rw [if_neg (by omega), upd_at, upd_at, updL_at, vu_b]
    rw [gupI_n (a := 168) (by omega), gupI_n (a := 168) (by omega)]
    exact ⟨rfl, rfl, rfl, rfl, rfl, rfl⟩
  · have h := hF j (by omega)
    rw [if_pos (by omega), upd_ne g, upd_ne g, updL_ne g, vu_n (by omega), gupI_n (by omega), gupI_n (by omega)]
    exact h
theorem cH_app {X : Nat → Nat → Int32} {Y : Nat → Int64} {C : List zE} {e e' : zE} {f : Nat → zE} {n : Nat} (h : X 25 4 = nI (C.length + 1)) (hF : cF (X 26) (X 27) Y (fun j => X (30 + j)) (fun j => if j < n then f j else e) (n + 1)) (hn : C.length = n) (hf : ∀ j, j < n → f j = eg C j) (he : e = e') : cH X Y (C ++ [e']) := by
  subst he hn
  refine ⟨by rw [List.length_append]; exact h, fun j hj => ?_⟩
  rw [List.length_append] at hj
  have hj : j < C.length + 1 := hj
  have g := hF j hj
  dsimp only at g
  rcases Nat.lt_or_ge j C.length with q | q
  · rw [if_pos q, hf j q] at g
    rw [eg_app1 q]; exact g
  · obtain rfl : j = C.length := by omega
    rw [if_neg (by omega)] at g
    rw [eg_app2]; exact g
theorem c_store168 {d z : Nat} {k : Int32} {tl : Int64} {I X : Nat → Nat → Int32} {J : Nat → Nat → Int64} {Y : Nat → Int64} {P : Nat → Nat} {C : List zE} (hH : cH X Y C) (hC4 : C.length ≤ 4) (hz4 : ∀ j, j < C.length → (eg C j).1 < 4) (hz : z < 4) : gTM (d + 1) 6 [.ref 25, .int (nI z), .int k, .ref 168, .long tl] (gST (kM I X) (m1 J 28 Y) P) (fun r u => r = none ∧ ∃ X' Y' r0, isE C z k r0 ∧ u = gST (kM I X') (m1 J 28 Y') P ∧ (∀ j, 167 ≤ j → X' j = X j) ∧ cH X' Y' (sE C r0 ++ [(z, k, (X 168 0, X 168 1, X 168 2), tl)])) := by
  have hcC : ∀ {a}, a < C.length → cF (X 26) (X 27) Y (fun j => X (30 + j)) (eg C) (C.length - 1 + 1) := fun {a} h => by rw [show C.length - 1 + 1 = C.length by omega]; exact hH.2
  refine gT_n 5 ?_
  refine ⟨rfl, rfl, gTM.use (c_eix hH hC4 hz4 hz) (Nat.le_refl _) (fun r u hq => ?_)⟩
  obtain ⟨rfl, ⟨a, ha, rfl⟩ | ⟨ha, rfl⟩⟩ := hq  -- X0_indexOf[R25, nI z, k]
  · refine gT_n 1 ?_
    refine ⟨rfl, rfl, gTM.use (c_takeOut (n := C.length - 1) (f := eg C) (hH.1.trans (congrArg nI (by have := ha.1; omega))) (by have := ha.1; omega) (by omega) (hcC ha.1)) (Nat.le_refl _) (fun r u hq => ?_)⟩
    obtain ⟨rfl, X1, Y1, rfl, hX1, hFr1, hF1⟩ := hq  -- X0_takeOut[R25, nI a]
    refine gT_n 4 ?_
    refine ⟨rfl, pk_lt ((C.length - 1)) 4 (fun κ1 => ?_) (fun κ1 => ?_) (hX1) (rfl) (by omega) (by omega)⟩
    · refine gT_k (gT_mono _ _ _ _ _ _ _ _ _ (fun r u h => ?_) (c_storeT168 (f := fun j => if j < a then eg C j else eg C (j + 1)) hX1 (by omega) hF1)) ⟨rfl, rfl, rfl, rfl, rfl, trivial⟩ rfl
      obtain ⟨h1, X2, Y2, h2, h3, h4, h5⟩ := h
      refine ⟨h1, X2, Y2, some a, ha, h2, fun j hj => (h4 j hj).trans (hFr1 j hj), ?_⟩
      exact cH_app (by rw [show (sE C (some a)).length = C.length - 1 from List.length_eraseIdx_of_lt ha.1]; exact h3) h5 (List.length_eraseIdx_of_lt ha.1) (fun j _ => eg_era.symm) (by rw [hFr1 168 (by decide)])
    · exact absurd (show C.length ≤ 4 from hC4) (by omega)
  · refine gT_n 1 ?_
    refine ⟨rfl, rfl, gTM.use (c_takeOutN rfl) (Nat.le_refl _) (fun r u hq => ?_)⟩
    obtain ⟨rfl, rfl⟩ := hq  -- X0_takeOut[R25, K-4]
    refine gT_n 4 ?_
    refine ⟨rfl, pk_lt C.length 4 (fun κ1 => ?_) (fun κ1 => ?_) (hH.1) (rfl) (by omega) (by omega)⟩
    · refine gT_k (gT_mono _ _ _ _ _ _ _ _ _ (fun r u h => ?_) (c_storeT168 (f := eg C) hH.1 (by omega) hH.2)) ⟨rfl, rfl, rfl, rfl, rfl, trivial⟩ rfl
      obtain ⟨h1, X2, Y2, h2, h3, h4, h5⟩ := h
      refine ⟨h1, X2, Y2, none, ha, h2, fun j hj => h4 j hj, ?_⟩
      exact cH_app (by rw [show (sE C none).length = C.length from by show (if C.length = 4 then C.tail else C).length = _; rw [if_neg (by omega)]]; exact h3) h5 (by show (if C.length = 4 then C.tail else C).length = _; rw [if_neg (by omega)]) (fun j _ => by show eg C j = eg (if C.length = 4 then C.tail else C) j; rw [if_neg (by omega)]) rfl
    · refine gT_n 3 ?_
      have hC4e : C.length = 4 := by omega
      refine ⟨rfl, rfl, gTM.use (c_takeOut (a := 0) (n := 3) (f := eg C) (hH.1.trans (congrArg nI hC4e)) (by decide) (by decide) (by have h := hH.2; rw [hC4e] at h; exact h)) (Nat.le_refl _) (fun r u hq => ?_)⟩
      obtain ⟨rfl, X1, Y1, rfl, hX1, hFr1, hF1⟩ := hq  -- X0_takeOut[R25, K0]
      refine gT_k (gT_mono _ _ _ _ _ _ _ _ _ (fun r u h => ?_) (c_storeT168 (f := fun j => if j < 0 then eg C j else eg C (j + 1)) hX1 (by omega) hF1)) ⟨rfl, rfl, rfl, rfl, rfl, trivial⟩ rfl
      obtain ⟨h1, X2, Y2, h2, h3, h4, h5⟩ := h
      refine ⟨h1, X2, Y2, none, ha, h2, fun j hj => (h4 j hj).trans (hFr1 j hj), ?_⟩
      exact cH_app (by rw [show (sE C none).length = 3 from by show (if C.length = 4 then C.tail else C).length = _; rw [if_pos hC4e, List.length_tail]; omega]; exact h3) h5 (by show (if C.length = 4 then C.tail else C).length = _; rw [if_pos hC4e, List.length_tail]; omega) (fun j _ => by show (if j < 0 then eg C j else eg C (j + 1)) = eg (if C.length = 4 then C.tail else C) j; rw [if_pos hC4e, if_neg (by omega)]; unfold eg; rw [List.getD_eq_getElem?_getD, List.getD_eq_getElem?_getD, List.getElem?_tail]) (by rw [hFr1 168 (by decide)])
theorem c_storeT169 {d z n : Nat} {k : Int32} {tl : Int64} {f : Nat → zE} {I X : Nat → Nat → Int32} {J : Nat → Nat → Int64} {Y : Nat → Int64} {P : Nat → Nat} (hX : X 25 4 = nI n) (hn : n < 4) (hF : cF (X 26) (X 27) Y (fun j => X (30 + j)) f n) : gT d 6 23 [(0, .ref 25), (1, .int (nI z)), (2, .int k), (3, .ref 169), (4, .long tl)] [] (0, 0) (gST (kM I X) (m1 J 28 Y) P) (fun r u => r = none ∧ ∃ X' Y', u = gST (kM I X') (m1 J 28 Y') P ∧ X' 25 4 = nI (n + 1) ∧ (∀ j, 167 ≤ j → X' j = X j) ∧ cF (X' 26) (X' 27) Y' (fun j => X' (30 + j)) (fun j => if j < n then f j else (z, k, (X 169 0, X 169 1, X 169 2), tl)) (n + 1)) := by
  refine gT_n 6 ?_
  refine ⟨rfl, rfl, rfl, (pk_inS (m := 4) (k := n) (rfl) (by omega) ((by first | exact hX | exact (congrFun (vu_n (b := 30 + n) (a := 25) (by omega)) 4).trans hX))), ?_⟩
  refine gT_kA (b := 26) rfl (n := n) (X := (nI z)) ((by first | exact hX | exact (congrFun (vu_n (b := 30 + n) (a := 25) (by omega)) 4).trans hX)) (by omega) (rfl) ?_
  refine gT_n 6 ?_
  refine ⟨rfl, rfl, rfl, (pk_inS (m := 4) (k := n) (rfl) (by omega) ((by first | exact hX | exact (congrFun (vu_n (b := 30 + n) (a := 25) (by omega)) 4).trans hX))), ?_⟩
  refine gT_kA (b := 27) rfl (n := n) (X := k) ((by first | exact hX | exact (congrFun (vu_n (b := 30 + n) (a := 25) (by omega)) 4).trans hX)) (by omega) (rfl) ?_
  refine gT_n 6 ?_
  refine ⟨rfl, rfl, rfl, (pk_inS (m := 4) (k := n) (rfl) (by omega) ((by first | exact hX | exact (congrFun (vu_n (b := 30 + n) (a := 25) (by omega)) 4).trans hX))), ?_⟩
  refine gT_kJ (n := n) (X := tl) ((by first | exact hX | exact (congrFun (vu_n (b := 30 + n) (a := 25) (by omega)) 4).trans hX)) (by omega) (rfl) ?_
  refine gT_n 7 ?_
  refine ⟨rfl, rfl, rfl, (pk_in n 4 (by omega) ((by first | exact hX | exact (congrFun (vu_n (b := 30 + n) (a := 25) (by omega)) 4).trans hX))), ?_⟩
  refine gT_top (aa_ref (b := 30 + n) ((by first | exact hX | exact (congrFun (vu_n (b := 30 + n) (a := 25) (by omega)) 4).trans hX)) (by omega) (kR30 (I := I) (J := J) (P := P) (by omega)).2.2) ?_
  refine gT_n 3 ?_
  refine ⟨rfl, rfl, (kR30 (by omega)).1, ⟨by decide, by decide, by decide, by show 0 + 3 ≤ 3; decide, by rw [(kR30 (by omega)).2.1]; decide⟩, ?_⟩
  refine gT_kC (c := 169) (k30 (by omega)) rfl ?_
  refine gT_n 6 ?_
  refine ⟨rfl, rfl, ?_⟩
  refine gT_kP (b := 25) rfl (X := (nI (n + 1))) (pk_addE (n := n) (k := 1) ((by first | exact hX | exact (congrFun (vu_n (b := 30 + n) (a := 25) (by omega)) 4).trans hX)) (rfl)) ?_
  refine gT_n 1 ?_
  refine ⟨rfl, ?_⟩
  refine ⟨rfl, _, _, rfl, gupI_rr, fun j hj => ?_, fun j hj => ?_⟩
  · rw [gupI_n (by omega), vu_n (by omega), gupI_n (by omega), gupI_n (by omega)]
  dsimp only
  unfold cE1
  dsimp only
  rw [gupI_n (a := 26) (by omega), gupI_n (a := 27) (by omega), gupI_n (a := 30 + j) (by omega), vu_n (a := 26) (by omega), vu_n (a := 27) (by omega), gupI_n (a := 26) (by omega), gupI_b, gupI_b, gupI_n (a := 27) (by omega)]
  by_cases g : j = n
  · subst g
    rw [if_neg (by omega), upd_at, upd_at, updL_at, vu_b]
    rw [gupI_n (a := 169) (by omega), gupI_n (a := 169) (by omega)]
    exact ⟨rfl, rfl, rfl, rfl, rfl, rfl⟩
  · have h := hF j (by omega)
    rw [if_pos (by omega), upd_ne g, upd_ne g, updL_ne g, vu_n (by omega), gupI_n (by omega), gupI_n (by omega)]
    exact h
theorem c_store169 {d z : Nat} {k : Int32} {tl : Int64} {I X : Nat → Nat → Int32} {J : Nat → Nat → Int64} {Y : Nat → Int64} {P : Nat → Nat} {C : List zE} (hH : cH X Y C) (hC4 : C.length ≤ 4) (hz4 : ∀ j, j < C.length → (eg C j).1 < 4) (hz : z < 4) : gTM (d + 1) 6 [.ref 25, .int (nI z), .int k, .ref 169, .long tl] (gST (kM I X) (m1 J 28 Y) P) (fun r u => r = none ∧ ∃ X' Y' r0, isE C z k r0 ∧ u = gST (kM I X') (m1 J 28 Y') P ∧ (∀ j, 167 ≤ j → X' j = X j) ∧ cH X' Y' (sE C r0 ++ [(z, k, (X 169 0, X 169 1, X 169 2), tl)])) := by
  have hcC : ∀ {a}, a < C.length → cF (X 26) (X 27) Y (fun j => X (30 + j)) (eg C) (C.length - 1 + 1) := fun {a} h => by rw [show C.length - 1 + 1 = C.length by omega]; exact hH.2
  refine gT_n 5 ?_
  refine ⟨rfl, rfl, gTM.use (c_eix hH hC4 hz4 hz) (Nat.le_refl _) (fun r u hq => ?_)⟩
  obtain ⟨rfl, ⟨a, ha, rfl⟩ | ⟨ha, rfl⟩⟩ := hq  -- X0_indexOf[R25, nI z, k]
  · refine gT_n 1 ?_
    refine ⟨rfl, rfl, gTM.use (c_takeOut (n := C.length - 1) (f := eg C) (hH.1.trans (congrArg nI (by have := ha.1; omega))) (by have := ha.1; omega) (by omega) (hcC ha.1)) (Nat.le_refl _) (fun r u hq => ?_)⟩
    obtain ⟨rfl, X1, Y1, rfl, hX1, hFr1, hF1⟩ := hq  -- X0_takeOut[R25, nI a]
    refine gT_n 4 ?_
    refine ⟨rfl, pk_lt ((C.length - 1)) 4 (fun κ1 => ?_) (fun κ1 => ?_) (hX1) (rfl) (by omega) (by omega)⟩
    · refine gT_k (gT_mono _ _ _ _ _ _ _ _ _ (fun r u h => ?_) (c_storeT169 (f := fun j => if j < a then eg C j else eg C (j + 1)) hX1 (by omega) hF1)) ⟨rfl, rfl, rfl, rfl, rfl, trivial⟩ rfl
      obtain ⟨h1, X2, Y2, h2, h3, h4, h5⟩ := h
      refine ⟨h1, X2, Y2, some a, ha, h2, fun j hj => (h4 j hj).trans (hFr1 j hj), ?_⟩
      exact cH_app (by rw [show (sE C (some a)).length = C.length - 1 from List.length_eraseIdx_of_lt ha.1]; exact h3) h5 (List.length_eraseIdx_of_lt ha.1) (fun j _ => eg_era.symm) (by rw [hFr1 169 (by decide)])
    · exact absurd (show C.length ≤ 4 from hC4) (by omega)
  · refine gT_n 1 ?_
    refine ⟨rfl, rfl, gTM.use (c_takeOutN rfl) (Nat.le_refl _) (fun r u hq => ?_)⟩
    obtain ⟨rfl, rfl⟩ := hq  -- X0_takeOut[R25, K-4]
    refine gT_n 4 ?_
    refine ⟨rfl, pk_lt C.length 4 (fun κ1 => ?_) (fun κ1 => ?_) (hH.1) (rfl) (by omega) (by omega)⟩
    · refine gT_k (gT_mono _ _ _ _ _ _ _ _ _ (fun r u h => ?_) (c_storeT169 (f := eg C) hH.1 (by omega) hH.2)) ⟨rfl, rfl, rfl, rfl, rfl, trivial⟩ rfl
      obtain ⟨h1, X2, Y2, h2, h3, h4, h5⟩ := h
      refine ⟨h1, X2, Y2, none, ha, h2, fun j hj => h4 j hj, ?_⟩
      exact cH_app (by rw [show (sE C none).length = C.length from by show (if C.length = 4 then C.tail else C).length = _; rw [if_neg (by omega)]]; exact h3) h5 (by show (if C.length = 4 then C.tail else C).length = _; rw [if_neg (by omega)]) (fun j _ => by show eg C j = eg (if C.length = 4 then C.tail else C) j; rw [if_neg (by omega)]) rfl
    · refine gT_n 3 ?_
      have hC4e : C.length = 4 := by omega
      refine ⟨rfl, rfl, gTM.use (c_takeOut (a := 0) (n := 3) (f := eg C) (hH.1.trans (congrArg nI hC4e)) (by decide) (by decide) (by have h := hH.2; rw [hC4e] at h; exact h)) (Nat.le_refl _) (fun r u hq => ?_)⟩
      obtain ⟨rfl, X1, Y1, rfl, hX1, hFr1, hF1⟩ := hq  -- X0_takeOut[R25, K0]
      refine gT_k (gT_mono _ _ _ _ _ _ _ _ _ (fun r u h => ?_) (c_storeT169 (f := fun j => if j < 0 then eg C j else eg C (j + 1)) hX1 (by omega) hF1)) ⟨rfl, rfl, rfl, rfl, rfl, trivial⟩ rfl
      obtain ⟨h1, X2, Y2, h2, h3, h4, h5⟩ := h
      refine ⟨h1, X2, Y2, none, ha, h2, fun j hj => (h4 j hj).trans (hFr1 j hj), ?_⟩
      exact cH_app (by rw [show (sE C none).length = 3 from by show (if C.length = 4 then C.tail else C).length = _; rw [if_pos hC4e, List.length_tail]; omega]; exact h3) h5 (by show (if C.length = 4 then C.tail else C).length = _; rw [if_pos hC4e, List.length_tail]; omega) (fun j _ => by show (if j < 0 then eg C j else eg C (j + 1)) = eg (if C.length = 4 then C.tail else C) j; rw [if_pos hC4e, if_neg (by omega)]; unfold eg; rw [List.getD_eq_getElem?_getD, List.getD_eq_getElem?_getD, List.getElem?_tail]) (by rw [hFr1 169 (by decide)])
