/-! entries that come, numbers taken: the reference -/
def mtm (I : Nat → Nat → Int32) (J : Nat → Nat → Int64) (l : List zI) : Prop := ∀ k, k < l.length → mI k (I 193) (I 194) (I 197) (I 198) (I 199) (I 200) (J 195) (J 196) (ig l k)
theorem nH_app {X : Nat → Nat → Int32} {Y : Nat → Int64} {C : List zE} {e e' : zE} {f : Nat → zE} {n : Nat} (h : X 171 56 = nI (C.length + 1)) (hF : nC (X 202) (X 203) Y (X 204) (fun j => if j < n then f j else e) (n + 1)) (hn : C.length = n) (hf : ∀ j, j < n → f j = eg C j) (he : e = e') : nH X Y (C ++ [e']) := by
  subst he hn
  refine ⟨by rw [List.length_append]; exact h, fun j hj => ?_⟩
  rw [List.length_append] at hj
  have hj : j < C.length + 1 := hj
  have g := hF j hj
  dsimp only at g
  rcases Nat.lt_or_ge j C.length with q | q
  · rw [if_pos q, hf j q] at g
    rw [eg_app1 q]; exact g
  · obtain rfl : j = C.length := by omega
    rw [if_neg (by omega)] at g
    rw [eg_app2]; exact g
theorem m_entryT {d z n : Nat} {k : Int32} {f : Nat → zE} {I X : Nat → Nat → Int32} {J : Nat → Nat → Int64} {Y : Nat → Int64} {P : Nat → Nat} {t : zT} {l : List zI} (hit : mtm I J l) (h10 : l.length ≤ 10) (hok : vIs t l) {i : Nat} (hi : i < l.length) {pk : Int32} (hpk : I 171 47 = pk) (hsp : I 171 3 = nI t.2.2.2) (hz : z < 4) (hX : X 171 56 = nI n) (hn : n < 4) (hF : nC (X 202) (X 203) Y (X 204) f n) : gT d 245 37 [(0, .ref 171), (1, .int (nI z)), (2, .int k), (3, .int (nI i))] [] (0, 0) (gST (nM I X) (m1 J 205 Y) P) (fun r u => r = none ∧ ∃ X' Y', u = gST (nM I X') (m1 J 205 Y') P ∧ X' 171 56 = nI (n + 1) ∧ X' 171 60 = X 171 60 + 1 ∧ (∀ f, ¬ f = 56 → ¬ f = 60 → X' 171 f = X 171 f) ∧ (∀ j, 206 ≤ j → X' j = X j) ∧ X' 201 = X 201 ∧ nC (X' 202) (X' 203) Y' (X' 204) (fun j => if j < n then f j else (z, k, cm3 (ig l i).2.2.2.2.2.1, tll t pk)) (n + 1)) := by
  have hI := hit i hi
  refine gT_n 6 ?_
  refine ⟨rfl, rfl, rfl, (pk_inS (m := 5) (k := n) (rfl) (by omega) (hX)), ?_⟩
  refine gT_nA (b := 202) rfl (n := n) (X := (nI z)) (hX) (by omega) (rfl) ?_
  refine gT_n 6 ?_
  refine ⟨rfl, rfl, rfl, (pk_inS (m := 5) (k := n) (rfl) (by omega) (hX)), ?_⟩
  refine gT_nA (b := 203) rfl (n := n) (X := k) (hX) (by omega) (rfl) ?_
  refine gT_n 12 ?_
  refine ⟨rfl, rfl, rfl, rfl, rfl, (pk_inS (m := 5) (k := n) (rfl) (by omega) (hX)), ?_⟩
  refine gT_nJ (n := n) (X := ((pk).toInt64 + ((nI t.2.2.2)).toInt64)) (hX) (by omega) ((k2J (f := fun x y : Int64 => x + y) ((congrArg Int32.toInt64 (hpk))) ((congrArg Int32.toInt64 (hsp))) rfl)) ?_
  refine gT_n 4 ?_
  refine gT_k (L := [(6, .int 0), (5, .int 0), (0, .ref 171), (1, .int (nI z)), (2, .int k), (3, .int (nI i))]) ?_ ⟨rfl, rfl, rfl, rfl, rfl, rfl, trivial⟩ rfl
  refine gT_n 3 ?_
  refine ⟨fun c => absurd c (by decide), fun _ => ?_⟩
  refine gT_n 10 ?_
  refine ⟨rfl, rfl, rfl, (pk_inS (m := 15) (k := ((3 * n) + 0)) (rfl) (by omega) (pk_addE (n := (3 * n)) (k := 0) (pk_mulE (n := 3) (k := n) (rfl) (hX)) (rfl))), ?_⟩
  refine gT_nA (b := 204) rfl (n := ((3 * n) + 0)) (X := 0) (pk_addE (n := (3 * n)) (k := 0) (pk_mulE (n := 3) (k := n) (rfl) (hX)) (rfl)) (by omega) (rfl) ?_
  refine gT_n 9 ?_
  refine ⟨rfl, rfl, (pk_in ((3 * i) + 0) 30 (by omega) (pk_addE (n := (3 * i)) (k := 0) (pk_mulE (n := 3) (k := i) (rfl) (rfl)) (rfl))), px_le (X := (ig l i).2.2.2.2.2.1.1) (Y := (0)) ((rdI (k := 3 * i + 0) (Eq.trans (pk_addE (n := (3 * i)) (k := 0) (pk_mulE (n := 3) (k := i) (rfl) (rfl)) (rfl)) (congrArg nI (show ((3 * i) + 0) = 3 * i + 0 by omega))) (by omega) hI.2.2.1)) (rfl) (fun κ1 => ?_) (fun κ1 => ?_)⟩
  · refine gT_n 2 ?_
    refine gT_k (L := [(6, .int 1), (5, .int 0), (0, .ref 171), (1, .int (nI z)), (2, .int k), (3, .int (nI i))]) ?_ ⟨rfl, rfl, rfl, rfl, rfl, rfl, trivial⟩ rfl
    refine gT_n 3 ?_
    refine ⟨fun c => absurd c (by decide), fun _ => ?_⟩
    refine gT_n 10 ?_
    refine ⟨rfl, rfl, rfl, (pk_inS (m := 15) (k := ((3 * n) + 1)) (rfl) (by omega) (pk_addE (n := (3 * n)) (k := 1) (pk_mulE (n := 3) (k := n) (rfl) (hX)) (rfl))), ?_⟩
    refine gT_nA (b := 204) rfl (n := ((3 * n) + 1)) (X := 0) (pk_addE (n := (3 * n)) (k := 1) (pk_mulE (n := 3) (k := n) (rfl) (hX)) (rfl)) (by omega) (rfl) ?_
    refine gT_n 9 ?_
    refine ⟨rfl, rfl, (pk_in ((3 * i) + 1) 30 (by omega) (pk_addE (n := (3 * i)) (k := 1) (pk_mulE (n := 3) (k := i) (rfl) (rfl)) (rfl))), px_le (X := (ig l i).2.2.2.2.2.1.2.1) (Y := (0)) ((rdI (k := 3 * i + 1) (Eq.trans (pk_addE (n := (3 * i)) (k := 1) (pk_mulE (n := 3) (k := i) (rfl) (rfl)) (rfl)) (congrArg nI (show ((3 * i) + 1) = 3 * i + 1 by omega))) (by omega) hI.2.2.2.1)) (rfl) (fun κ2 => ?_) (fun κ2 => ?_)⟩
    · refine gT_n 2 ?_
      refine gT_k (L := [(6, .int 2), (5, .int 0), (0, .ref 171), (1, .int (nI z)), (2, .int k), (3, .int (nI i))]) ?_ ⟨rfl, rfl, rfl, rfl, rfl, rfl, trivial⟩ rfl
      refine gT_n 3 ?_
      refine ⟨fun c => absurd c (by decide), fun _ => ?_⟩
      refine gT_n 10 ?_
      refine ⟨rfl, rfl, rfl, (pk_inS (m := 15) (k := ((3 * n) + 2)) (rfl) (by omega) (pk_addE (n := (3 * n)) (k := 2) (pk_mulE (n := 3) (k := n) (rfl) (hX)) (rfl))), ?_⟩
      refine gT_nA (b := 204) rfl (n := ((3 * n) + 2)) (X := 0) (pk_addE (n := (3 * n)) (k := 2) (pk_mulE (n := 3) (k := n) (rfl) (hX)) (rfl)) (by omega) (rfl) ?_
      refine gT_n 9 ?_
      refine ⟨rfl, rfl, (pk_in ((3 * i) + 2) 30 (by omega) (pk_addE (n := (3 * i)) (k := 2) (pk_mulE (n := 3) (k := i) (rfl) (rfl)) (rfl))), px_le (X := (ig l i).2.2.2.2.2.1.2.2) (Y := (0)) ((rdI (k := 3 * i + 2) (Eq.trans (pk_addE (n := (3 * i)) (k := 2) (pk_mulE (n := 3) (k := i) (rfl) (rfl)) (rfl)) (congrArg nI (show ((3 * i) + 2) = 3 * i + 2 by omega))) (by omega) hI.2.2.2.2)) (rfl) (fun κ3 => ?_) (fun κ3 => ?_)⟩
      · refine gT_n 2 ?_
        refine gT_k (L := [(6, .int 3), (5, .int 0), (0, .ref 171), (1, .int (nI z)), (2, .int k), (3, .int (nI i))]) ?_ ⟨rfl, rfl, rfl, rfl, rfl, rfl, trivial⟩ rfl
        refine gT_n 3 ?_
        refine ⟨fun _ => ?_, fun c => absurd (by decide) c⟩
        refine gT_n 6 ?_
        refine ⟨rfl, rfl, ?_⟩
        refine gT_nP rfl (X := (nI (n + 1))) (pk_addE (n := n) (k := 1) (hX) (rfl)) ?_
        refine gT_n 6 ?_
        refine ⟨rfl, rfl, ?_⟩
        refine gT_nP rfl (X := ((X 171 60) + (1 : Int32))) (rfl) ?_
        refine gT_n 1 ?_
        refine ⟨rfl, ?_⟩
        have e : cm3 (ig l i).2.2.2.2.2.1 = (0, 0, 0) := by unfold cm3; rw [if_neg (Int32.not_lt.mpr κ1), if_neg (Int32.not_lt.mpr κ2), if_neg (Int32.not_lt.mpr κ3)]
        refine ⟨rfl, _, _, rfl, (by rfl), (by rfl), fun f h1 h2 => ?_, fun j hj => ?_, (by rfl), fun j hj => ?_⟩
        · show upd (upd (X 171) 56 _) 60 _ f = _
          rw [upd_ne h2, upd_ne h1]
        · repeat rw [gupI_n (by omega)]
        dsimp only
        unfold nE1
        show upd (X 202) n (nI z) j = _ ∧ upd (X 203) n k j = _ ∧ vp_updL Y n _ j = _ ∧ (upd (upd (upd (X 204) (3 * n + 0) 0) (3 * n + 1) 0) (3 * n + 2) 0) (3 * j) = _ ∧ (upd (upd (upd (X 204) (3 * n + 0) 0) (3 * n + 1) 0) (3 * n + 2) 0) (3 * j + 1) = _ ∧ (upd (upd (upd (X 204) (3 * n + 0) 0) (3 * n + 1) 0) (3 * n + 2) 0) (3 * j + 2) = _
        by_cases g : j = n
        · subst g
          rw [if_neg (by omega), e, upd_at, upd_at, updL_at]
          refine ⟨rfl, rfl, rfl, ?_, ?_, ?_⟩
          · rw [upd_ne (by omega), upd_ne (by omega), upd_y (by omega)]
          · rw [upd_ne (by omega), upd_y (by omega)]
          · rw [upd_y (by omega)]
        · have h := hF j (by omega)
          rw [if_pos (by omega), upd_ne g, upd_ne g, updL_ne g]
          refine ⟨h.1, h.2.1, h.2.2.1, ?_, ?_, ?_⟩
          · rw [upd_ne (by omega), upd_ne (by omega), upd_ne (by omega)]; exact h.2.2.2.1
          · rw [upd_ne (by omega), upd_ne (by omega), upd_ne (by omega)]; exact h.2.2.2.2.1
          · rw [upd_ne (by omega), upd_ne (by omega), upd_ne (by omega)]; exact h.2.2.2.2.2
      · refine gT_n 17 ?_
        refine ⟨rfl, rfl, rfl, rfl, (pk_in ((3 * i) + 2) 30 (by omega) (pk_addE (n := (3 * i)) (k := 2) (pk_mulE (n := 3) (k := i) (rfl) (rfl)) (rfl))), rfl, (pk_inS (m := 15) (k := ((3 * n) + 0)) (rfl) (by omega) (pk_addE (n := (3 * n)) (k := 0) (pk_mulE (n := 3) (k := n) (rfl) (hX)) (rfl))), ?_⟩
        refine gT_nA (b := 204) rfl (n := ((3 * n) + 0)) (X := (ig l i).2.2.2.2.2.1.2.2) (pk_addE (n := (3 * n)) (k := 0) (pk_mulE (n := 3) (k := n) (rfl) (hX)) (rfl)) (by omega) ((rdI (k := 3 * i + 2) (Eq.trans (pk_addE (n := (3 * i)) (k := 2) (pk_mulE (n := 3) (k := i) (rfl) (rfl)) (rfl)) (congrArg nI (show ((3 * i) + 2) = 3 * i + 2 by omega))) (by omega) hI.2.2.2.2)) ?_
        refine gT_n 3 ?_
        refine gT_k (L := [(6, .int 3), (5, .int 1), (0, .ref 171), (1, .int (nI z)), (2, .int k), (3, .int (nI i))]) ?_ ⟨rfl, rfl, rfl, rfl, rfl, rfl, trivial⟩ rfl
        refine gT_n 3 ?_
        refine ⟨fun _ => ?_, fun c => absurd (by decide) c⟩
        refine gT_n 6 ?_
        refine ⟨rfl, rfl, ?_⟩
        refine gT_nP rfl (X := (nI (n + 1))) (pk_addE (n := n) (k := 1) (hX) (rfl)) ?_
        refine gT_n 6 ?_
        refine ⟨rfl, rfl, ?_⟩
        refine gT_nP rfl (X := ((X 171 60) + (1 : Int32))) (rfl) ?_
        refine gT_n 1 ?_
        refine ⟨rfl, ?_⟩
        have e : cm3 (ig l i).2.2.2.2.2.1 = ((ig l i).2.2.2.2.2.1.2.2, 0, 0) := by unfold cm3; rw [if_neg (Int32.not_lt.mpr κ1), if_neg (Int32.not_lt.mpr κ2), if_pos (Int32.not_le.mp κ3)]
        refine ⟨rfl, _, _, rfl, (by rfl), (by rfl), fun f h1 h2 => ?_, fun j hj => ?_, (by rfl), fun j hj => ?_⟩
        · show upd (upd (X 171) 56 _) 60 _ f = _
          rw [upd_ne h2, upd_ne h1]
        · repeat rw [gupI_n (by omega)]
        dsimp only
        unfold nE1
        show upd (X 202) n (nI z) j = _ ∧ upd (X 203) n k j = _ ∧ vp_updL Y n _ j = _ ∧ (upd (upd (upd (upd (X 204) (3 * n + 0) 0) (3 * n + 1) 0) (3 * n + 2) 0) (3 * n + 0) (ig l i).2.2.2.2.2.1.2.2) (3 * j) = _ ∧ (upd (upd (upd (upd (X 204) (3 * n + 0) 0) (3 * n + 1) 0) (3 * n + 2) 0) (3 * n + 0) (ig l i).2.2.2.2.2.1.2.2) (3 * j + 1) = _ ∧ (upd (upd (upd (upd (X 204) (3 * n + 0) 0) (3 * n + 1) 0) (3 * n + 2) 0) (3 * n + 0) (ig l i).2.2.2.2.2.1.2.2) (3 * j + 2) = _
        by_cases g : j = n
        · subst g
          rw [if_neg (by omega), e, upd_at, upd_at, updL_at]
          refine ⟨rfl, rfl, rfl, ?_, ?_, ?_⟩
          · rw [upd_y (by omega)]
          · rw [upd_ne (by omega), upd_ne (by omega), upd_y (by omega)]
          · rw [upd_ne (by omega), upd_y (by omega)]
        · have h := hF j (by omega)
          rw [if_pos (by omega), upd_ne g, upd_ne g, updL_ne g]
          refine ⟨h.1, h.2.1, h.2.2.1, ?_, ?_, ?_⟩
          · rw [upd_ne (by omega), upd_ne (by omega), upd_ne (by omega), upd_ne (by omega)]; exact h.2.2.2.1
          · rw [upd_ne (by omega), upd_ne (by omega), upd_ne (by omega), upd_ne (by omega)]; exact h.2.2.2.2.1
          · rw [upd_ne (by omega), upd_ne (by omega), upd_ne (by omega), upd_ne (by omega)]; exact h.2.2.2.2.2
    · refine gT_n 17 ?_
      refine ⟨rfl, rfl, rfl, rfl, (pk_in ((3 * i) + 1) 30 (by omega) (pk_addE (n := (3 * i)) (k := 1) (pk_mulE (n := 3) (k := i) (rfl) (rfl)) (rfl))), rfl, (pk_inS (m := 15) (k := ((3 * n) + 0)) (rfl) (by omega) (pk_addE (n := (3 * n)) (k := 0) (pk_mulE (n := 3) (k := n) (rfl) (hX)) (rfl))), ?_⟩
      refine gT_nA (b := 204) rfl (n := ((3 * n) + 0)) (X := (ig l i).2.2.2.2.2.1.2.1) (pk_addE (n := (3 * n)) (k := 0) (pk_mulE (n := 3) (k := n) (rfl) (hX)) (rfl)) (by omega) ((rdI (k := 3 * i + 1) (Eq.trans (pk_addE (n := (3 * i)) (k := 1) (pk_mulE (n := 3) (k := i) (rfl) (rfl)) (rfl)) (congrArg nI (show ((3 * i) + 1) = 3 * i + 1 by omega))) (by omega) hI.2.2.2.1)) ?_
      refine gT_n 3 ?_
      refine gT_k (L := [(6, .int 2), (5, .int 1), (0, .ref 171), (1, .int (nI z)), (2, .int k), (3, .int (nI i))]) ?_ ⟨rfl, rfl, rfl, rfl, rfl, rfl, trivial⟩ rfl
      refine gT_n 3 ?_
      refine ⟨fun c => absurd c (by decide), fun _ => ?_⟩
      refine gT_n 10 ?_
      refine ⟨rfl, rfl, rfl, (pk_inS (m := 15) (k := ((3 * n) + 2)) (rfl) (by omega) (pk_addE (n := (3 * n)) (k := 2) (pk_mulE (n := 3) (k := n) (rfl) (hX)) (rfl))), ?_⟩
      refine gT_nA (b := 204) rfl (n := ((3 * n) + 2)) (X := 0) (pk_addE (n := (3 * n)) (k := 2) (pk_mulE (n := 3) (k := n) (rfl) (hX)) (rfl)) (by omega) (rfl) ?_
      refine gT_n 9 ?_
      refine ⟨rfl, rfl, (pk_in ((3 * i) + 2) 30 (by omega) (pk_addE (n := (3 * i)) (k := 2) (pk_mulE (n := 3) (k := i) (rfl) (rfl)) (rfl))), px_le (X := (ig l i).2.2.2.2.2.1.2.2) (Y := (0)) ((rdI (k := 3 * i + 2) (Eq.trans (pk_addE (n := (3 * i)) (k := 2) (pk_mulE (n := 3) (k := i) (rfl) (rfl)) (rfl)) (congrArg nI (show ((3 * i) + 2) = 3 * i + 2 by omega))) (by omega) hI.2.2.2.2)) (rfl) (fun κ4 => ?_) (fun κ4 => ?_)⟩
      · refine gT_n 2 ?_
        refine gT_k (L := [(6, .int 3), (5, .int 1), (0, .ref 171), (1, .int (nI z)), (2, .int k), (3, .int (nI i))]) ?_ ⟨rfl, rfl, rfl, rfl, rfl, rfl, trivial⟩ rfl
        refine gT_n 3 ?_
        refine ⟨fun _ => ?_, fun c => absurd (by decide) c⟩
        refine gT_n 6 ?_
        refine ⟨rfl, rfl, ?_⟩
        refine gT_nP rfl (X := (nI (n + 1))) (pk_addE (n := n) (k := 1) (hX) (rfl)) ?_
        refine gT_n 6 ?_
        refine ⟨rfl, rfl, ?_⟩
        refine gT_nP rfl (X := ((X 171 60) + (1 : Int32))) (rfl) ?_
        refine gT_n 1 ?_
        refine ⟨rfl, ?_⟩
        have e : cm3 (ig l i).2.2.2.2.2.1 = ((ig l i).2.2.2.2.2.1.2.1, 0, 0) := by unfold cm3; rw [if_neg (Int32.not_lt.mpr κ1), if_pos (Int32.not_le.mp κ2), if_neg (Int32.not_lt.mpr κ4)]
        refine ⟨rfl, _, _, rfl, (by rfl), (by rfl), fun f h1 h2 => ?_, fun j hj => ?_, (by rfl), fun j hj => ?_⟩
        · show upd (upd (X 171) 56 _) 60 _ f = _
          rw [upd_ne h2, upd_ne h1]
        · repeat rw [gupI_n (by omega)]
        dsimp only
        unfold nE1
        show upd (X 202) n (nI z) j = _ ∧ upd (X 203) n k j = _ ∧ vp_updL Y n _ j = _ ∧ (upd (upd (upd (upd (X 204) (3 * n + 0) 0) (3 * n + 1) 0) (3 * n + 0) (ig l i).2.2.2.2.2.1.2.1) (3 * n + 2) 0) (3 * j) = _ ∧ (upd (upd (upd (upd (X 204) (3 * n + 0) 0) (3 * n + 1) 0) (3 * n + 0) (ig l i).2.2.2.2.2.1.2.1) (3 * n + 2) 0) (3 * j + 1) = _ ∧ (upd (upd (upd (upd (X 204) (3 * n + 0) 0) (3 * n + 1) 0) (3 * n + 0) (ig l i).2.2.2.2.2.1.2.1) (3 * n + 2) 0) (3 * j + 2) = _
        by_cases g : j = n
        · subst g
          rw [if_neg (by omega), e, upd_at, upd_at, updL_at]
          refine ⟨rfl, rfl, rfl, ?_, ?_, ?_⟩
          · rw [upd_ne (by omega), upd_y (by omega)]
          · rw [upd_ne (by omega), upd_ne (by omega), upd_y (by omega)]
          · rw [upd_y (by omega)]
        · have h := hF j (by omega)
          rw [if_pos (by omega), upd_ne g, upd_ne g, updL_ne g]
          refine ⟨h.1, h.2.1, h.2.2.1, ?_, ?_, ?_⟩
          · rw [upd_ne (by omega), upd_ne (by omega), upd_ne (by omega), upd_ne (by omega)]; exact h.2.2.2.1
          · rw [upd_ne (by omega), upd_ne (by omega), upd_ne (by omega), upd_ne (by omega)]; exact h.2.2.2.2.1
          · rw [upd_ne (by omega), upd_ne (by omega), upd_ne (by omega), upd_ne (by omega)]; exact h.2.2.2.2.2
      · refine gT_n 17 ?_
        refine ⟨rfl, rfl, rfl, rfl, (pk_in ((3 * i) + 2) 30 (by omega) (pk_addE (n := (3 * i)) (k := 2) (pk_mulE (n := 3) (k := i) (rfl) (rfl)) (rfl))), rfl, (pk_inS (m := 15) (k := ((3 * n) + 1)) (rfl) (by omega) (pk_addE (n := (3 * n)) (k := 1) (pk_mulE (n := 3) (k := n) (rfl) (hX)) (rfl))), ?_⟩
        refine gT_nA (b := 204) rfl (n := ((3 * n) + 1)) (X := (ig l i).2.2.2.2.2.1.2.2) (pk_addE (n := (3 * n)) (k := 1) (pk_mulE (n := 3) (k := n) (rfl) (hX)) (rfl)) (by omega) ((rdI (k := 3 * i + 2) (Eq.trans (pk_addE (n := (3 * i)) (k := 2) (pk_mulE (n := 3) (k := i) (rfl) (rfl)) (rfl)) (congrArg nI (show ((3 * i) + 2) = 3 * i + 2 by omega))) (by omega) hI.2.2.2.2)) ?_
        refine gT_n 3 ?_
        refine gT_k (L := [(6, .int 3), (5, .int 2), (0, .ref 171), (1, .int (nI z)), (2, .int k), (3, .int (nI i))]) ?_ ⟨rfl, rfl, rfl, rfl, rfl, rfl, trivial⟩ rfl
        refine gT_n 3 ?_
        refine ⟨fun _ => ?_, fun c => absurd (by decide) c⟩
        refine gT_n 6 ?_
        refine ⟨rfl, rfl, ?_⟩
        refine gT_nP rfl (X := (nI (n + 1))) (pk_addE (n := n) (k := 1) (hX) (rfl)) ?_
        refine gT_n 6 ?_
        refine ⟨rfl, rfl, ?_⟩
        refine gT_nP rfl (X := ((X 171 60) + (1 : Int32))) (rfl) ?_
        refine gT_n 1 ?_
        refine ⟨rfl, ?_⟩
        have e : cm3 (ig l i).2.2.2.2.2.1 = ((ig l i).2.2.2.2.2.1.2.1, (ig l i).2.2.2.2.2.1.2.2, 0) := by unfold cm3; rw [if_neg (Int32.not_lt.mpr κ1), if_pos (Int32.not_le.mp κ2), if_pos (Int32.not_le.mp κ4)]
        refine ⟨rfl, _, _, rfl, (by rfl), (by rfl), fun f h1 h2 => ?_, fun j hj => ?_, (by rfl), fun j hj => ?_⟩
        · show upd (upd (X 171) 56 _) 60 _ f = _
          rw [upd_ne h2, upd_ne h1]
        · repeat rw [gupI_n (by omega)]
        dsimp only
        unfold nE1
        show upd (X 202) n (nI z) j = _ ∧ upd (X 203) n k j = _ ∧ vp_updL Y n _ j = _ ∧ (upd (upd (upd (upd (upd (X 204) (3 * n + 0) 0) (3 * n + 1) 0) (3 * n + 0) (ig l i).2.2.2.2.2.1.2.1) (3 * n + 2) 0) (3 * n + 1) (ig l i).2.2.2.2.2.1.2.2) (3 * j) = _ ∧ (upd (upd (upd (upd (upd (X 204) (3 * n + 0) 0) (3 * n + 1) 0) (3 * n + 0) (ig l i).2.2.2.2.2.1.2.1) (3 * n + 2) 0) (3 * n + 1) (ig l i).2.2.2.2.2.1.2.2) (3 * j + 1) = _ ∧ (upd (upd (upd (upd (upd (X 204) (3 * n + 0) 0) (3 * n + 1) 0) (3 * n + 0) (ig l i).2.2.2.2.2.1.2.1) (3 * n + 2) 0) (3 * n + 1) (ig l i).2.2.2.2.2.1.2.2) (3 * j + 2) = _
        by_cases g : j = n
        · subst g
          rw [if_neg (by omega), e, upd_at, upd_at, updL_at]
          refine ⟨rfl, rfl, rfl, ?_, ?_, ?_⟩
          · rw [upd_ne (by omega), upd_ne (by omega), upd_y (by omega)]
          · rw [upd_y (by omega)]
          · rw [upd_ne (by omega), upd_y (by omega)]
        · have h := hF j (by omega)
          rw [if_pos (by omega), upd_ne g, upd_ne g, updL_ne g]
          refine ⟨h.1, h.2.1, h.2.2.1, ?_, ?_, ?_⟩
          · rw [upd_ne (by omega), upd_ne (by omega), upd_ne (by omega), upd_ne (by omega), upd_ne (by omega)]; exact h.2.2.2.1
          · rw [upd_ne (by omega), upd_ne (by omega), upd_ne (by omega), upd_ne (by omega), upd_ne (by omega)]; exact h.2.2.2.2.1
          · rw [upd_ne (by omega), upd_ne (by omega), upd_ne (by omega), upd_ne (by omega), upd_ne (by omega)]; exact h.2.2.2.2.2
  · refine gT_n 17 ?_
    refine ⟨rfl, rfl, rfl, rfl, (pk_in ((3 * i) + 0) 30 (by omega) (pk_addE (n := (3 * i)) (k := 0) (pk_mulE (n := 3) (k := i) (rfl) (rfl)) (rfl))), rfl, (pk_inS (m := 15) (k := ((3 * n) + 0)) (rfl) (by omega) (pk_addE (n := (3 * n)) (k := 0) (pk_mulE (n := 3) (k := n) (rfl) (hX)) (rfl))), ?_⟩
    refine gT_nA (b := 204) rfl (n := ((3 * n) + 0)) (X := (ig l i).2.2.2.2.2.1.1) (pk_addE (n := (3 * n)) (k := 0) (pk_mulE (n := 3) (k := n) (rfl) (hX)) (rfl)) (by omega) ((rdI (k := 3 * i + 0) (Eq.trans (pk_addE (n := (3 * i)) (k := 0) (pk_mulE (n := 3) (k := i) (rfl) (rfl)) (rfl)) (congrArg nI (show ((3 * i) + 0) = 3 * i + 0 by omega))) (by omega) hI.2.2.1)) ?_
    refine gT_n 3 ?_
    refine gT_k (L := [(6, .int 1), (5, .int 1), (0, .ref 171), (1, .int (nI z)), (2, .int k), (3, .int (nI i))]) ?_ ⟨rfl, rfl, rfl, rfl, rfl, rfl, trivial⟩ rfl
    refine gT_n 3 ?_
    refine ⟨fun c => absurd c (by decide), fun _ => ?_⟩
    refine gT_n 10 ?_
    refine ⟨rfl, rfl, rfl, (pk_inS (m := 15) (k := ((3 * n) + 1)) (rfl) (by omega) (pk_addE (n := (3 * n)) (k := 1) (pk_mulE (n := 3) (k := n) (rfl) (hX)) (rfl))), ?_⟩
    refine gT_nA (b := 204) rfl (n := ((3 * n) + 1)) (X := 0) (pk_addE (n := (3 * n)) (k := 1) (pk_mulE (n := 3) (k := n) (rfl) (hX)) (rfl)) (by omega) (rfl) ?_
    refine gT_n 9 ?_
    refine ⟨rfl, rfl, (pk_in ((3 * i) + 1) 30 (by omega) (pk_addE (n := (3 * i)) (k := 1) (pk_mulE (n := 3) (k := i) (rfl) (rfl)) (rfl))), px_le (X := (ig l i).2.2.2.2.2.1.2.1) (Y := (0)) ((rdI (k := 3 * i + 1) (Eq.trans (pk_addE (n := (3 * i)) (k := 1) (pk_mulE (n := 3) (k := i) (rfl) (rfl)) (rfl)) (congrArg nI (show ((3 * i) + 1) = 3 * i + 1 by omega))) (by omega) hI.2.2.2.1)) (rfl) (fun κ5 => ?_) (fun κ5 => ?_)⟩
    · refine gT_n 2 ?_
      refine gT_k (L := [(6, .int 2), (5, .int 1), (0, .ref 171), (1, .int (nI z)), (2, .int k), (3, .int (nI i))]) ?_ ⟨rfl, rfl, rfl, rfl, rfl, rfl, trivial⟩ rfl
      refine gT_n 3 ?_
      refine ⟨fun c => absurd c (by decide), fun _ => ?_⟩
      refine gT_n 10 ?_
      refine ⟨rfl, rfl, rfl, (pk_inS (m := 15) (k := ((3 * n) + 2)) (rfl) (by omega) (pk_addE (n := (3 * n)) (k := 2) (pk_mulE (n := 3) (k := n) (rfl) (hX)) (rfl))), ?_⟩
      refine gT_nA (b := 204) rfl (n := ((3 * n) + 2)) (X := 0) (pk_addE (n := (3 * n)) (k := 2) (pk_mulE (n := 3) (k := n) (rfl) (hX)) (rfl)) (by omega) (rfl) ?_
      refine gT_n 9 ?_
      refine ⟨rfl, rfl, (pk_in ((3 * i) + 2) 30 (by omega) (pk_addE (n := (3 * i)) (k := 2) (pk_mulE (n := 3) (k := i) (rfl) (rfl)) (rfl))), px_le (X := (ig l i).2.2.2.2.2.1.2.2) (Y := (0)) ((rdI (k := 3 * i + 2) (Eq.trans (pk_addE (n := (3 * i)) (k := 2) (pk_mulE (n := 3) (k := i) (rfl) (rfl)) (rfl)) (congrArg nI (show ((3 * i) + 2) = 3 * i + 2 by omega))) (by omega) hI.2.2.2.2)) (rfl) (fun κ6 => ?_) (fun κ6 => ?_)⟩
      · refine gT_n 2 ?_
        refine gT_k (L := [(6, .int 3), (5, .int 1), (0, .ref 171), (1, .int (nI z)), (2, .int k), (3, .int (nI i))]) ?_ ⟨rfl, rfl, rfl, rfl, rfl, rfl, trivial⟩ rfl
        refine gT_n 3 ?_
        refine ⟨fun _ => ?_, fun c => absurd (by decide) c⟩
        refine gT_n 6 ?_
        refine ⟨rfl, rfl, ?_⟩
        refine gT_nP rfl (X := (nI (n + 1))) (pk_addE (n := n) (k := 1) (hX) (rfl)) ?_
        refine gT_n 6 ?_
        refine ⟨rfl, rfl, ?_⟩
        refine gT_nP rfl (X := ((X 171 60) + (1 : Int32))) (rfl) ?_
        refine gT_n 1 ?_
        refine ⟨rfl, ?_⟩
        have e : cm3 (ig l i).2.2.2.2.2.1 = ((ig l i).2.2.2.2.2.1.1, 0, 0) := by unfold cm3; rw [if_pos (Int32.not_le.mp κ1), if_neg (Int32.not_lt.mpr κ5), if_neg (Int32.not_lt.mpr κ6)]
        refine ⟨rfl, _, _, rfl, (by rfl), (by rfl), fun f h1 h2 => ?_, fun j hj => ?_, (by rfl), fun j hj => ?_⟩
        · show upd (upd (X 171) 56 _) 60 _ f = _
          rw [upd_ne h2, upd_ne h1]
        · repeat rw [gupI_n (by omega)]
        dsimp only
        unfold nE1
        show upd (X 202) n (nI z) j = _ ∧ upd (X 203) n k j = _ ∧ vp_updL Y n _ j = _ ∧ (upd (upd (upd (upd (X 204) (3 * n + 0) 0) (3 * n + 0) (ig l i).2.2.2.2.2.1.1) (3 * n + 1) 0) (3 * n + 2) 0) (3 * j) = _ ∧ (upd (upd (upd (upd (X 204) (3 * n + 0) 0) (3 * n + 0) (ig l i).2.2.2.2.2.1.1) (3 * n + 1) 0) (3 * n + 2) 0) (3 * j + 1) = _ ∧ (upd (upd (upd (upd (X 204) (3 * n + 0) 0) (3 * n + 0) (ig l i).2.2.2.2.2.1.1) (3 * n + 1) 0) (3 * n + 2) 0) (3 * j + 2) = _
        by_cases g : j = n
        · subst g
          rw [if_neg (by omega), e, upd_at, upd_at, updL_at]
          refine ⟨rfl, rfl, rfl, ?_, ?_, ?_⟩
          · rw [upd_ne (by omega), upd_ne (by omega), upd_y (by omega)]
          · rw [upd_ne (by omega), upd_y (by omega)]
          · rw [upd_y (by omega)]
        · have h := hF j (by omega)
          rw [if_pos (by omega), upd_ne g, upd_ne g, updL_ne g]
          refine ⟨h.1, h.2.1, h.2.2.1, ?_, ?_, ?_⟩
          · rw [upd_ne (by omega), upd_ne (by omega), upd_ne (by omega), upd_ne (by omega)]; exact h.2.2.2.1
          · rw [upd_ne (by omega), upd_ne (by omega), upd_ne (by omega), upd_ne (by omega)]; exact h.2.2.2.2.1
          · rw [upd_ne (by omega), upd_ne (by omega), upd_ne (by omega), upd_ne (by omega)]; exact h.2.2.2.2.2
      · refine gT_n 17 ?_
        refine ⟨rfl, rfl, rfl, rfl, (pk_in ((3 * i) + 2) 30 (by omega) (pk_addE (n := (3 * i)) (k := 2) (pk_mulE (n := 3) (k := i) (rfl) (rfl)) (rfl))), rfl, (pk_inS (m := 15) (k := ((3 * n) + 1)) (rfl) (by omega) (pk_addE (n := (3 * n)) (k := 1) (pk_mulE (n := 3) (k := n) (rfl) (hX)) (rfl))), ?_⟩
        refine gT_nA (b := 204) rfl (n := ((3 * n) + 1)) (X := (ig l i).2.2.2.2.2.1.2.2) (pk_addE (n := (3 * n)) (k := 1) (pk_mulE (n := 3) (k := n) (rfl) (hX)) (rfl)) (by omega) ((rdI (k := 3 * i + 2) (Eq.trans (pk_addE (n := (3 * i)) (k := 2) (pk_mulE (n := 3) (k := i) (rfl) (rfl)) (rfl)) (congrArg nI (show ((3 * i) + 2) = 3 * i + 2 by omega))) (by omega) hI.2.2.2.2)) ?_
        refine gT_n 3 ?_
        refine gT_k (L := [(6, .int 3), (5, .int 2), (0, .ref 171), (1, .int (nI z)), (2, .int k), (3, .int (nI i))]) ?_ ⟨rfl, rfl, rfl, rfl, rfl, rfl, trivial⟩ rfl
        refine gT_n 3 ?_
        refine ⟨fun _ => ?_, fun c => absurd (by decide) c⟩
        refine gT_n 6 ?_
        refine ⟨rfl, rfl, ?_⟩
        refine gT_nP rfl (X := (nI (n + 1))) (pk_addE (n := n) (k := 1) (hX) (rfl)) ?_
        refine gT_n 6 ?_
        refine ⟨rfl, rfl, ?_⟩
        refine gT_nP rfl (X := ((X 171 60) + (1 : Int32))) (rfl) ?_
        refine gT_n 1 ?_
        refine ⟨rfl, ?_⟩
        have e : cm3 (ig l i).2.2.2.2.2.1 = ((ig l i).2.2.2.2.2.1.1, (ig l i).2.2.2.2.2.1.2.2, 0) := by unfold cm3; rw [if_pos (Int32.not_le.mp κ1), if_neg (Int32.not_lt.mpr κ5), if_pos (Int32.not_le.mp κ6)]
        refine ⟨rfl, _, _, rfl, (by rfl), (by rfl), fun f h1 h2 => ?_, fun j hj => ?_, (by rfl), fun j hj => ?_⟩
        · show upd (upd (X 171) 56 _) 60 _ f = _
          rw [upd_ne h2, upd_ne h1]
        · repeat rw [gupI_n (by omega)]
        dsimp only
        unfold nE1
        show upd (X 202) n (nI z) j = _ ∧ upd (X 203) n k j = _ ∧ vp_updL Y n _ j = _ ∧ (upd (upd (upd (upd (upd (X 204) (3 * n + 0) 0) (3 * n + 0) (ig l i).2.2.2.2.2.1.1) (3 * n + 1) 0) (3 * n + 2) 0) (3 * n + 1) (ig l i).2.2.2.2.2.1.2.2) (3 * j) = _ ∧ (upd (upd (upd (upd (upd (X 204) (3 * n + 0) 0) (3 * n + 0) (ig l i).2.2.2.2.2.1.1) (3 * n + 1) 0) (3 * n + 2) 0) (3 * n + 1) (ig l i).2.2.2.2.2.1.2.2) (3 * j + 1) = _ ∧ (upd (upd (upd (upd (upd (X 204) (3 * n + 0) 0) (3 * n + 0) (ig l i).2.2.2.2.2.1.1) (3 * n + 1) 0) (3 * n + 2) 0) (3 * n + 1) (ig l i).2.2.2.2.2.1.2.2) (3 * j + 2) = _
        by_cases g : j = n
        · subst g
          rw [if_neg (by omega), e, upd_at, upd_at, updL_at]
          refine ⟨rfl, rfl, rfl, ?_, ?_, ?_⟩
          · rw [upd_ne (by omega), upd_ne (by omega), upd_ne (by omega), upd_y (by omega)]
          · rw [upd_y (by omega)]
          · rw [upd_ne (by omega), upd_y (by omega)]
        · have h := hF j (by omega)
          rw [if_pos (by omega), upd_ne g, upd_ne g, updL_ne g]
          refine ⟨h.1, h.2.1, h.2.2.1, ?_, ?_, ?_⟩
          · rw [upd_ne (by omega), upd_ne (by omega), upd_ne (by omega), upd_ne (by omega), upd_ne (by omega)]; exact h.2.2.2.1
          · rw [upd_ne (by omega), upd_ne (by omega), upd_ne (by omega), upd_ne (by omega), upd_ne (by omega)]; exact h.2.2.2.2.1
          · rw [upd_ne (by omega), upd_ne (by omega), upd_ne (by omega), upd_ne (by omega), upd_ne (by omega)]; exact h.2.2.2.2.2
    · refine gT_n 17 ?_
      refine ⟨rfl, rfl, rfl, rfl, (pk_in ((3 * i) + 1) 30 (by omega) (pk_addE (n := (3 * i)) (k := 1) (pk_mulE (n := 3) (k := i) (rfl) (rfl)) (rfl))), rfl, (pk_inS (m := 15) (k := ((3 * n) + 1)) (rfl) (by omega) (pk_addE (n := (3 * n)) (k := 1) (pk_mulE (n := 3) (k := n) (rfl) (hX)) (rfl))), ?_⟩
      refine gT_nA (b := 204) rfl (n := ((3 * n) + 1)) (X := (ig l i).2.2.2.2.2.1.2.1) (pk_addE (n := (3 * n)) (k := 1) (pk_mulE (n := 3) (k := n) (rfl) (hX)) (rfl)) (by omega) ((rdI (k := 3 * i + 1) (Eq.trans (pk_addE (n := (3 * i)) (k := 1) (pk_mulE (n := 3) (k := i) (rfl) (rfl)) (rfl)) (congrArg nI (show ((3 * i) + 1) = 3 * i + 1 by omega))) (by omega) hI.2.2.2.1)) ?_
      refine gT_n 3 ?_
      refine gT_k (L := [(6, .int 2), (5, .int 2), (0, .ref 171), (1, .int (nI z)), (2, .int k), (3, .int (nI i))]) ?_ ⟨rfl, rfl, rfl, rfl, rfl, rfl, trivial⟩ rfl
      refine gT_n 3 ?_
      refine ⟨fun c => absurd c (by decide), fun _ => ?_⟩
      refine gT_n 10 ?_
      refine ⟨rfl, rfl, rfl, (pk_inS (m := 15) (k := ((3 * n) + 2)) (rfl) (by omega) (pk_addE (n := (3 * n)) (k := 2) (pk_mulE (n := 3) (k := n) (rfl) (hX)) (rfl))), ?_⟩
      refine gT_nA (b := 204) rfl (n := ((3 * n) + 2)) (X := 0) (pk_addE (n := (3 * n)) (k := 2) (pk_mulE (n := 3) (k := n) (rfl) (hX)) (rfl)) (by omega) (rfl) ?_
      refine gT_n 9 ?_
      refine ⟨rfl, rfl, (pk_in ((3 * i) + 2) 30 (by omega) (pk_addE (n := (3 * i)) (k := 2) (pk_mulE (n := 3) (k := i) (rfl) (rfl)) (rfl))), px_le (X := (ig l i).2.2.2.2.2.1.2.2) (Y := (0)) ((rdI (k := 3 * i + 2) (Eq.trans (pk_addE (n := (3 * i)) (k := 2) (pk_mulE (n := 3) (k := i) (rfl) (rfl)) (rfl)) (congrArg nI (show ((3 * i) + 2) = 3 * i + 2 by omega))) (by omega) hI.2.2.2.2)) (rfl) (fun κ7 => ?_) (fun κ7 => ?_)⟩
      · refine gT_n 2 ?_
        refine gT_k (L := [(6, .int 3), (5, .int 2), (0, .ref 171), (1, .int (nI z)), (2, .int k), (3, .int (nI i))]) ?_ ⟨rfl, rfl, rfl, rfl, rfl, rfl, trivial⟩ rfl
        refine gT_n 3 ?_
        refine ⟨fun _ => ?_, fun c => absurd (by decide) c⟩
        refine gT_n 6 ?_
        refine ⟨rfl, rfl, ?_⟩
        refine gT_nP rfl (X := (nI (n + 1))) (pk_addE (n := n) (k := 1) (hX) (rfl)) ?_
        refine gT_n 6 ?_
        refine ⟨rfl, rfl, ?_⟩
        refine gT_nP rfl (X := ((X 171 60) + (1 : Int32))) (rfl) ?_
        refine gT_n 1 ?_
        refine ⟨rfl, ?_⟩
        have e : cm3 (ig l i).2.2.2.2.2.1 = ((ig l i).2.2.2.2.2.1.1, (ig l i).2.2.2.2.2.1.2.1, 0) := by unfold cm3; rw [if_pos (Int32.not_le.mp κ1), if_pos (Int32.not_le.mp κ5), if_neg (Int32.not_lt.mpr κ7)]
        refine ⟨rfl, _, _, rfl, (by rfl), (by rfl), fun f h1 h2 => ?_, fun j hj => ?_, (by rfl), fun j hj => ?_⟩
        · show upd (upd (X 171) 56 _) 60 _ f = _
          rw [upd_ne h2, upd_ne h1]
        · repeat rw [gupI_n (by omega)]
        dsimp only
        unfold nE1
        show upd (X 202) n (nI z) j = _ ∧ upd (X 203) n k j = _ ∧ vp_updL Y n _ j = _ ∧ (upd (upd (upd (upd (upd (X 204) (3 * n + 0) 0) (3 * n + 0) (ig l i).2.2.2.2.2.1.1) (3 * n + 1) 0) (3 * n + 1) (ig l i).2.2.2.2.2.1.2.1) (3 * n + 2) 0) (3 * j) = _ ∧ (upd (upd (upd (upd (upd (X 204) (3 * n + 0) 0) (3 * n + 0) (ig l i).2.2.2.2.2.1.1) (3 * n + 1) 0) (3 * n + 1) (ig l i).2.2.2.2.2.1.2.1) (3 * n + 2) 0) (3 * j + 1) = _ ∧ (upd (upd (upd (upd (upd (X 204) (3 * n + 0) 0) (3 * n + 0) (ig l i).2.2.2.2.2.1.1) (3 * n + 1) 0) (3 * n + 1) (ig l i).2.2.2.2.2.1.2.1) (3 * n + 2) 0) (3 * j + 2) = _
        by_cases g : j = n
        · subst g
          rw [if_neg (by omega), e, upd_at, upd_at, updL_at]
          refine ⟨rfl, rfl, rfl, ?_, ?_, ?_⟩
          · rw [upd_ne (by omega), upd_ne (by omega), upd_ne (by omega), upd_y (by omega)]
          · rw [upd_ne (by omega), upd_y (by omega)]
          · rw [upd_y (by omega)]
        · have h := hF j (by omega)
          rw [if_pos (by omega), upd_ne g, upd_ne g, updL_ne g]
          refine ⟨h.1, h.2.1, h.2.2.1, ?_, ?_, ?_⟩
          · rw [upd_ne (by omega), upd_ne (by omega), upd_ne (by omega), upd_ne (by omega), upd_ne (by omega)]; exact h.2.2.2.1
          · rw [upd_ne (by omega), upd_ne (by omega), upd_ne (by omega), upd_ne (by omega), upd_ne (by omega)]; exact h.2.2.2.2.1
          · rw [upd_ne (by omega), upd_ne (by omega), upd_ne (by omega), upd_ne (by omega), upd_ne (by omega)]; exact h.2.2.2.2.2
      · refine gT_n 17 ?_
        refine ⟨rfl, rfl, rfl, rfl, (pk_in ((3 * i) + 2) 30 (by omega) (pk_addE (n := (3 * i)) (k := 2) (pk_mulE (n := 3) (k := i) (rfl) (rfl)) (rfl))), rfl, (pk_inS (m := 15) (k := ((3 * n) + 2)) (rfl) (by omega) (pk_addE (n := (3 * n)) (k := 2) (pk_mulE (n := 3) (k := n) (rfl) (hX)) (rfl))), ?_⟩
        refine gT_nA (b := 204) rfl (n := ((3 * n) + 2)) (X := (ig l i).2.2.2.2.2.1.2.2) (pk_addE (n := (3 * n)) (k := 2) (pk_mulE (n := 3) (k := n) (rfl) (hX)) (rfl)) (by omega) ((rdI (k := 3 * i + 2) (Eq.trans (pk_addE (n := (3 * i)) (k := 2) (pk_mulE (n := 3) (k := i) (rfl) (rfl)) (rfl)) (congrArg nI (show ((3 * i) + 2) = 3 * i + 2 by omega))) (by omega) hI.2.2.2.2)) ?_
        refine gT_n 3 ?_
        refine gT_k (L := [(6, .int 3), (5, .int 3), (0, .ref 171), (1, .int (nI z)), (2, .int k), (3, .int (nI i))]) ?_ ⟨rfl, rfl, rfl, rfl, rfl, rfl, trivial⟩ rfl
        refine gT_n 3 ?_
        refine ⟨fun _ => ?_, fun c => absurd (by decide) c⟩
        refine gT_n 6 ?_
        refine ⟨rfl, rfl, ?_⟩
        refine gT_nP rfl (X := (nI (n + 1))) (pk_addE (n := n) (k := 1) (hX) (rfl)) ?_
        refine gT_n 6 ?_
        refine ⟨rfl, rfl, ?_⟩
        refine gT_nP rfl (X := ((X 171 60) + (1 : Int32))) (rfl) ?_
        refine gT_n 1 ?_
        refine ⟨rfl, ?_⟩
        have e : cm3 (ig l i).2.2.2.2.2.1 = ((ig l i).2.2.2.2.2.1.1, (ig l i).2.2.2.2.2.1.2.1, (ig l i).2.2.2.2.2.1.2.2) := by unfold cm3; rw [if_pos (Int32.not_le.mp κ1), if_pos (Int32.not_le.mp κ5), if_pos (Int32.not_le.mp κ7)]
        refine ⟨rfl, _, _, rfl, (by rfl), (by rfl), fun f h1 h2 => ?_, fun j hj => ?_, (by rfl), fun j hj => ?_⟩
        · show upd (upd (X 171) 56 _) 60 _ f = _
          rw [upd_ne h2, upd_ne h1]
        · repeat rw [gupI_n (by omega)]
        dsimp only
        unfold nE1
        show upd (X 202) n (nI z) j = _ ∧ upd (X 203) n k j = _ ∧ vp_updL Y n _ j = _ ∧ (upd (upd (upd (upd (upd (upd (X 204) (3 * n + 0) 0) (3 * n + 0) (ig l i).2.2.2.2.2.1.1) (3 * n + 1) 0) (3 * n + 1) (ig l i).2.2.2.2.2.1.2.1) (3 * n + 2) 0) (3 * n + 2) (ig l i).2.2.2.2.2.1.2.2) (3 * j) = _ ∧ (upd (upd (upd (upd (upd (upd (X 204) (3 * n + 0) 0) (3 * n + 0) (ig l i).2.2.2.2.2.1.1) (3 * n + 1) 0) (3 * n + 1) (ig l i).2.2.2.2.2.1.2.1) (3 * n + 2) 0) (3 * n + 2) (ig l i).2.2.2.2.2.1.2.2) (3 * j + 1) = _ ∧ (upd (upd (upd (upd (upd (upd (X 204) (3 * n + 0) 0) (3 * n + 0) (ig l i).2.2.2.2.2.1.1) (3 * n + 1) 0) (3 * n + 1) (ig l i).2.2.2.2.2.1.2.1) (3 * n + 2) 0) (3 * n + 2) (ig l i).2.2.2.2.2.1.2.2) (3 * j + 2) = _
        by_cases g : j = n
        · subst g
          rw [if_neg (by omega), e, upd_at, upd_at, updL_at]
          refine ⟨rfl, rfl, rfl, ?_, ?_, ?_⟩
          · rw [upd_ne (by omega), upd_ne (by omega), upd_ne (by omega), upd_ne (by omega), upd_y (by omega)]
          · rw [upd_ne (by omega), upd_ne (by omega), upd_y (by omega)]
          · rw [upd_y (by omega)]
        · have h := hF j (by omega)
          rw [if_pos (by omega), upd_ne g, upd_ne g, updL_ne g]
          refine ⟨h.1, h.2.1, h.2.2.1, ?_, ?_, ?_⟩
          · rw [upd_ne (by omega), upd_ne (by omega), upd_ne (by omega), upd_ne (by omega), upd_ne (by omega), upd_ne (by omega)]; exact h.2.2.2.1
          · rw [upd_ne (by omega), upd_ne (by omega), upd_ne (by omega), upd_ne (by omega), upd_ne (by omega), upd_ne (by omega)]; exact h.2.2.2.2.1
          · rw [upd_ne (by omega), upd_ne (by omega), upd_ne (by omega), upd_ne (by omega), upd_ne (by omega), upd_ne (by omega)]; exact h.2.2.2.2.2
theorem m_entryComes {d z : Nat} {k : Int32} {I X : Nat → Nat → Int32} {J : Nat → Nat → Int64} {Y : Nat → Int64} {P : Nat → Nat} {t : zT} {l : List zI} (hit : mtm I J l) (h10 : l.length ≤ 10) (hok : vIs t l) {i : Nat} (hi : i < l.length) {pk : Int32} (hpk : I 171 47 = pk) (hsp : I 171 3 = nI t.2.2.2) {C : List zE} (hH : nH X Y C) (hC4 : C.length ≤ 4) (hz4 : ∀ j, j < C.length → (eg C j).1 < 4) (hz : z < 4) : gTM (d + 1) 245 [.ref 171, .int (nI z), .int k, .int (nI i)] (gST (nM I X) (m1 J 205 Y) P) (fun r u => r = none ∧ ∃ X' Y' r0, isE C z k r0 ∧ u = gST (nM I X') (m1 J 205 Y') P ∧ nH X' Y' (sE C r0 ++ [(z, k, cm3 (ig l i).2.2.2.2.2.1, tll t pk)]) ∧ X' 171 60 = X 171 60 + 1 ∧ (∀ f, ¬ f = 56 → ¬ f = 60 → X' 171 f = X 171 f) ∧ (∀ j, 206 ≤ j → X' j = X j) ∧ X' 201 = X 201) := by
  have hcC : ∀ {a}, a < C.length → nC (X 202) (X 203) Y (X 204) (eg C) (C.length - 1 + 1) := fun {a} h => by rw [show C.length - 1 + 1 = C.length by omega]; exact hH.2
  refine gT_n 4 ?_
  refine ⟨rfl, rfl, gTM.use (m_entryOf hH hC4 hz4 hz) (Nat.le_refl _) (fun r u hq => ?_)⟩
  obtain ⟨rfl, ⟨a, ha, rfl⟩ | ⟨ha, rfl⟩⟩ := hq  -- X12_entryOf[R171, nI z, k]
  · refine gT_n 4 ?_
    refine ⟨fun c => absurd c (nI_neg (rfl) (by have := ha.1; omega)), fun _ => ?_⟩
    refine gT_n 3 ?_
    refine ⟨rfl, rfl, gTM.use (m_leaves (n := C.length - 1) (f := eg C) (hH.1.trans (congrArg nI (by have := ha.1; omega))) (by have := ha.1; omega) (by omega) (hcC ha.1)) (Nat.le_refl _) (fun r u hq => ?_)⟩
    obtain ⟨rfl, X1, Y1, rfl, hX1, h171, hFr1, h201, hF1⟩ := hq  -- X12_leaves[R171, nI a]
    refine gT_n 1 ?_
    refine gT_k (gT_mono _ _ _ _ _ _ _ _ _ (fun r u h => ?_) (m_entryT (f := fun j => if j < a then eg C j else eg C (j + 1)) hit h10 hok hi hpk hsp hz hX1 (by have := ha.1; omega) hF1)) ⟨rfl, rfl, rfl, rfl, trivial⟩ rfl
    obtain ⟨h1, X2, Y2, h2, h3, h4, h5, h6, h7, h8⟩ := h
    refine ⟨h1, X2, Y2, some a, ha, h2, ?_, h4.trans (by rw [h171 60 (by decide)]), fun f a b => (h5 f a b).trans (h171 f a), fun j hj => (h6 j hj).trans (hFr1 j hj), h7.trans h201⟩
    exact nH_app (by rw [show (sE C (some a)).length = C.length - 1 from List.length_eraseIdx_of_lt ha.1]; exact h3) h8 (List.length_eraseIdx_of_lt ha.1) (fun j _ => eg_era.symm) rfl
  · refine gT_n 4 ?_
    refine ⟨fun _ => ?_, fun c => absurd (by decide) c⟩
    refine gT_n 4 ?_
    refine ⟨rfl, pk_ne C.length 4 (fun κ1 => ?_) (fun κ1 => ?_) (hH.1) (rfl) (by omega) (by omega)⟩
    · refine gT_k (gT_mono _ _ _ _ _ _ _ _ _ (fun r u h => ?_) (m_entryT (f := eg C) hit h10 hok hi hpk hsp hz hH.1 (by omega) hH.2)) ⟨rfl, rfl, rfl, rfl, trivial⟩ rfl
      obtain ⟨h1, X2, Y2, h2, h3, h4, h5, h6, h7, h8⟩ := h
      refine ⟨h1, X2, Y2, none, ha, h2, ?_, h4, h5, h6, h7⟩
      exact nH_app (by rw [show (sE C none).length = C.length from by show (if C.length = 4 then C.tail else C).length = _; rw [if_neg (by omega)]]; exact h3) h8 (by show (if C.length = 4 then C.tail else C).length = _; rw [if_neg (by omega)]) (fun j _ => by show eg C j = eg (if C.length = 4 then C.tail else C) j; rw [if_neg (by omega)]) rfl
    · refine gT_n 3 ?_
      have hC4e : C.length = 4 := by omega
      refine ⟨rfl, rfl, gTM.use (m_leaves (a := 0) (n := 3) (f := eg C) (hH.1.trans (congrArg nI hC4e)) (by decide) (by decide) (by have h := hH.2; rw [hC4e] at h; exact h)) (Nat.le_refl _) (fun r u hq => ?_)⟩
      obtain ⟨rfl, X1, Y1, rfl, hX1, h171, hFr1, h201, hF1⟩ := hq  -- X12_leaves[R171, K0]
      refine gT_k (gT_mono _ _ _ _ _ _ _ _ _ (fun r u h => ?_) (m_entryT (f := fun j => if j < 0 then eg C j else eg C (j + 1)) hit h10 hok hi hpk hsp hz hX1 (by omega) hF1)) ⟨rfl, rfl, rfl, rfl, trivial⟩ rfl
      obtain ⟨h1, X2, Y2, h2, h3, h4, h5, h6, h7, h8⟩ := h
      refine ⟨h1, X2, Y2, none, ha, h2, ?_, h4.trans (by rw [h171 60 (by decide)]), fun f a b => (h5 f a b).trans (h171 f a), fun j hj => (h6 j hj).trans (hFr1 j hj), h7.trans h201⟩
      exact nH_app (by rw [show (sE C none).length = 3 from by show (if C.length = 4 then C.tail else C).length = _; rw [if_pos hC4e, List.length_tail]; omega]; exact h3) h8 (by show (if C.length = 4 then C.tail else C).length = _; rw [if_pos hC4e, List.length_tail]; omega) (fun j _ => by show (if j < 0 then eg C j else eg C (j + 1)) = eg (if C.length = 4 then C.tail else C) j; rw [if_pos hC4e, if_neg (by omega)]; unfold eg; rw [List.getD_eq_getElem?_getD, List.getD_eq_getElem?_getD, List.getElem?_tail]) rfl
theorem m_takesE206 {d a : Nat} {I X : Nat → Nat → Int32} {J : Nat → Nat → Int64} {Y : Nat → Int64} {P : Nat → Nat} {C : List zE} (hH : nH X Y C) (hC4 : C.length ≤ 4) (hz4 : ∀ j, j < C.length → (eg C j).1 < 4) (ha : a < C.length) : gTM d 246 [.ref 171, .int (nI a), .ref 206] (gST (nM I X) (m1 J 205 Y) P) (fun r u => r = none ∧ ∃ X', u = gST (nM I X') (m1 J 205 Y) P ∧ (∀ j, ¬ j = 206 → X' j = X j) ∧ (X' 206 0 = (eg C a).2.2.1.1 ∧ X' 206 1 = (eg C a).2.2.1.2.1 ∧ X' 206 2 = (eg C a).2.2.1.2.2)) := by
  refine gT_n 5 ?_
  refine ⟨fun c => absurd c (by decide), fun _ => ?_⟩
  refine gT_n 11 ?_
  refine ⟨rfl, rfl, (pk_in ((3 * a) + 0) 15 (by omega) (pk_addE (n := (3 * a)) (k := 0) (pk_mulE (n := 3) (k := a) (rfl) (rfl)) (rfl))), rfl, (pk_inS (m := 3) (k := 0) (rfl) (by decide) (rfl)), ?_⟩
  refine gT_nA (b := 206) rfl (n := 0) (X := (eg C a).2.2.1.1) (rfl) (by omega) ((rdI (k := 3 * a + 0) (Eq.trans (pk_addE (n := (3 * a)) (k := 0) (pk_mulE (n := 3) (k := a) (rfl) (rfl)) (rfl)) (congrArg nI (show ((3 * a) + 0) = 3 * a + 0 by omega))) (by omega) (hH.2 a ha).2.2.2.1)) ?_
  refine gT_n 5 ?_
  refine ⟨fun c => absurd c (by decide), fun _ => ?_⟩
  refine gT_n 11 ?_
  refine ⟨rfl, rfl, (pk_in ((3 * a) + 1) 15 (by omega) (pk_addE (n := (3 * a)) (k := 1) (pk_mulE (n := 3) (k := a) (rfl) (rfl)) (rfl))), rfl, (pk_inS (m := 3) (k := 1) (rfl) (by decide) (rfl)), ?_⟩
  refine gT_nA (b := 206) rfl (n := 1) (X := (eg C a).2.2.1.2.1) (rfl) (by omega) ((rdI (k := 3 * a + 1) (Eq.trans (pk_addE (n := (3 * a)) (k := 1) (pk_mulE (n := 3) (k := a) (rfl) (rfl)) (rfl)) (congrArg nI (show ((3 * a) + 1) = 3 * a + 1 by omega))) (by omega) (hH.2 a ha).2.2.2.2.1)) ?_
  refine gT_n 5 ?_
  refine ⟨fun c => absurd c (by decide), fun _ => ?_⟩
  refine gT_n 11 ?_
  refine ⟨rfl, rfl, (pk_in ((3 * a) + 2) 15 (by omega) (pk_addE (n := (3 * a)) (k := 2) (pk_mulE (n := 3) (k := a) (rfl) (rfl)) (rfl))), rfl, (pk_inS (m := 3) (k := 2) (rfl) (by decide) (rfl)), ?_⟩
  refine gT_nA (b := 206) rfl (n := 2) (X := (eg C a).2.2.1.2.2) (rfl) (by omega) ((rdI (k := 3 * a + 2) (Eq.trans (pk_addE (n := (3 * a)) (k := 2) (pk_mulE (n := 3) (k := a) (rfl) (rfl)) (rfl)) (congrArg nI (show ((3 * a) + 2) = 3 * a + 2 by omega))) (by omega) (hH.2 a ha).2.2.2.2.2)) ?_
  refine gT_n 5 ?_
  refine ⟨fun _ => ?_, fun c => absurd (by decide) c⟩
  refine gT_n 1 ?_
  refine ⟨rfl, ?_⟩
  exact ⟨rfl, _, rfl, fun j hj => by rw [gupI_n hj, gupI_n hj, gupI_n hj], rfl, rfl, rfl⟩
theorem m_takesI206 {d : Nat} {I X : Nat → Nat → Int32} {J : Nat → Nat → Int64} {Y : Nat → Int64} {P : Nat → Nat} {l : List zI} (hit : mtm I J l) (h10 : l.length ≤ 10) {i : Nat} (hi : i < l.length) : gTM d 247 [.ref 171, .int (nI i), .ref 206] (gST (nM I X) (m1 J 205 Y) P) (fun r u => r = none ∧ ∃ X', u = gST (nM I X') (m1 J 205 Y) P ∧ (∀ j, ¬ j = 206 → X' j = X j) ∧ (X' 206 0 = (ig l i).2.2.2.2.2.1.1 ∧ X' 206 1 = (ig l i).2.2.2.2.2.1.2.1 ∧ X' 206 2 = (ig l i).2.2.2.2.2.1.2.2)) := by
  have hI := hit i hi
  refine gT_n 5 ?_
  refine ⟨fun c => absurd c (by decide), fun _ => ?_⟩
  refine gT_n 11 ?_
  refine ⟨rfl, rfl, (pk_in ((3 * i) + 0) 30 (by omega) (pk_addE (n := (3 * i)) (k := 0) (pk_mulE (n := 3) (k := i) (rfl) (rfl)) (rfl))), rfl, (pk_inS (m := 3) (k := 0) (rfl) (by decide) (rfl)), ?_⟩
  refine gT_nA (b := 206) rfl (n := 0) (X := (ig l i).2.2.2.2.2.1.1) (rfl) (by omega) ((rdI (k := 3 * i + 0) (Eq.trans (pk_addE (n := (3 * i)) (k := 0) (pk_mulE (n := 3) (k := i) (rfl) (rfl)) (rfl)) (congrArg nI (show ((3 * i) + 0) = 3 * i + 0 by omega))) (by omega) hI.2.2.1)) ?_
  refine gT_n 5 ?_
  refine ⟨fun c => absurd c (by decide), fun _ => ?_⟩
  refine gT_n 11 ?_
  refine ⟨rfl, rfl, (pk_in ((3 * i) + 1) 30 (by omega) (pk_addE (n := (3 * i)) (k := 1) (pk_mulE (n := 3) (k := i) (rfl) (rfl)) (rfl))), rfl, (pk_inS (m := 3) (k := 1) (rfl) (by decide) (rfl)), ?_⟩
  refine gT_nA (b := 206) rfl (n := 1) (X := (ig l i).2.2.2.2.2.1.2.1) (rfl) (by omega) ((rdI (k := 3 * i + 1) (Eq.trans (pk_addE (n := (3 * i)) (k := 1) (pk_mulE (n := 3) (k := i) (rfl) (rfl)) (rfl)) (congrArg nI (show ((3 * i) + 1) = 3 * i + 1 by omega))) (by omega) hI.2.2.2.1)) ?_
  refine gT_n 5 ?_
  refine ⟨fun c => absurd c (by decide), fun _ => ?_⟩
  refine gT_n 11 ?_
  refine ⟨rfl, rfl, (pk_in ((3 * i) + 2) 30 (by omega) (pk_addE (n := (3 * i)) (k := 2) (pk_mulE (n := 3) (k := i) (rfl) (rfl)) (rfl))), rfl, (pk_inS (m := 3) (k := 2) (rfl) (by decide) (rfl)), ?_⟩
  refine gT_nA (b := 206) rfl (n := 2) (X := (ig l i).2.2.2.2.2.1.2.2) (rfl) (by omega) ((rdI (k := 3 * i + 2) (Eq.trans (pk_addE (n := (3 * i)) (k := 2) (pk_mulE (n := 3) (k := i) (rfl) (rfl)) (rfl)) (congrArg nI (show ((3 * i) + 2) = 3 * i + 2 by omega))) (by omega) hI.2.2.2.2)) ?_
  refine gT_n 5 ?_
  refine ⟨fun _ => ?_, fun c => absurd (by decide) c⟩
  refine gT_n 1 ?_
  refine ⟨rfl, ?_⟩
  exact ⟨rfl, _, rfl, fun j hj => by rw [gupI_n hj, gupI_n hj, gupI_n hj], rfl, rfl, rfl⟩
theorem m_takesE208 {d a : Nat} {I X : Nat → Nat → Int32} {J : Nat → Nat → Int64} {Y : Nat → Int64} {P : Nat → Nat} {C : List zE} (hH : nH X Y C) (hC4 : C.length ≤ 4) (hz4 : ∀ j, j < C.length → (eg C j).1 < 4) (ha : a < C.length) : gTM d 246 [.ref 171, .int (nI a), .ref 208] (gST (nM I X) (m1 J 205 Y) P) (fun r u => r = none ∧ ∃ X', u = gST (nM I X') (m1 J 205 Y) P ∧ (∀ j, ¬ j = 208 → X' j = X j) ∧ (X' 208 0 = (eg C a).2.2.1.1 ∧ X' 208 1 = (eg C a).2.2.1.2.1 ∧ X' 208 2 = (eg C a).2.2.1.2.2)) := by
  refine gT_n 5 ?_
  refine ⟨fun c => absurd c (by decide), fun _ => ?_⟩
  refine gT_n 11 ?_
  refine ⟨rfl, rfl, (pk_in ((3 * a) + 0) 15 (by omega) (pk_addE (n := (3 * a)) (k := 0) (pk_mulE (n := 3) (k := a) (rfl) (rfl)) (rfl))), rfl, (pk_inS (m := 3) (k := 0) (rfl) (by decide) (rfl)), ?_⟩
  refine gT_nA (b := 208) rfl (n := 0) (X := (eg C a).2.2.1.1) (rfl) (by omega) ((rdI (k := 3 * a + 0) (Eq.trans (pk_addE (n := (3 * a)) (k := 0) (pk_mulE (n := 3) (k := a) (rfl) (rfl)) (rfl)) (congrArg nI (show ((3 * a) + 0) = 3 * a + 0 by omega))) (by omega) (hH.2 a ha).2.2.2.1)) ?_
  refine gT_n 5 ?_
  refine ⟨fun c => absurd c (by decide), fun _ => ?_⟩
  refine gT_n 11 ?_
  refine ⟨rfl, rfl, (pk_in ((3 * a) + 1) 15 (by omega) (pk_addE (n := (3 * a)) (k := 1) (pk_mulE (n := 3) (k := a) (rfl) (rfl)) (rfl))), rfl, (pk_inS (m := 3) (k := 1) (rfl) (by decide) (rfl)), ?_⟩
  refine gT_nA (b := 208) rfl (n := 1) (X := (eg C a).2.2.1.2.1) (rfl) (by omega) ((rdI (k := 3 * a + 1) (Eq.trans (pk_addE (n := (3 * a)) (k := 1) (pk_mulE (n := 3) (k := a) (rfl) (rfl)) (rfl)) (congrArg nI (show ((3 * a) + 1) = 3 * a + 1 by omega))) (by omega) (hH.2 a ha).2.2.2.2.1)) ?_
  refine gT_n 5 ?_
  refine ⟨fun c => absurd c (by decide), fun _ => ?_⟩
  refine gT_n 11 ?_
  refine ⟨rfl, rfl, (pk_in ((3 * a) + 2) 15 (by omega) (pk_addE (n := (3 * a)) (k := 2) (pk_mulE (n := 3) (k := a) (rfl) (rfl)) (rfl))), rfl, (pk_inS (m := 3) (k := 2) (rfl) (by decide) (rfl)), ?_⟩
  refine gT_nA (b := 208) rfl (n := 2) (X := (eg C a).2.2.1.2.2) (rfl) (by omega) ((rdI (k := 3 * a + 2) (Eq.trans (pk_addE (n := (3 * a)) (k := 2) (pk_mulE (n := 3) (k := a) (rfl) (rfl)) (rfl)) (congrArg nI (show ((3 * a) + 2) = 3 * a + 2 by omega))) (by omega) (hH.2 a ha).2.2.2.2.2)) ?_
  refine gT_n 5 ?_
  refine ⟨fun _ => ?_, fun c => absurd (by decide) c⟩
  refine gT_n 1 ?_
  refine ⟨rfl, ?_⟩
  exact ⟨rfl, _, rfl, fun j hj => by rw [gupI_n hj, gupI_n hj, gupI_n hj], rfl, rfl, rfl⟩
theorem m_takesI208 {d : Nat} {I X : Nat → Nat → Int32} {J : Nat → Nat → Int64} {Y : Nat → Int64} {P : Nat → Nat} {l : List zI} (hit : mtm I J l) (h10 : l.length ≤ 10) {i : Nat} (hi : i < l.length) : gTM d 247 [.ref 171, .int (nI i), .ref 208] (gST (nM I X) (m1 J 205 Y) P) (fun r u => r = none ∧ ∃ X', u = gST (nM I X') (m1 J 205 Y) P ∧ (∀ j, ¬ j = 208 → X' j = X j) ∧ (X' 208 0 = (ig l i).2.2.2.2.2.1.1 ∧ X' 208 1 = (ig l i).2.2.2.2.2.1.2.1 ∧ X' 208 2 = (ig l i).2.2.2.2.2.1.2.2)) := by
  have hI := hit i hi
  refine gT_n 5 ?_
  refine ⟨fun c => absurd c (by decide), fun _ => ?_⟩
  refine gT_n 11 ?_
  refine ⟨rfl, rfl, (pk_in ((3 * i) + 0) 30 (by omega) (pk_addE (n := (3 * i)) (k := 0) (pk_mulE (n := 3) (k := i) (rfl) (rfl)) (rfl))), rfl, (pk_inS (m := 3) (k := 0) (rfl) (by decide) (rfl)), ?_⟩
  refine gT_nA (b := 208) rfl (n := 0) (X := (ig l i).2.2.2.2.2.1.1) (rfl) (by omega) ((rdI (k := 3 * i + 0) (Eq.trans (pk_addE (n := (3 * i)) (k := 0) (pk_mulE (n := 3) (k := i) (rfl) (rfl)) (rfl)) (congrArg nI (show ((3 * i) + 0) = 3 * i + 0 by omega))) (by omega) hI.2.2.1)) ?_
  refine gT_n 5 ?_
  refine ⟨fun c => absurd c (by decide), fun _ => ?_⟩
  refine gT_n 11 ?_
  refine ⟨rfl, rfl, (pk_in ((3 * i) + 1) 30 (by omega) (pk_addE (n := (3 * i)) (k := 1) (pk_mulE (n := 3) (k := i) (rfl) (rfl)) (rfl))), rfl, (pk_inS (m := 3) (k := 1) (rfl) (by decide) (rfl)), ?_⟩
  refine gT_nA (b := 208) rfl (n := 1) (X := (ig l i).2.2.2.2.2.1.2.1) (rfl) (by omega) ((rdI (k := 3 * i + 1) (Eq.trans (pk_addE (n := (3 * i)) (k := 1) (pk_mulE (n := 3) (k := i) (rfl) (rfl)) (rfl)) (congrArg nI (show ((3 * i) + 1) = 3 * i + 1 by omega))) (by omega) hI.2.2.2.1)) ?_
  refine gT_n 5 ?_
  refine ⟨fun c => absurd c (by decide), fun _ => ?_⟩
  refine gT_n 11 ?_
  refine ⟨rfl, rfl, (pk_in ((3 * i) + 2) 30 (by omega) (pk_addE (n := (3 * i)) (k := 2) (pk_mulE (n := 3) (k := i) (rfl) (rfl)) (rfl))), rfl, (pk_inS (m := 3) (k := 2) (rfl) (by decide) (rfl)), ?_⟩
  refine gT_nA (b := 208) rfl (n := 2) (X := (ig l i).2.2.2.2.2.1.2.2) (rfl) (by omega) ((rdI (k := 3 * i + 2) (Eq.trans (pk_addE (n := (3 * i)) (k := 2) (pk_mulE (n := 3) (k := i) (rfl) (rfl)) (rfl)) (congrArg nI (show ((3 * i) + 2) = 3 * i + 2 by omega))) (by omega) hI.2.2.2.2)) ?_
  refine gT_n 5 ?_
  refine ⟨fun _ => ?_, fun c => absurd (by decide) c⟩
  refine gT_n 1 ?_
  refine ⟨rfl, ?_⟩
  exact ⟨rfl, _, rfl, fun j hj => by rw [gupI_n hj, gupI_n hj, gupI_n hj], rfl, rfl, rfl⟩
theorem m_isRight206 {d : Nat} {kn : Int32 → Prop} {I X : Nat → Nat → Int32} {J : Nat → Nat → Int64} {Y : Nat → Int64} {P : Nat → Nat} {t : zT} {l : List zI} (hit : mtm I J l) (h10 : l.length ≤ 10) (hok : vIs t l) {i : Nat} (hi : i < l.length) (hk : kro (X 206) kn) : gTM (d + 6) 241 [.ref 171, .int (nI i), .ref 206] (gST (nM I X) (m1 J 205 Y) P) (gB (gST (nM I X) (m1 J 205 Y) P) (rt (ig l i) kn)) := by
  have hI := hit i hi
  have hq := hok _ (ig_mem hi)
  refine gT_n 6 ?_
  refine ⟨rfl, rfl, (pk_in i 10 (by omega) (rfl)), rfl, gTM.useA (m_isAmong (I := nM I X) (J := m1 J 205 Y) rfl rfl) (Nat.le_refl _) (aR (aI ((rdI (rfl) (by omega) hI.1.2.2.2.1)) (rfl))) (fun r u hq => ?_)⟩
  obtain ⟨rfl, ⟨rfl, β1⟩ | ⟨rfl, β1⟩⟩ := hq  -- X12_isAmong[R206, (ig l i).2.2.2.2.2.2.1]
  · refine gT_n 1 ?_
    refine ⟨fun c => absurd c (by decide), fun _ => ?_⟩
    refine gT_n 11 ?_
    refine ⟨rfl, rfl, (pk_in i 10 (by omega) (rfl)), rfl, rfl, (pk_in i 10 (by omega) (rfl)), rfl, rfl, gTM.useA (m_markBy (I := nM I X) (J := m1 J 205 Y) (sg := (ig l i).2.2.2.2.2.2.1) (by omega) hI hq) (Nat.le_refl _) (aR (aI (rfl) (aI ((rdI (rfl) (by omega) hI.1.2.2.2.1)) (rfl)))) (fun r u hq => ?_)⟩
    obtain ⟨rfl, rfl⟩ := hq  -- X12_markBy[R171, nI i, (ig l i).2.2.2.2.2.2.1]
    refine gT_n 1 ?_
    refine px_ne (X := (ig l i).2.2.2.2.2.2.2) (Y := (imrk (ig l i) (ig l i).2.2.2.2.2.2.1)) ((rdI (rfl) (by omega) hI.1.2.2.2.2)) (rfl) (fun κ2 => ?_) (fun κ2 => ?_)
    · refine gT_n 2 ?_
      refine ⟨(Or.inl rfl), ?_⟩
      exact ⟨rfl, Or.inr ⟨rfl, fun c => κ2 c.2⟩⟩
    · refine gT_n 3 ?_
      refine ⟨(Or.inr rfl), ?_⟩
      exact ⟨rfl, Or.inl ⟨rfl, (hk _ hq.2.2.2.2).mp β1.2, κ2⟩⟩
  · refine gT_n 1 ?_
    refine ⟨fun _ => ?_, fun c => absurd (by decide) c⟩
    refine gT_n 2 ?_
    refine ⟨(Or.inl rfl), ?_⟩
    exact ⟨rfl, Or.inr ⟨rfl, fun c => β1 ⟨hq.2.2.2.2, (hk _ hq.2.2.2.2).mpr c.1⟩⟩⟩
theorem m_isRight207 {d : Nat} {kn : Int32 → Prop} {I X : Nat → Nat → Int32} {J : Nat → Nat → Int64} {Y : Nat → Int64} {P : Nat → Nat} {t : zT} {l : List zI} (hit : mtm I J l) (h10 : l.length ≤ 10) (hok : vIs t l) {i : Nat} (hi : i < l.length) (hk : kro (X 207) kn) : gTM (d + 6) 241 [.ref 171, .int (nI i), .ref 207] (gST (nM I X) (m1 J 205 Y) P) (gB (gST (nM I X) (m1 J 205 Y) P) (rt (ig l i) kn)) := by
  have hI := hit i hi
  have hq := hok _ (ig_mem hi)
  refine gT_n 6 ?_
  refine ⟨rfl, rfl, (pk_in i 10 (by omega) (rfl)), rfl, gTM.useA (m_isAmong (I := nM I X) (J := m1 J 205 Y) rfl rfl) (Nat.le_refl _) (aR (aI ((rdI (rfl) (by omega) hI.1.2.2.2.1)) (rfl))) (fun r u hq => ?_)⟩
  obtain ⟨rfl, ⟨rfl, β1⟩ | ⟨rfl, β1⟩⟩ := hq  -- X12_isAmong[R207, (ig l i).2.2.2.2.2.2.1]
  · refine gT_n 1 ?_
    refine ⟨fun c => absurd c (by decide), fun _ => ?_⟩
    refine gT_n 11 ?_
    refine ⟨rfl, rfl, (pk_in i 10 (by omega) (rfl)), rfl, rfl, (pk_in i 10 (by omega) (rfl)), rfl, rfl, gTM.useA (m_markBy (I := nM I X) (J := m1 J 205 Y) (sg := (ig l i).2.2.2.2.2.2.1) (by omega) hI hq) (Nat.le_refl _) (aR (aI (rfl) (aI ((rdI (rfl) (by omega) hI.1.2.2.2.1)) (rfl)))) (fun r u hq => ?_)⟩
    obtain ⟨rfl, rfl⟩ := hq  -- X12_markBy[R171, nI i, (ig l i).2.2.2.2.2.2.1]
    refine gT_n 1 ?_
    refine px_ne (X := (ig l i).2.2.2.2.2.2.2) (Y := (imrk (ig l i) (ig l i).2.2.2.2.2.2.1)) ((rdI (rfl) (by omega) hI.1.2.2.2.2)) (rfl) (fun κ2 => ?_) (fun κ2 => ?_)
    · refine gT_n 2 ?_
      refine ⟨(Or.inl rfl), ?_⟩
      exact ⟨rfl, Or.inr ⟨rfl, fun c => κ2 c.2⟩⟩
    · refine gT_n 3 ?_
      refine ⟨(Or.inr rfl), ?_⟩
      exact ⟨rfl, Or.inl ⟨rfl, (hk _ hq.2.2.2.2).mp β1.2, κ2⟩⟩
  · refine gT_n 1 ?_
    refine ⟨fun _ => ?_, fun c => absurd (by decide) c⟩
    refine gT_n 2 ?_
    refine ⟨(Or.inl rfl), ?_⟩
    exact ⟨rfl, Or.inr ⟨rfl, fun c => β1 ⟨hq.2.2.2.2, (hk _ hq.2.2.2.2).mpr c.1⟩⟩⟩
