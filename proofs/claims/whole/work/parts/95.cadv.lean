/-! the next token: the class -/
theorem c_advT {d a0 s : Nat} {X0 : Nat → Nat → Int32} {I X : Nat → Nat → Int32} {J Y : Nat → Nat → Int64} {P : Nat → Nat} {n : Nat} {b : Nat → Nat} (hT : tpe I n b) (hsp : isSp n b a0 s) (hat : X 1 6 = nI s) (h4 : X 1 4 = 0) (hfr : uFr X0 X) : gT (d + 2) 63 38 [(0, .ref 1)] [] (0, 0) (gST (uM I X) (uJ J Y) P) (fun r u => ∃ ra x X', adv n b a0 ra ∧ r = some (.int x) ∧ u = gST (uM I X') (uJ J Y) P ∧ uFr X0 X' ∧ aOut X' x ra) := by
  have hn2 := hT.2.1
  have hs := hsp.2.1
  refine gT_n 4 ?_
  refine ⟨rfl, rfl, ?_⟩
  refine gT_uP rfl (X := (nI s)) (hat) ?_
  refine gT_n 5 ?_
  refine ⟨rfl, rfl, pk_lt s n (fun κ1 => ?_) (fun κ1 => ?_) (hat) (hT.1) (by omega) (by omega)⟩
  · refine gT_n 6 ?_
    refine ⟨rfl, rfl, (Or.inl rfl), (pk_in s 200 (by omega) (hat)), ?_⟩
    refine gT_k (L := [(1, .int (nI ((b s)))), (0, .ref 1)]) ?_ ⟨(viI ((rdI (hat) (by omega) (hT.2.2 _ (by omega)).1))), rfl, trivial⟩ rfl
    refine gT_n 4 ?_
    refine ⟨rfl, ?_⟩
    refine gT_n 3 ?_
    refine pk_lt ((b s)) 97 (fun κ2 => ?_) (fun κ2 => ?_) (rfl) (rfl) (by have := (hT.2.2 s (by omega)).2; omega) (by omega)
    · refine gT_n 2 ?_
      refine ⟨(Or.inl rfl), ?_⟩
      show gT _ 63 82 _ _ _ _ _
      refine gT_n 1 ?_
      refine ⟨fun _ => ?_, fun c => absurd (by decide) c⟩
      refine gT_n 4 ?_
      refine ⟨rfl, ?_⟩
      refine gT_n 3 ?_
      refine pk_lt ((b s)) 48 (fun κ3 => ?_) (fun κ3 => ?_) (rfl) (rfl) (by have := (hT.2.2 s (by omega)).2; omega) (by omega)
      · refine gT_n 2 ?_
        refine ⟨(Or.inl rfl), ?_⟩
        show gT _ 63 109 _ _ _ _ _
        refine gT_n 1 ?_
        refine ⟨fun _ => ?_, fun c => absurd (by decide) c⟩
        refine gT_n 4 ?_
        refine pk_ne ((b s)) 46 (fun κ4 => ?_) (fun κ4 => ?_) (rfl) (rfl) (by have := (hT.2.2 s (by omega)).2; omega) (by omega)
        · refine gT_n 3 ?_
          refine pk_ne ((b s)) 42 (fun κ5 => ?_) (fun κ5 => ?_) (rfl) (rfl) (by have := (hT.2.2 s (by omega)).2; omega) (by omega)
          · refine gT_n 3 ?_
            refine pk_ne ((b s)) 59 (fun κ6 => ?_) (fun κ6 => ?_) (rfl) (rfl) (by have := (hT.2.2 s (by omega)).2; omega) (by omega)
            · refine gT_n 2 ?_
              refine ⟨rfl, ?_⟩
              refine gT_uP rfl (X := 0) (rfl) ?_
              refine gT_n 6 ?_
              refine ⟨rfl, rfl, ?_⟩
              refine gT_uP rfl (X := (nI (s + 1))) (pk_addE (n := s) (k := 1) (hat) (rfl)) ?_
              refine gT_n 3 ?_
              refine ⟨rfl, fun c => absurd c (kpT (p := fun z : Int32 => ¬ (¬ z = 0)) (show _ = (0 : Int32) from rfl) (by decide)), fun _ => ?_⟩
              refine gT_n 5 ?_
              refine ⟨rfl, rfl, rfl, ?_⟩
              refine gT_n 3 ?_
              refine ⟨rfl, ?_⟩
              refine gT_uP rfl (X := 1) (rfl) ?_
              refine gT_n 3 ?_
              refine ⟨rfl, ?_⟩
              refine gT_uP rfl (X := (nI s)) (rfl) ?_
              refine gT_n 2 ?_
              refine ⟨(Or.inl rfl), ?_⟩
              show gT _ 63 217 _ _ _ _ _
              refine gT_n 1 ?_
              refine ⟨fun _ => ?_, fun c => absurd (by decide) c⟩
              refine gT_n 2 ?_
              refine ⟨(Or.inl rfl), ?_⟩
              exact ⟨.inl (1, s), 0, _, ⟨(s, s + 1, 6), ⟨hsp, (pif_pos (c := s < n) (by omega)).mpr ((pif_neg (c := 97 ≤ b s ∧ b s ≤ 122) (by omega)).mpr ((pif_neg (c := 48 ≤ b s ∧ b s ≤ 57) (by omega)).mpr ⟨(by show 6 = sgn (b s); unfold sgn; rw [if_neg (by omega), if_neg (by omega), if_neg (by omega)]), rfl⟩))⟩, (pif_pos (Or.inl rfl)).mpr rfl⟩, rfl, rfl, ⟨fun a ha => by rw [gupI_n ha, gupI_n ha, gupI_n ha, gupI_n ha, gupI_n ha]; exact hfr.1 a ha, hfr.2⟩, rfl, rfl, rfl⟩
            · refine gT_n 3 ?_
              refine ⟨rfl, ?_⟩
              refine gT_uP rfl (X := 5) (rfl) ?_
              refine gT_n 6 ?_
              refine ⟨rfl, rfl, ?_⟩
              refine gT_uP rfl (X := (nI (s + 1))) (pk_addE (n := s) (k := 1) (hat) (rfl)) ?_
              refine gT_n 3 ?_
              refine ⟨rfl, fun _ => ?_, fun c => absurd c (kpT (p := fun z : Int32 => ¬ z = 0) (show _ = (5 : Int32) from rfl) (by decide))⟩
              refine gT_n 3 ?_
              refine ⟨(Or.inr rfl), ?_⟩
              exact ⟨.inr (s, s + 1, 5), 1, _, ⟨(s, s + 1, 5), ⟨hsp, (pif_pos (c := s < n) (by omega)).mpr ((pif_neg (c := 97 ≤ b s ∧ b s ≤ 122) (by omega)).mpr ((pif_neg (c := 48 ≤ b s ∧ b s ≤ 57) (by omega)).mpr ⟨(by show 5 = sgn (b s); unfold sgn; rw [if_neg (by omega), if_neg (by omega), if_pos (by omega)]), rfl⟩))⟩, (pif_neg (by unfold tBad; simp)).mpr rfl⟩, rfl, rfl, ⟨fun a ha => by rw [gupI_n ha, gupI_n ha, gupI_n ha]; exact hfr.1 a ha, hfr.2⟩, rfl, rfl, rfl, rfl, h4⟩
          · refine gT_n 3 ?_
            refine ⟨rfl, ?_⟩
            refine gT_uP rfl (X := 4) (rfl) ?_
            refine gT_n 6 ?_
            refine ⟨rfl, rfl, ?_⟩
            refine gT_uP rfl (X := (nI (s + 1))) (pk_addE (n := s) (k := 1) (hat) (rfl)) ?_
            refine gT_n 3 ?_
            refine ⟨rfl, fun _ => ?_, fun c => absurd c (kpT (p := fun z : Int32 => ¬ z = 0) (show _ = (4 : Int32) from rfl) (by decide))⟩
            refine gT_n 3 ?_
            refine ⟨(Or.inr rfl), ?_⟩
            exact ⟨.inr (s, s + 1, 4), 1, _, ⟨(s, s + 1, 4), ⟨hsp, (pif_pos (c := s < n) (by omega)).mpr ((pif_neg (c := 97 ≤ b s ∧ b s ≤ 122) (by omega)).mpr ((pif_neg (c := 48 ≤ b s ∧ b s ≤ 57) (by omega)).mpr ⟨(by show 4 = sgn (b s); unfold sgn; rw [if_neg (by omega), if_pos (by omega)]), rfl⟩))⟩, (pif_neg (by unfold tBad; simp)).mpr rfl⟩, rfl, rfl, ⟨fun a ha => by rw [gupI_n ha, gupI_n ha, gupI_n ha]; exact hfr.1 a ha, hfr.2⟩, rfl, rfl, rfl, rfl, h4⟩
        · refine gT_n 3 ?_
          refine ⟨rfl, ?_⟩
          refine gT_uP rfl (X := 3) (rfl) ?_
          refine gT_n 6 ?_
          refine ⟨rfl, rfl, ?_⟩
          refine gT_uP rfl (X := (nI (s + 1))) (pk_addE (n := s) (k := 1) (hat) (rfl)) ?_
          refine gT_n 3 ?_
          refine ⟨rfl, fun _ => ?_, fun c => absurd c (kpT (p := fun z : Int32 => ¬ z = 0) (show _ = (3 : Int32) from rfl) (by decide))⟩
          refine gT_n 3 ?_
          refine ⟨(Or.inr rfl), ?_⟩
          exact ⟨.inr (s, s + 1, 3), 1, _, ⟨(s, s + 1, 3), ⟨hsp, (pif_pos (c := s < n) (by omega)).mpr ((pif_neg (c := 97 ≤ b s ∧ b s ≤ 122) (by omega)).mpr ((pif_neg (c := 48 ≤ b s ∧ b s ≤ 57) (by omega)).mpr ⟨(by show 3 = sgn (b s); unfold sgn; rw [if_pos (by omega)]), rfl⟩))⟩, (pif_neg (by unfold tBad; simp)).mpr rfl⟩, rfl, rfl, ⟨fun a ha => by rw [gupI_n ha, gupI_n ha, gupI_n ha]; exact hfr.1 a ha, hfr.2⟩, rfl, rfl, rfl, rfl, h4⟩
      · refine gT_n 3 ?_
        refine pk_lt 57 ((b s)) (fun κ7 => ?_) (fun κ7 => ?_) (rfl) (rfl) (by omega) (by have := (hT.2.2 s (by omega)).2; omega)
        · refine gT_n 2 ?_
          refine ⟨(Or.inl rfl), ?_⟩
          show gT _ 63 109 _ _ _ _ _
          refine gT_n 1 ?_
          refine ⟨fun _ => ?_, fun c => absurd (by decide) c⟩
          refine gT_n 4 ?_
          refine pk_ne ((b s)) 46 (fun κ8 => ?_) (fun κ8 => ?_) (rfl) (rfl) (by have := (hT.2.2 s (by omega)).2; omega) (by omega)
          · refine gT_n 3 ?_
            refine pk_ne ((b s)) 42 (fun κ9 => ?_) (fun κ9 => ?_) (rfl) (rfl) (by have := (hT.2.2 s (by omega)).2; omega) (by omega)
            · refine gT_n 3 ?_
              refine pk_ne ((b s)) 59 (fun κ10 => ?_) (fun κ10 => ?_) (rfl) (rfl) (by have := (hT.2.2 s (by omega)).2; omega) (by omega)
              · refine gT_n 2 ?_
                refine ⟨rfl, ?_⟩
                refine gT_uP rfl (X := 0) (rfl) ?_
                refine gT_n 6 ?_
                refine ⟨rfl, rfl, ?_⟩
                refine gT_uP rfl (X := (nI (s + 1))) (pk_addE (n := s) (k := 1) (hat) (rfl)) ?_
                refine gT_n 3 ?_
                refine ⟨rfl, fun c => absurd c (kpT (p := fun z : Int32 => ¬ (¬ z = 0)) (show _ = (0 : Int32) from rfl) (by decide)), fun _ => ?_⟩
                refine gT_n 5 ?_
                refine ⟨rfl, rfl, rfl, ?_⟩
                refine gT_n 3 ?_
                refine ⟨rfl, ?_⟩
                refine gT_uP rfl (X := 1) (rfl) ?_
                refine gT_n 3 ?_
                refine ⟨rfl, ?_⟩
                refine gT_uP rfl (X := (nI s)) (rfl) ?_
                refine gT_n 2 ?_
                refine ⟨(Or.inl rfl), ?_⟩
                show gT _ 63 217 _ _ _ _ _
                refine gT_n 1 ?_
                refine ⟨fun _ => ?_, fun c => absurd (by decide) c⟩
                refine gT_n 2 ?_
                refine ⟨(Or.inl rfl), ?_⟩
                exact ⟨.inl (1, s), 0, _, ⟨(s, s + 1, 6), ⟨hsp, (pif_pos (c := s < n) (by omega)).mpr ((pif_neg (c := 97 ≤ b s ∧ b s ≤ 122) (by omega)).mpr ((pif_neg (c := 48 ≤ b s ∧ b s ≤ 57) (by omega)).mpr ⟨(by show 6 = sgn (b s); unfold sgn; rw [if_neg (by omega), if_neg (by omega), if_neg (by omega)]), rfl⟩))⟩, (pif_pos (Or.inl rfl)).mpr rfl⟩, rfl, rfl, ⟨fun a ha => by rw [gupI_n ha, gupI_n ha, gupI_n ha, gupI_n ha, gupI_n ha]; exact hfr.1 a ha, hfr.2⟩, rfl, rfl, rfl⟩
              · refine gT_n 3 ?_
                refine ⟨rfl, ?_⟩
                refine gT_uP rfl (X := 5) (rfl) ?_
                refine gT_n 6 ?_
                refine ⟨rfl, rfl, ?_⟩
                refine gT_uP rfl (X := (nI (s + 1))) (pk_addE (n := s) (k := 1) (hat) (rfl)) ?_
                refine gT_n 3 ?_
                refine ⟨rfl, fun _ => ?_, fun c => absurd c (kpT (p := fun z : Int32 => ¬ z = 0) (show _ = (5 : Int32) from rfl) (by decide))⟩
                refine gT_n 3 ?_
                refine ⟨(Or.inr rfl), ?_⟩
                exact ⟨.inr (s, s + 1, 5), 1, _, ⟨(s, s + 1, 5), ⟨hsp, (pif_pos (c := s < n) (by omega)).mpr ((pif_neg (c := 97 ≤ b s ∧ b s ≤ 122) (by omega)).mpr ((pif_neg (c := 48 ≤ b s ∧ b s ≤ 57) (by omega)).mpr ⟨(by show 5 = sgn (b s); unfold sgn; rw [if_neg (by omega), if_neg (by omega), if_pos (by omega)]), rfl⟩))⟩, (pif_neg (by unfold tBad; simp)).mpr rfl⟩, rfl, rfl, ⟨fun a ha => by rw [gupI_n ha, gupI_n ha, gupI_n ha]; exact hfr.1 a ha, hfr.2⟩, rfl, rfl, rfl, rfl, h4⟩
            · refine gT_n 3 ?_
              refine ⟨rfl, ?_⟩
              refine gT_uP rfl (X := 4) (rfl) ?_
              refine gT_n 6 ?_
              refine ⟨rfl, rfl, ?_⟩
              refine gT_uP rfl (X := (nI (s + 1))) (pk_addE (n := s) (k := 1) (hat) (rfl)) ?_
              refine gT_n 3 ?_
              refine ⟨rfl, fun _ => ?_, fun c => absurd c (kpT (p := fun z : Int32 => ¬ z = 0) (show _ = (4 : Int32) from rfl) (by decide))⟩
              refine gT_n 3 ?_
              refine ⟨(Or.inr rfl), ?_⟩
              exact ⟨.inr (s, s + 1, 4), 1, _, ⟨(s, s + 1, 4), ⟨hsp, (pif_pos (c := s < n) (by omega)).mpr ((pif_neg (c := 97 ≤ b s ∧ b s ≤ 122) (by omega)).mpr ((pif_neg (c := 48 ≤ b s ∧ b s ≤ 57) (by omega)).mpr ⟨(by show 4 = sgn (b s); unfold sgn; rw [if_neg (by omega), if_pos (by omega)]), rfl⟩))⟩, (pif_neg (by unfold tBad; simp)).mpr rfl⟩, rfl, rfl, ⟨fun a ha => by rw [gupI_n ha, gupI_n ha, gupI_n ha]; exact hfr.1 a ha, hfr.2⟩, rfl, rfl, rfl, rfl, h4⟩
          · refine gT_n 3 ?_
            refine ⟨rfl, ?_⟩
            refine gT_uP rfl (X := 3) (rfl) ?_
            refine gT_n 6 ?_
            refine ⟨rfl, rfl, ?_⟩
            refine gT_uP rfl (X := (nI (s + 1))) (pk_addE (n := s) (k := 1) (hat) (rfl)) ?_
            refine gT_n 3 ?_
            refine ⟨rfl, fun _ => ?_, fun c => absurd c (kpT (p := fun z : Int32 => ¬ z = 0) (show _ = (3 : Int32) from rfl) (by decide))⟩
            refine gT_n 3 ?_
            refine ⟨(Or.inr rfl), ?_⟩
            exact ⟨.inr (s, s + 1, 3), 1, _, ⟨(s, s + 1, 3), ⟨hsp, (pif_pos (c := s < n) (by omega)).mpr ((pif_neg (c := 97 ≤ b s ∧ b s ≤ 122) (by omega)).mpr ((pif_neg (c := 48 ≤ b s ∧ b s ≤ 57) (by omega)).mpr ⟨(by show 3 = sgn (b s); unfold sgn; rw [if_pos (by omega)]), rfl⟩))⟩, (pif_neg (by unfold tBad; simp)).mpr rfl⟩, rfl, rfl, ⟨fun a ha => by rw [gupI_n ha, gupI_n ha, gupI_n ha]; exact hfr.1 a ha, hfr.2⟩, rfl, rfl, rfl, rfl, h4⟩
        · refine gT_n 3 ?_
          refine ⟨(Or.inr rfl), ?_⟩
          show gT _ 63 109 _ _ _ _ _
          refine gT_n 1 ?_
          refine ⟨fun c => absurd c (by decide), fun _ => ?_⟩
          refine gT_n 3 ?_
          refine ⟨rfl, ?_⟩
          refine gT_uP rfl (X := 2) (rfl) ?_
          refine gT_n 4 ?_
          refine ⟨rfl, rfl, gTM.use (c_skip (lo := 48) (hi := 57) (a0 := s) hT (by omega) (by decide) (by decide) hat) (Nat.le_refl _) (fun r u hq => ?_)⟩
          obtain ⟨rfl, e, he, rfl⟩ := hq  -- X6_skip[R1, K48, K57]
          have he2 := he.2.1
          have he3 := he.1
          refine gT_n 7 ?_
          refine ⟨rfl, rfl, pk_le (e - s) 2 (fun κ11 => ?_) (fun κ11 => ?_) (pk_subE (n := e) (k := s) (rfl) (rfl) (by omega)) (rfl) (by omega) (by omega)⟩
          · refine gT_n 3 ?_
            refine ⟨(Or.inr rfl), ?_⟩
            exact ⟨.inr (s, e, 2), 1, _, ⟨(s, e, 2), ⟨hsp, (pif_pos (c := s < n) (by omega)).mpr ((pif_neg (c := 97 ≤ b s ∧ b s ≤ 122) (by omega)).mpr ((pif_pos (c := 48 ≤ b s ∧ b s ≤ 57) (by omega)).mpr ⟨rfl, he⟩))⟩, (pif_neg (by unfold tBad; dsimp only; omega)).mpr rfl⟩, rfl, rfl, ⟨fun a ha => by rw [gupI_n ha, gupI_n ha, gupI_n ha]; exact hfr.1 a ha, hfr.2⟩, rfl, rfl, rfl, rfl, h4⟩
          · refine gT_n 5 ?_
            refine ⟨rfl, rfl, rfl, ?_⟩
            refine gT_n 3 ?_
            refine ⟨rfl, ?_⟩
            refine gT_uP rfl (X := 1) (rfl) ?_
            refine gT_n 3 ?_
            refine ⟨rfl, ?_⟩
            refine gT_uP rfl (X := (nI s)) (rfl) ?_
            refine gT_n 2 ?_
            refine ⟨(Or.inl rfl), ?_⟩
            show gT _ 63 147 _ _ _ _ _
            refine gT_n 1 ?_
            refine ⟨fun _ => ?_, fun c => absurd (by decide) c⟩
            refine gT_n 2 ?_
            refine ⟨(Or.inl rfl), ?_⟩
            exact ⟨.inl (1, s), 0, _, ⟨(s, e, 2), ⟨hsp, (pif_pos (c := s < n) (by omega)).mpr ((pif_neg (c := 97 ≤ b s ∧ b s ≤ 122) (by omega)).mpr ((pif_pos (c := 48 ≤ b s ∧ b s ≤ 57) (by omega)).mpr ⟨rfl, he⟩))⟩, (pif_pos (by unfold tBad; dsimp only; omega)).mpr rfl⟩, rfl, rfl, ⟨fun a ha => by rw [gupI_n ha, gupI_n ha, gupI_n ha, gupI_n ha, gupI_n ha]; exact hfr.1 a ha, hfr.2⟩, rfl, rfl, rfl⟩
    · refine gT_n 3 ?_
      refine pk_lt 122 ((b s)) (fun κ12 => ?_) (fun κ12 => ?_) (rfl) (rfl) (by omega) (by have := (hT.2.2 s (by omega)).2; omega)
      · refine gT_n 2 ?_
        refine ⟨(Or.inl rfl), ?_⟩
        show gT _ 63 82 _ _ _ _ _
        refine gT_n 1 ?_
        refine ⟨fun _ => ?_, fun c => absurd (by decide) c⟩
        refine gT_n 4 ?_
        refine ⟨rfl, ?_⟩
        refine gT_n 3 ?_
        refine pk_lt ((b s)) 48 (fun κ13 => ?_) (fun κ13 => ?_) (rfl) (rfl) (by have := (hT.2.2 s (by omega)).2; omega) (by omega)
        · refine gT_n 2 ?_
          refine ⟨(Or.inl rfl), ?_⟩
          show gT _ 63 109 _ _ _ _ _
          refine gT_n 1 ?_
          refine ⟨fun _ => ?_, fun c => absurd (by decide) c⟩
          refine gT_n 4 ?_
          refine pk_ne ((b s)) 46 (fun κ14 => ?_) (fun κ14 => ?_) (rfl) (rfl) (by have := (hT.2.2 s (by omega)).2; omega) (by omega)
          · refine gT_n 3 ?_
            refine pk_ne ((b s)) 42 (fun κ15 => ?_) (fun κ15 => ?_) (rfl) (rfl) (by have := (hT.2.2 s (by omega)).2; omega) (by omega)
            · refine gT_n 3 ?_
              refine pk_ne ((b s)) 59 (fun κ16 => ?_) (fun κ16 => ?_) (rfl) (rfl) (by have := (hT.2.2 s (by omega)).2; omega) (by omega)
              · refine gT_n 2 ?_
                refine ⟨rfl, ?_⟩
                refine gT_uP rfl (X := 0) (rfl) ?_
                refine gT_n 6 ?_
                refine ⟨rfl, rfl, ?_⟩
                refine gT_uP rfl (X := (nI (s + 1))) (pk_addE (n := s) (k := 1) (hat) (rfl)) ?_
                refine gT_n 3 ?_
                refine ⟨rfl, fun c => absurd c (kpT (p := fun z : Int32 => ¬ (¬ z = 0)) (show _ = (0 : Int32) from rfl) (by decide)), fun _ => ?_⟩
                refine gT_n 5 ?_
                refine ⟨rfl, rfl, rfl, ?_⟩
                refine gT_n 3 ?_
                refine ⟨rfl, ?_⟩
                refine gT_uP rfl (X := 1) (rfl) ?_
                refine gT_n 3 ?_
                refine ⟨rfl, ?_⟩
                refine gT_uP rfl (X := (nI s)) (rfl) ?_
                refine gT_n 2 ?_
                refine ⟨(Or.inl rfl), ?_⟩
                show gT _ 63 217 _ _ _ _ _
                refine gT_n 1 ?_
                refine ⟨fun _ => ?_, fun c => absurd (by decide) c⟩
                refine gT_n 2 ?_
                refine ⟨(Or.inl rfl), ?_⟩
                exact ⟨.inl (1, s), 0, _, ⟨(s, s + 1, 6), ⟨hsp, (pif_pos (c := s < n) (by omega)).mpr ((pif_neg (c := 97 ≤ b s ∧ b s ≤ 122) (by omega)).mpr ((pif_neg (c := 48 ≤ b s ∧ b s ≤ 57) (by omega)).mpr ⟨(by show 6 = sgn (b s); unfold sgn; rw [if_neg (by omega), if_neg (by omega), if_neg (by omega)]), rfl⟩))⟩, (pif_pos (Or.inl rfl)).mpr rfl⟩, rfl, rfl, ⟨fun a ha => by rw [gupI_n ha, gupI_n ha, gupI_n ha, gupI_n ha, gupI_n ha]; exact hfr.1 a ha, hfr.2⟩, rfl, rfl, rfl⟩
              · refine gT_n 3 ?_
                refine ⟨rfl, ?_⟩
                refine gT_uP rfl (X := 5) (rfl) ?_
                refine gT_n 6 ?_
                refine ⟨rfl, rfl, ?_⟩
                refine gT_uP rfl (X := (nI (s + 1))) (pk_addE (n := s) (k := 1) (hat) (rfl)) ?_
                refine gT_n 3 ?_
                refine ⟨rfl, fun _ => ?_, fun c => absurd c (kpT (p := fun z : Int32 => ¬ z = 0) (show _ = (5 : Int32) from rfl) (by decide))⟩
                refine gT_n 3 ?_
                refine ⟨(Or.inr rfl), ?_⟩
                exact ⟨.inr (s, s + 1, 5), 1, _, ⟨(s, s + 1, 5), ⟨hsp, (pif_pos (c := s < n) (by omega)).mpr ((pif_neg (c := 97 ≤ b s ∧ b s ≤ 122) (by omega)).mpr ((pif_neg (c := 48 ≤ b s ∧ b s ≤ 57) (by omega)).mpr ⟨(by show 5 = sgn (b s); unfold sgn; rw [if_neg (by omega), if_neg (by omega), if_pos (by omega)]), rfl⟩))⟩, (pif_neg (by unfold tBad; simp)).mpr rfl⟩, rfl, rfl, ⟨fun a ha => by rw [gupI_n ha, gupI_n ha, gupI_n ha]; exact hfr.1 a ha, hfr.2⟩, rfl, rfl, rfl, rfl, h4⟩
            · refine gT_n 3 ?_
              refine ⟨rfl, ?_⟩
              refine gT_uP rfl (X := 4) (rfl) ?_
              refine gT_n 6 ?_
              refine ⟨rfl, rfl, ?_⟩
              refine gT_uP rfl (X := (nI (s + 1))) (pk_addE (n := s) (k := 1) (hat) (rfl)) ?_
              refine gT_n 3 ?_
              refine ⟨rfl, fun _ => ?_, fun c => absurd c (kpT (p := fun z : Int32 => ¬ z = 0) (show _ = (4 : Int32) from rfl) (by decide))⟩
              refine gT_n 3 ?_
              refine ⟨(Or.inr rfl), ?_⟩
              exact ⟨.inr (s, s + 1, 4), 1, _, ⟨(s, s + 1, 4), ⟨hsp, (pif_pos (c := s < n) (by omega)).mpr ((pif_neg (c := 97 ≤ b s ∧ b s ≤ 122) (by omega)).mpr ((pif_neg (c := 48 ≤ b s ∧ b s ≤ 57) (by omega)).mpr ⟨(by show 4 = sgn (b s); unfold sgn; rw [if_neg (by omega), if_pos (by omega)]), rfl⟩))⟩, (pif_neg (by unfold tBad; simp)).mpr rfl⟩, rfl, rfl, ⟨fun a ha => by rw [gupI_n ha, gupI_n ha, gupI_n ha]; exact hfr.1 a ha, hfr.2⟩, rfl, rfl, rfl, rfl, h4⟩
          · refine gT_n 3 ?_
            refine ⟨rfl, ?_⟩
            refine gT_uP rfl (X := 3) (rfl) ?_
            refine gT_n 6 ?_
            refine ⟨rfl, rfl, ?_⟩
            refine gT_uP rfl (X := (nI (s + 1))) (pk_addE (n := s) (k := 1) (hat) (rfl)) ?_
            refine gT_n 3 ?_
            refine ⟨rfl, fun _ => ?_, fun c => absurd c (kpT (p := fun z : Int32 => ¬ z = 0) (show _ = (3 : Int32) from rfl) (by decide))⟩
            refine gT_n 3 ?_
            refine ⟨(Or.inr rfl), ?_⟩
            exact ⟨.inr (s, s + 1, 3), 1, _, ⟨(s, s + 1, 3), ⟨hsp, (pif_pos (c := s < n) (by omega)).mpr ((pif_neg (c := 97 ≤ b s ∧ b s ≤ 122) (by omega)).mpr ((pif_neg (c := 48 ≤ b s ∧ b s ≤ 57) (by omega)).mpr ⟨(by show 3 = sgn (b s); unfold sgn; rw [if_pos (by omega)]), rfl⟩))⟩, (pif_neg (by unfold tBad; simp)).mpr rfl⟩, rfl, rfl, ⟨fun a ha => by rw [gupI_n ha, gupI_n ha, gupI_n ha]; exact hfr.1 a ha, hfr.2⟩, rfl, rfl, rfl, rfl, h4⟩
        · refine gT_n 3 ?_
          refine pk_lt 57 ((b s)) (fun κ17 => ?_) (fun κ17 => ?_) (rfl) (rfl) (by omega) (by have := (hT.2.2 s (by omega)).2; omega)
          · refine gT_n 2 ?_
            refine ⟨(Or.inl rfl), ?_⟩
            show gT _ 63 109 _ _ _ _ _
            refine gT_n 1 ?_
            refine ⟨fun _ => ?_, fun c => absurd (by decide) c⟩
            refine gT_n 4 ?_
            refine pk_ne ((b s)) 46 (fun κ18 => ?_) (fun κ18 => ?_) (rfl) (rfl) (by have := (hT.2.2 s (by omega)).2; omega) (by omega)
            · refine gT_n 3 ?_
              refine pk_ne ((b s)) 42 (fun κ19 => ?_) (fun κ19 => ?_) (rfl) (rfl) (by have := (hT.2.2 s (by omega)).2; omega) (by omega)
              · refine gT_n 3 ?_
                refine pk_ne ((b s)) 59 (fun κ20 => ?_) (fun κ20 => ?_) (rfl) (rfl) (by have := (hT.2.2 s (by omega)).2; omega) (by omega)
                · refine gT_n 2 ?_
                  refine ⟨rfl, ?_⟩
                  refine gT_uP rfl (X := 0) (rfl) ?_
                  refine gT_n 6 ?_
                  refine ⟨rfl, rfl, ?_⟩
                  refine gT_uP rfl (X := (nI (s + 1))) (pk_addE (n := s) (k := 1) (hat) (rfl)) ?_
                  refine gT_n 3 ?_
                  refine ⟨rfl, fun c => absurd c (kpT (p := fun z : Int32 => ¬ (¬ z = 0)) (show _ = (0 : Int32) from rfl) (by decide)), fun _ => ?_⟩
                  refine gT_n 5 ?_
                  refine ⟨rfl, rfl, rfl, ?_⟩
                  refine gT_n 3 ?_
                  refine ⟨rfl, ?_⟩
                  refine gT_uP rfl (X := 1) (rfl) ?_
                  refine gT_n 3 ?_
                  refine ⟨rfl, ?_⟩
                  refine gT_uP rfl (X := (nI s)) (rfl) ?_
                  refine gT_n 2 ?_
                  refine ⟨(Or.inl rfl), ?_⟩
                  show gT _ 63 217 _ _ _ _ _
                  refine gT_n 1 ?_
                  refine ⟨fun _ => ?_, fun c => absurd (by decide) c⟩
                  refine gT_n 2 ?_
                  refine ⟨(Or.inl rfl), ?_⟩
                  exact ⟨.inl (1, s), 0, _, ⟨(s, s + 1, 6), ⟨hsp, (pif_pos (c := s < n) (by omega)).mpr ((pif_neg (c := 97 ≤ b s ∧ b s ≤ 122) (by omega)).mpr ((pif_neg (c := 48 ≤ b s ∧ b s ≤ 57) (by omega)).mpr ⟨(by show 6 = sgn (b s); unfold sgn; rw [if_neg (by omega), if_neg (by omega), if_neg (by omega)]), rfl⟩))⟩, (pif_pos (Or.inl rfl)).mpr rfl⟩, rfl, rfl, ⟨fun a ha => by rw [gupI_n ha, gupI_n ha, gupI_n ha, gupI_n ha, gupI_n ha]; exact hfr.1 a ha, hfr.2⟩, rfl, rfl, rfl⟩
                · refine gT_n 3 ?_
                  refine ⟨rfl, ?_⟩
                  refine gT_uP rfl (X := 5) (rfl) ?_
                  refine gT_n 6 ?_
                  refine ⟨rfl, rfl, ?_⟩
                  refine gT_uP rfl (X := (nI (s + 1))) (pk_addE (n := s) (k := 1) (hat) (rfl)) ?_
                  refine gT_n 3 ?_
                  refine ⟨rfl, fun _ => ?_, fun c => absurd c (kpT (p := fun z : Int32 => ¬ z = 0) (show _ = (5 : Int32) from rfl) (by decide))⟩
                  refine gT_n 3 ?_
                  refine ⟨(Or.inr rfl), ?_⟩
                  exact ⟨.inr (s, s + 1, 5), 1, _, ⟨(s, s + 1, 5), ⟨hsp, (pif_pos (c := s < n) (by omega)).mpr ((pif_neg (c := 97 ≤ b s ∧ b s ≤ 122) (by omega)).mpr ((pif_neg (c := 48 ≤ b s ∧ b s ≤ 57) (by omega)).mpr ⟨(by show 5 = sgn (b s); unfold sgn; rw [if_neg (by omega), if_neg (by omega), if_pos (by omega)]), rfl⟩))⟩, (pif_neg (by unfold tBad; simp)).mpr rfl⟩, rfl, rfl, ⟨fun a ha => by rw [gupI_n ha, gupI_n ha, gupI_n ha]; exact hfr.1 a ha, hfr.2⟩, rfl, rfl, rfl, rfl, h4⟩
              · refine gT_n 3 ?_
                refine ⟨rfl, ?_⟩
                refine gT_uP rfl (X := 4) (rfl) ?_
                refine gT_n 6 ?_
                refine ⟨rfl, rfl, ?_⟩
                refine gT_uP rfl (X := (nI (s + 1))) (pk_addE (n := s) (k := 1) (hat) (rfl)) ?_
                refine gT_n 3 ?_
                refine ⟨rfl, fun _ => ?_, fun c => absurd c (kpT (p := fun z : Int32 => ¬ z = 0) (show _ = (4 : Int32) from rfl) (by decide))⟩
                refine gT_n 3 ?_
                refine ⟨(Or.inr rfl), ?_⟩
                exact ⟨.inr (s, s + 1, 4), 1, _, ⟨(s, s + 1, 4), ⟨hsp, (pif_pos (c := s < n) (by omega)).mpr ((pif_neg (c := 97 ≤ b s ∧ b s ≤ 122) (by omega)).mpr ((pif_neg (c := 48 ≤ b s ∧ b s ≤ 57) (by omega)).mpr ⟨(by show 4 = sgn (b s); unfold sgn; rw [if_neg (by omega), if_pos (by omega)]), rfl⟩))⟩, (pif_neg (by unfold tBad; simp)).mpr rfl⟩, rfl, rfl, ⟨fun a ha => by rw [gupI_n ha, gupI_n ha, gupI_n ha]; exact hfr.1 a ha, hfr.2⟩, rfl, rfl, rfl, rfl, h4⟩
            · refine gT_n 3 ?_
              refine ⟨rfl, ?_⟩
              refine gT_uP rfl (X := 3) (rfl) ?_
              refine gT_n 6 ?_
              refine ⟨rfl, rfl, ?_⟩
              refine gT_uP rfl (X := (nI (s + 1))) (pk_addE (n := s) (k := 1) (hat) (rfl)) ?_
              refine gT_n 3 ?_
              refine ⟨rfl, fun _ => ?_, fun c => absurd c (kpT (p := fun z : Int32 => ¬ z = 0) (show _ = (3 : Int32) from rfl) (by decide))⟩
              refine gT_n 3 ?_
              refine ⟨(Or.inr rfl), ?_⟩
              exact ⟨.inr (s, s + 1, 3), 1, _, ⟨(s, s + 1, 3), ⟨hsp, (pif_pos (c := s < n) (by omega)).mpr ((pif_neg (c := 97 ≤ b s ∧ b s ≤ 122) (by omega)).mpr ((pif_neg (c := 48 ≤ b s ∧ b s ≤ 57) (by omega)).mpr ⟨(by show 3 = sgn (b s); unfold sgn; rw [if_pos (by omega)]), rfl⟩))⟩, (pif_neg (by unfold tBad; simp)).mpr rfl⟩, rfl, rfl, ⟨fun a ha => by rw [gupI_n ha, gupI_n ha, gupI_n ha]; exact hfr.1 a ha, hfr.2⟩, rfl, rfl, rfl, rfl, h4⟩
          · refine gT_n 3 ?_
            refine ⟨(Or.inr rfl), ?_⟩
            show gT _ 63 109 _ _ _ _ _
            refine gT_n 1 ?_
            refine ⟨fun c => absurd c (by decide), fun _ => ?_⟩
            refine gT_n 3 ?_
            refine ⟨rfl, ?_⟩
            refine gT_uP rfl (X := 2) (rfl) ?_
            refine gT_n 4 ?_
            refine ⟨rfl, rfl, gTM.use (c_skip (lo := 48) (hi := 57) (a0 := s) hT (by omega) (by decide) (by decide) hat) (Nat.le_refl _) (fun r u hq => ?_)⟩
            obtain ⟨rfl, e, he, rfl⟩ := hq  -- X6_skip[R1, K48, K57]
            have he2 := he.2.1
            have he3 := he.1
            refine gT_n 7 ?_
            refine ⟨rfl, rfl, pk_le (e - s) 2 (fun κ21 => ?_) (fun κ21 => ?_) (pk_subE (n := e) (k := s) (rfl) (rfl) (by omega)) (rfl) (by omega) (by omega)⟩
            · refine gT_n 3 ?_
              refine ⟨(Or.inr rfl), ?_⟩
              exact ⟨.inr (s, e, 2), 1, _, ⟨(s, e, 2), ⟨hsp, (pif_pos (c := s < n) (by omega)).mpr ((pif_neg (c := 97 ≤ b s ∧ b s ≤ 122) (by omega)).mpr ((pif_pos (c := 48 ≤ b s ∧ b s ≤ 57) (by omega)).mpr ⟨rfl, he⟩))⟩, (pif_neg (by unfold tBad; dsimp only; omega)).mpr rfl⟩, rfl, rfl, ⟨fun a ha => by rw [gupI_n ha, gupI_n ha, gupI_n ha]; exact hfr.1 a ha, hfr.2⟩, rfl, rfl, rfl, rfl, h4⟩
            · refine gT_n 5 ?_
              refine ⟨rfl, rfl, rfl, ?_⟩
              refine gT_n 3 ?_
              refine ⟨rfl, ?_⟩
              refine gT_uP rfl (X := 1) (rfl) ?_
              refine gT_n 3 ?_
              refine ⟨rfl, ?_⟩
              refine gT_uP rfl (X := (nI s)) (rfl) ?_
              refine gT_n 2 ?_
              refine ⟨(Or.inl rfl), ?_⟩
              show gT _ 63 147 _ _ _ _ _
              refine gT_n 1 ?_
              refine ⟨fun _ => ?_, fun c => absurd (by decide) c⟩
              refine gT_n 2 ?_
              refine ⟨(Or.inl rfl), ?_⟩
              exact ⟨.inl (1, s), 0, _, ⟨(s, e, 2), ⟨hsp, (pif_pos (c := s < n) (by omega)).mpr ((pif_neg (c := 97 ≤ b s ∧ b s ≤ 122) (by omega)).mpr ((pif_pos (c := 48 ≤ b s ∧ b s ≤ 57) (by omega)).mpr ⟨rfl, he⟩))⟩, (pif_pos (by unfold tBad; dsimp only; omega)).mpr rfl⟩, rfl, rfl, ⟨fun a ha => by rw [gupI_n ha, gupI_n ha, gupI_n ha, gupI_n ha, gupI_n ha]; exact hfr.1 a ha, hfr.2⟩, rfl, rfl, rfl⟩
      · refine gT_n 3 ?_
        refine ⟨(Or.inr rfl), ?_⟩
        show gT _ 63 82 _ _ _ _ _
        refine gT_n 1 ?_
        refine ⟨fun c => absurd c (by decide), fun _ => ?_⟩
        refine gT_n 3 ?_
        refine ⟨rfl, ?_⟩
        refine gT_uP rfl (X := 1) (rfl) ?_
        refine gT_n 4 ?_
        refine ⟨rfl, rfl, gTM.use (c_skip (lo := 97) (hi := 122) (a0 := s) hT (by omega) (by decide) (by decide) hat) (Nat.le_refl _) (fun r u hq => ?_)⟩
        obtain ⟨rfl, e, he, rfl⟩ := hq  -- X6_skip[R1, K97, K122]
        have he2 := he.2.1
        have he3 := he.1
        refine gT_n 3 ?_
        refine ⟨(Or.inr rfl), ?_⟩
        have he1 := he.2.1
        exact ⟨.inr (s, e, 1), 1, _, ⟨(s, e, 1), ⟨hsp, (pif_pos (c := s < n) (by omega)).mpr ((pif_pos (c := 97 ≤ b s ∧ b s ≤ 122) (by omega)).mpr ⟨rfl, he⟩)⟩, (pif_neg (by unfold tBad; simp)).mpr rfl⟩, rfl, rfl, ⟨fun a ha => by rw [gupI_n ha, gupI_n ha, gupI_n ha]; exact hfr.1 a ha, hfr.2⟩, rfl, rfl, rfl, rfl, h4⟩
  · refine gT_n 3 ?_
    refine ⟨rfl, ?_⟩
    refine gT_uP rfl (X := 0) (rfl) ?_
    refine gT_n 2 ?_
    refine ⟨(Or.inr rfl), ?_⟩
    exact ⟨.inr (s, s, 0), 1, _, ⟨(s, s, 0), ⟨hsp, (pif_neg (c := s < n) (by omega)).mpr ⟨rfl, rfl⟩⟩, (pif_neg (by unfold tBad; simp)).mpr rfl⟩, rfl, rfl, ⟨fun a ha => by rw [gupI_n ha, gupI_n ha]; exact hfr.1 a ha, hfr.2⟩, rfl, hat, rfl, rfl, h4⟩
theorem c_advance {d a0 : Nat} {I X0 : Nat → Nat → Int32} {J Y : Nat → Nat → Int64} {P : Nat → Nat} {n : Nat} {b : Nat → Nat} (hT : tpe I n b) (ha0n : a0 ≤ n) (hat0 : X0 1 6 = nI a0) (h40 : X0 1 4 = 0) : gTM (d + 2) 63 [.ref 1] (gST (uM I X0) (uJ J Y) P) (fun r u => ∃ ra x X', adv n b a0 ra ∧ r = some (.int x) ∧ u = gST (uM I X') (uJ J Y) P ∧ uFr X0 X' ∧ aOut X' x ra) := by
  have hn2 := hT.2.1
  have loop : ∀ a, a ≤ n → ∀ X : Nat → Nat → Int32, X 1 6 = nI a → X 1 4 = 0 → uFr X0 X → a0 ≤ a → (∀ j, a0 ≤ j → j < a → b j = 32) → gT (d + 2) 63 0 [(0, .ref 1)] [] (0, 0) (gST (uM I X) (uJ J Y) P) (fun r u => ∃ ra x X', adv n b a0 ra ∧ r = some (.int x) ∧ u = gST (uM I X') (uJ J Y) P ∧ uFr X0 X' ∧ aOut X' x ra) := by
    refine loopU n (fun a hi2 ih => ?_)
    intro X hat h4 hfr ha0 hno
    refine gT_n 5 ?_
    refine ⟨rfl, rfl, pk_le n a (fun κ1 => ?_) (fun κ1 => ?_) (hT.1) (hat) (by omega) (by omega)⟩
    · exact gT_k (c_advT hT ⟨ha0, by omega, hno, by omega⟩ hat h4 hfr) ⟨rfl, trivial⟩ rfl
    · refine gT_n 7 ?_
      refine ⟨rfl, rfl, (Or.inl rfl), (pk_in a 200 (by omega) (hat)), pk_ne ((b a)) 32 (fun κ2 => ?_) (fun κ2 => ?_) ((rdI (hat) (by omega) (hT.2.2 _ (by omega)).1)) (rfl) (by have := (hT.2.2 a (by omega)).2; omega) (by omega)⟩
      · exact gT_k (c_advT hT ⟨ha0, by omega, hno, by omega⟩ hat h4 hfr) ⟨rfl, trivial⟩ rfl
      · refine gT_n 6 ?_
        refine ⟨rfl, rfl, ?_⟩
        refine gT_uP rfl (X := (nI (a + 1))) (pk_addE (n := a) (k := 1) (hat) (rfl)) ?_
        refine gT_n 1 ?_
        have e := ih (a + 1) (by omega) (by omega) (gupI X 1 6 (nI (a + 1))) gupI_rr h4 ⟨fun c hc => (gupI_n hc).trans (hfr.1 c hc), hfr.2⟩ (by omega) (fun j h1 h2 => by
          rcases Nat.lt_or_ge j a with g | g
          · exact hno j h1 g
          · obtain rfl : j = a := by omega
            assumption)
        exact gT_k e ⟨rfl, trivial⟩ rfl
  exact loop a0 ha0n X0 hat0 h40 ⟨fun _ _ => rfl, rfl⟩ (Nat.le_refl _) (fun j h1 h2 => absurd h1 (by omega))
theorem c_fail {d p : Nat} {c : Int32} {I X : Nat → Nat → Int32} {J Y : Nat → Nat → Int64} {P : Nat → Nat} : gTM d 62 [.ref 1, .int c, .int (nI p)] (gST (uM I X) (uJ J Y) P) (fun r u => r = some (.int 0) ∧ u = gST (uM I (gupI (gupI X 1 4 c) 1 5 (nI p))) (uJ J Y) P) := by
  refine gT_n 3 ?_
  refine ⟨rfl, ?_⟩
  refine gT_uP rfl (X := c) (rfl) ?_
  refine gT_n 3 ?_
  refine ⟨rfl, ?_⟩
  refine gT_uP rfl (X := (nI p)) (rfl) ?_
  refine gT_n 2 ?_
  refine ⟨(Or.inl rfl), ?_⟩
  exact ⟨rfl, rfl⟩
/-- a token of a kind -/
def advTo (n : Nat) (b : Nat → Nat) (a k : Nat) (r : zF ⊕ tk3) : Prop := ∃ r0, adv n b a r0 ∧ match r0 with
  | .inl f => r = .inl f
  | .inr q => pif (q.2.2 = k) (r = .inr q) (r = .inl (2, q.1))
theorem uFr_f {X X' : Nat → Nat → Int32} {c v : Int32} (h : uFr X X') : uFr X (gupI (gupI X' 1 4 c) 1 5 v) := ⟨fun a ha => by rw [gupI_n ha, gupI_n ha]; exact h.1 a ha, h.2⟩
theorem adv_r {n : Nat} {b : Nat → Nat} {a : Nat} {q : tk3} (h : adv n b a (.inr q)) : a ≤ q.1 ∧ q.1 ≤ q.2.1 ∧ q.2.1 ≤ n ∧ q.2.2 ≤ 5 ∧ (q.2.2 = 0 ↔ q.1 = n) ∧ (q.1 < q.2.1 ∨ q.2.2 = 0) ∧ (q.2.2 = 1 → ∀ j, q.1 ≤ j → j < q.2.1 → 97 ≤ b j ∧ b j ≤ 122) ∧ (q.2.2 = 2 → (∀ j, q.1 ≤ j → j < q.2.1 → 48 ≤ b j ∧ b j ≤ 57) ∧ q.2.1 - q.1 ≤ 2) := by
  obtain ⟨q', h1, h2⟩ := h
  by_cases c : tBad q'
  · exact absurd ((pif_pos c).mp h2) (by simp)
  · have e := (pif_neg c).mp h2
    cases e
    have g := tokn_r h1
    unfold tBad at c
    exact ⟨g.1, g.2.1, g.2.2.1, by have := g.2.2.2.1; omega, g.2.2.2.2.1, g.2.2.2.2.2.1, g.2.2.2.2.2.2.1, fun e => ⟨g.2.2.2.2.2.2.2 e, by omega⟩⟩
theorem c_advanceB {d a0 : Nat} {I X : Nat → Nat → Int32} {J Y : Nat → Nat → Int64} {P : Nat → Nat} {n : Nat} {b : Nat → Nat} (hT : tpe I n b) (ha0n : a0 ≤ n) (hat0 : X 1 6 = nI a0) (h40 : X 1 4 = 0) : gTM (d + 2) 63 [.ref 1] (gST (uM I X) (uJ J Y) P) (fun r u => (∃ f X', adv n b a0 (.inl f) ∧ r = some (.int 0) ∧ u = gST (uM I X') (uJ J Y) P ∧ uFr X X' ∧ (X' 1 4 = f.1 ∧ X' 1 5 = nI f.2)) ∨ (∃ q X', adv n b a0 (.inr q) ∧ r = some (.int 1) ∧ u = gST (uM I X') (uJ J Y) P ∧ uFr X X' ∧ qT X' q)) := by
  refine gTM.use (c_advance hT ha0n hat0 h40) (Nat.le_refl _) (fun r u h => ?_)
  obtain ⟨ra, x, X', h1, h2, h3, h4, h5⟩ := h
  cases ra with
  | inl f => obtain ⟨rfl, h5⟩ := h5; exact Or.inl ⟨f, X', h1, h2, h3, h4, h5⟩
  | inr q => obtain ⟨rfl, h5⟩ := h5; exact Or.inr ⟨q, X', h1, h2, h3, h4, h5⟩
theorem c_advanceTo {d a0 k : Nat} {I X : Nat → Nat → Int32} {J Y : Nat → Nat → Int64} {P : Nat → Nat} {n : Nat} {b : Nat → Nat} (hT : tpe I n b) (ha : a0 ≤ n) (hat : X 1 6 = nI a0) (h4 : X 1 4 = 0) (hk : k < 7) : gTM (d + 3) 66 [.ref 1, .int (nI k)] (gST (uM I X) (uJ J Y) P) (fun r u => (∃ f X', advTo n b a0 k (.inl f) ∧ r = some (.int 0) ∧ u = gST (uM I X') (uJ J Y) P ∧ uFr X X' ∧ (X' 1 4 = f.1 ∧ X' 1 5 = nI f.2)) ∨ (∃ q X', advTo n b a0 k (.inr q) ∧ r = some (.int 1) ∧ u = gST (uM I X') (uJ J Y) P ∧ uFr X X' ∧ qT X' q)) := by
  have hn2 := hT.2.1
  refine gT_n 2 ?_
  refine ⟨rfl, rfl, gTM.use (c_advanceB hT ha hat h4) (Nat.le_refl _) (fun r u hq => ?_)⟩
  obtain ⟨f, X1, hra, rfl, rfl, hf1, ho⟩ | ⟨q, X1, hra, rfl, rfl, hf1, ho⟩ := hq  -- X6_advance[R1]
  · refine gT_n 1 ?_
    refine ⟨fun _ => ?_, fun c => absurd (by decide) c⟩
    refine gT_n 2 ?_
    refine ⟨(Or.inl rfl), ?_⟩
    exact Or.inl ⟨f, X1, ⟨_, hra, rfl⟩, rfl, rfl, hf1, ho⟩
  · refine gT_n 1 ?_
    refine ⟨fun c => absurd c (by decide), fun _ => ?_⟩
    refine gT_n 4 ?_
    refine ⟨rfl, pk_eq q.2.2 k (fun κ1 => ?_) (fun κ1 => ?_) (ho.2.1) (rfl) (by have := (adv_r hra).2.2.2.1; omega) (by omega)⟩
    · refine gT_n 3 ?_
      refine ⟨(Or.inr rfl), ?_⟩
      exact Or.inr ⟨q, X1, ⟨_, hra, (pif_pos κ1).mpr rfl⟩, rfl, rfl, hf1, ho⟩
    · refine gT_n 5 ?_
      refine ⟨rfl, rfl, rfl, gTM.useA (c_fail (c := 2) (p := q.1)) (Nat.le_refl _) (aR (aI (rfl) (aI (ho.2.2.1) (rfl)))) (fun r u hq => ?_)⟩
      obtain ⟨rfl, rfl⟩ := hq  -- X6_fail[R1, K2, nI q.1]
      refine gT_n 1 ?_
      refine ⟨fun _ => ?_, fun c => absurd (by decide) c⟩
      refine gT_n 2 ?_
      refine ⟨(Or.inl rfl), ?_⟩
      exact Or.inl ⟨(2, q.1), _, ⟨_, hra, (pif_neg κ1).mpr rfl⟩, rfl, rfl, uFr_f hf1, rfl, rfl⟩
