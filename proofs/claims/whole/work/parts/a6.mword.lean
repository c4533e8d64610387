/-! words, numbers, labels: the reference -/
theorem m_byteIn {d k : Nat} {I X : Nat → Nat → Int32} {J Y : Nat → Nat → Int64} {P : Nat → Nat} {n : Nat} {b : Nat → Nat} (hT : tpm I n b) (hk : k < n) : gTM d 181 [.ref 171, .int (nI k)] (gST (xM I X) (xJ J Y) P) (fun r u => u = (gST (xM I X) (xJ J Y) P) ∧ r = some (.int (nI (b k)))) := by
  refine gTM.use (m_byteAt hT (by have := hT.2.1; omega)) (Nat.le_refl _) (fun r u h => ?_)
  obtain ⟨h1, h2 | h2⟩ := h
  · exact ⟨h1, h2.2⟩
  · exact absurd h2.1 (by omega)
theorem m_isW0 {d : Nat} {I X : Nat → Nat → Int32} {J Y : Nat → Nat → Int64} {P : Nat → Nat} {n : Nat} {b : Nat → Nat} (hT : tpm I n b) (hL : cLit (I 185) (I 186)) {q : tk3} (hta : tIs n b q) (hq : okT n b X q) : gTM (d + 1) 185 [.ref 171, .int 0] (gST (xM I X) (xJ J Y) P) (gB (gST (xM I X) (xJ J Y) P) (isWd b q [122, 111, 110, 101])) := by
  have hn2 := hT.2.1
  have hta0 := hta
  obtain ⟨aq, hadv⟩ := hta
  obtain ⟨r1, r2, r3, r4, r5, r6, r7, r8⟩ := adv_r hadv
  refine gT_n 4 ?_
  refine ⟨rfl, px_ne (X := (nI (tkc q.2.2))) (Y := (1)) (hq.2.2.2.1) (rfl) (fun κ1 => ?_) (fun κ1 => ?_)⟩
  · refine gT_n 7 ?_
    refine ⟨rfl, rfl, (pk_in 0 5 (by decide) rfl), ?_⟩
    refine gT_k (L := [(3, .int 0), (2, .int 0), (0, .ref 171), (1, .int 0)]) ?_ ⟨(viI ((show _ = (0 : Int32) from hL.1.1))), rfl, rfl, rfl, trivial⟩ rfl
    refine gT_k (L := [(3, .int 0), (2, .int 0), (0, .ref 171), (1, .int 0)]) ?_ ⟨rfl, rfl, rfl, rfl, trivial⟩ rfl
    refine gT_n 8 ?_
    refine ⟨rfl, rfl, (pk_in 1 5 (by decide) rfl), fun c => absurd c (kpT (p := fun z : Int32 => ¬ (z ≤ 0)) (show _ = (4 : Int32) from hL.1.2.1) (by decide)), fun _ => ?_⟩
    refine gT_n 2 ?_
    refine ⟨fun _ => ?_, fun c => absurd (by decide) c⟩
    refine gT_n 2 ?_
    refine ⟨(Or.inl rfl), ?_⟩
    exact ⟨rfl, Or.inr ⟨rfl, fun c => κ1 ((tkc_s (m := 1) (by decide)).mpr c.1)⟩⟩
  · refine gT_n 17 ?_
    refine ⟨rfl, rfl, rfl, rfl, (pk_in 1 5 (by decide) rfl), rfl, rfl, (pk_in 0 5 (by decide) rfl), pk_ne (q.2.1 - q.1) 4 (fun κ2 => ?_) (fun κ2 => ?_) (pk_subE (n := q.2.1) (k := q.1) (hq.2.1) (hq.2.2.1) (by omega)) ((k2E (f := fun x y : Int32 => x - y) (show _ = (4 : Int32) from hL.1.2.1) (show _ = (0 : Int32) from hL.1.1) (show ((4 : Int32) - 0) = 4 by decide))) (by omega) (by omega)⟩
    · refine gT_n 7 ?_
      refine ⟨rfl, rfl, (pk_in 0 5 (by decide) rfl), ?_⟩
      refine gT_k (L := [(3, .int 0), (2, .int 0), (0, .ref 171), (1, .int 0)]) ?_ ⟨(viI ((show _ = (0 : Int32) from hL.1.1))), rfl, rfl, rfl, trivial⟩ rfl
      refine gT_k (L := [(3, .int 0), (2, .int 0), (0, .ref 171), (1, .int 0)]) ?_ ⟨rfl, rfl, rfl, rfl, trivial⟩ rfl
      refine gT_n 8 ?_
      refine ⟨rfl, rfl, (pk_in 1 5 (by decide) rfl), fun c => absurd c (kpT (p := fun z : Int32 => ¬ (z ≤ 0)) (show _ = (4 : Int32) from hL.1.2.1) (by decide)), fun _ => ?_⟩
      refine gT_n 2 ?_
      refine ⟨fun _ => ?_, fun c => absurd (by decide) c⟩
      refine gT_n 2 ?_
      refine ⟨(Or.inl rfl), ?_⟩
      exact ⟨rfl, Or.inr ⟨rfl, fun c => by have h2 : q.2.1 - q.1 = 4 := c.2.1; omega⟩⟩
    · refine gT_n 8 ?_
      refine ⟨rfl, rfl, (pk_in 0 5 (by decide) rfl), ?_⟩
      refine gT_k (L := [(3, .int 0), (2, .int 1), (0, .ref 171), (1, .int 0)]) ?_ ⟨(viI ((show _ = (0 : Int32) from hL.1.1))), rfl, rfl, rfl, trivial⟩ rfl
      refine gT_k (L := [(3, .int 0), (2, .int 1), (0, .ref 171), (1, .int 0)]) ?_ ⟨rfl, rfl, rfl, rfl, trivial⟩ rfl
      refine gT_n 8 ?_
      refine ⟨rfl, rfl, (pk_in 1 5 (by decide) rfl), fun c => absurd c (kpT (p := fun z : Int32 => ¬ (z ≤ 0)) (show _ = (4 : Int32) from hL.1.2.1) (by decide)), fun _ => ?_⟩
      refine gT_n 2 ?_
      refine ⟨fun c => absurd c (by decide), fun _ => ?_⟩
      refine gT_n 11 ?_
      refine ⟨rfl, rfl, rfl, (pk_in 0 5 (by decide) rfl), rfl, rfl, gTM.useA (m_byteIn (k := q.1 + 0) hT (by omega)) (Nat.le_refl _) (aR (aI ((Eq.trans (pk_subE (n := (q.1 + 0)) (k := 0) (pk_addE (n := q.1) (k := 0) (hq.2.2.1) (rfl)) ((show _ = (0 : Int32) from hL.1.1)) (by omega)) (congrArg nI (show ((q.1 + 0) - 0) = q.1 + 0 by omega)))) (rfl))) (fun r u hq => ?_)⟩
      obtain ⟨rfl, rfl⟩ := hq  -- X12_byteAt[R171, nI ((q.1 + 0))]
      refine gT_n 5 ?_
      refine ⟨rfl, rfl, (pk_in 0 16 (by decide) rfl), pk_ne ((b (q.1 + 0))) 122 (fun κ3 => ?_) (fun κ3 => ?_) (rfl) ((show _ = (122 : Int32) from (hL.2 0 (by decide)))) (by have := (hT.2.2 (q.1 + 0) (by omega)).2; omega) (by omega)⟩
      · refine gT_n 4 ?_
        refine gT_k (L := [(3, .int 1), (2, .int 0), (0, .ref 171), (1, .int 0)]) ?_ ⟨rfl, rfl, rfl, rfl, trivial⟩ rfl
        refine gT_n 8 ?_
        refine ⟨rfl, rfl, (pk_in 1 5 (by decide) rfl), fun c => absurd c (kpT (p := fun z : Int32 => ¬ (z ≤ 1)) (show _ = (4 : Int32) from hL.1.2.1) (by decide)), fun _ => ?_⟩
        refine gT_n 2 ?_
        refine ⟨fun _ => ?_, fun c => absurd (by decide) c⟩
        refine gT_n 2 ?_
        refine ⟨(Or.inl rfl), ?_⟩
        exact ⟨rfl, Or.inr ⟨rfl, fun c => κ3 (c.2.2 0 (by decide))⟩⟩
      · refine gT_n 5 ?_
        refine gT_k (L := [(3, .int 1), (2, .int 1), (0, .ref 171), (1, .int 0)]) ?_ ⟨rfl, rfl, rfl, rfl, trivial⟩ rfl
        refine gT_n 8 ?_
        refine ⟨rfl, rfl, (pk_in 1 5 (by decide) rfl), fun c => absurd c (kpT (p := fun z : Int32 => ¬ (z ≤ 1)) (show _ = (4 : Int32) from hL.1.2.1) (by decide)), fun _ => ?_⟩
        refine gT_n 2 ?_
        refine ⟨fun c => absurd c (by decide), fun _ => ?_⟩
        refine gT_n 11 ?_
        refine ⟨rfl, rfl, rfl, (pk_in 0 5 (by decide) rfl), rfl, rfl, gTM.useA (m_byteIn (k := q.1 + 1) hT (by omega)) (Nat.le_refl _) (aR (aI ((Eq.trans (pk_subE (n := (q.1 + 1)) (k := 0) (pk_addE (n := q.1) (k := 1) (hq.2.2.1) (rfl)) ((show _ = (0 : Int32) from hL.1.1)) (by omega)) (congrArg nI (show ((q.1 + 1) - 0) = q.1 + 1 by omega)))) (rfl))) (fun r u hq => ?_)⟩
        obtain ⟨rfl, rfl⟩ := hq  -- X12_byteAt[R171, nI ((q.1 + 1))]
        refine gT_n 5 ?_
        refine ⟨rfl, rfl, (pk_in 1 16 (by decide) rfl), pk_ne ((b (q.1 + 1))) 111 (fun κ4 => ?_) (fun κ4 => ?_) (rfl) ((show _ = (111 : Int32) from (hL.2 1 (by decide)))) (by have := (hT.2.2 (q.1 + 1) (by omega)).2; omega) (by omega)⟩
        · refine gT_n 4 ?_
          refine gT_k (L := [(3, .int 2), (2, .int 0), (0, .ref 171), (1, .int 0)]) ?_ ⟨rfl, rfl, rfl, rfl, trivial⟩ rfl
          refine gT_n 8 ?_
          refine ⟨rfl, rfl, (pk_in 1 5 (by decide) rfl), fun c => absurd c (kpT (p := fun z : Int32 => ¬ (z ≤ 2)) (show _ = (4 : Int32) from hL.1.2.1) (by decide)), fun _ => ?_⟩
          refine gT_n 2 ?_
          refine ⟨fun _ => ?_, fun c => absurd (by decide) c⟩
          refine gT_n 2 ?_
          refine ⟨(Or.inl rfl), ?_⟩
          exact ⟨rfl, Or.inr ⟨rfl, fun c => κ4 (c.2.2 1 (by decide))⟩⟩
        · refine gT_n 5 ?_
          refine gT_k (L := [(3, .int 2), (2, .int 1), (0, .ref 171), (1, .int 0)]) ?_ ⟨rfl, rfl, rfl, rfl, trivial⟩ rfl
          refine gT_n 8 ?_
          refine ⟨rfl, rfl, (pk_in 1 5 (by decide) rfl), fun c => absurd c (kpT (p := fun z : Int32 => ¬ (z ≤ 2)) (show _ = (4 : Int32) from hL.1.2.1) (by decide)), fun _ => ?_⟩
          refine gT_n 2 ?_
          refine ⟨fun c => absurd c (by decide), fun _ => ?_⟩
          refine gT_n 11 ?_
          refine ⟨rfl, rfl, rfl, (pk_in 0 5 (by decide) rfl), rfl, rfl, gTM.useA (m_byteIn (k := q.1 + 2) hT (by omega)) (Nat.le_refl _) (aR (aI ((Eq.trans (pk_subE (n := (q.1 + 2)) (k := 0) (pk_addE (n := q.1) (k := 2) (hq.2.2.1) (rfl)) ((show _ = (0 : Int32) from hL.1.1)) (by omega)) (congrArg nI (show ((q.1 + 2) - 0) = q.1 + 2 by omega)))) (rfl))) (fun r u hq => ?_)⟩
          obtain ⟨rfl, rfl⟩ := hq  -- X12_byteAt[R171, nI ((q.1 + 2))]
          refine gT_n 5 ?_
          refine ⟨rfl, rfl, (pk_in 2 16 (by decide) rfl), pk_ne ((b (q.1 + 2))) 110 (fun κ5 => ?_) (fun κ5 => ?_) (rfl) ((show _ = (110 : Int32) from (hL.2 2 (by decide)))) (by have := (hT.2.2 (q.1 + 2) (by omega)).2; omega) (by omega)⟩
          · refine gT_n 4 ?_
            refine gT_k (L := [(3, .int 3), (2, .int 0), (0, .ref 171), (1, .int 0)]) ?_ ⟨rfl, rfl, rfl, rfl, trivial⟩ rfl
            refine gT_n 8 ?_
            refine ⟨rfl, rfl, (pk_in 1 5 (by decide) rfl), fun c => absurd c (kpT (p := fun z : Int32 => ¬ (z ≤ 3)) (show _ = (4 : Int32) from hL.1.2.1) (by decide)), fun _ => ?_⟩
            refine gT_n 2 ?_
            refine ⟨fun _ => ?_, fun c => absurd (by decide) c⟩
            refine gT_n 2 ?_
            refine ⟨(Or.inl rfl), ?_⟩
            exact ⟨rfl, Or.inr ⟨rfl, fun c => κ5 (c.2.2 2 (by decide))⟩⟩
          · refine gT_n 5 ?_
            refine gT_k (L := [(3, .int 3), (2, .int 1), (0, .ref 171), (1, .int 0)]) ?_ ⟨rfl, rfl, rfl, rfl, trivial⟩ rfl
            refine gT_n 8 ?_
            refine ⟨rfl, rfl, (pk_in 1 5 (by decide) rfl), fun c => absurd c (kpT (p := fun z : Int32 => ¬ (z ≤ 3)) (show _ = (4 : Int32) from hL.1.2.1) (by decide)), fun _ => ?_⟩
            refine gT_n 2 ?_
            refine ⟨fun c => absurd c (by decide), fun _ => ?_⟩
            refine gT_n 11 ?_
            refine ⟨rfl, rfl, rfl, (pk_in 0 5 (by decide) rfl), rfl, rfl, gTM.useA (m_byteIn (k := q.1 + 3) hT (by omega)) (Nat.le_refl _) (aR (aI ((Eq.trans (pk_subE (n := (q.1 + 3)) (k := 0) (pk_addE (n := q.1) (k := 3) (hq.2.2.1) (rfl)) ((show _ = (0 : Int32) from hL.1.1)) (by omega)) (congrArg nI (show ((q.1 + 3) - 0) = q.1 + 3 by omega)))) (rfl))) (fun r u hq => ?_)⟩
            obtain ⟨rfl, rfl⟩ := hq  -- X12_byteAt[R171, nI ((q.1 + 3))]
            refine gT_n 5 ?_
            refine ⟨rfl, rfl, (pk_in 3 16 (by decide) rfl), pk_ne ((b (q.1 + 3))) 101 (fun κ6 => ?_) (fun κ6 => ?_) (rfl) ((show _ = (101 : Int32) from (hL.2 3 (by decide)))) (by have := (hT.2.2 (q.1 + 3) (by omega)).2; omega) (by omega)⟩
            · refine gT_n 4 ?_
              refine gT_k (L := [(3, .int 4), (2, .int 0), (0, .ref 171), (1, .int 0)]) ?_ ⟨rfl, rfl, rfl, rfl, trivial⟩ rfl
              refine gT_n 8 ?_
              refine ⟨rfl, rfl, (pk_in 1 5 (by decide) rfl), fun _ => ?_, fun c => absurd (kpT (p := fun z : Int32 => z ≤ 4) (show _ = (4 : Int32) from hL.1.2.1) (by decide)) c⟩
              refine gT_n 2 ?_
              refine ⟨(Or.inl rfl), ?_⟩
              exact ⟨rfl, Or.inr ⟨rfl, fun c => κ6 (c.2.2 3 (by decide))⟩⟩
            · refine gT_n 5 ?_
              refine gT_k (L := [(3, .int 4), (2, .int 1), (0, .ref 171), (1, .int 0)]) ?_ ⟨rfl, rfl, rfl, rfl, trivial⟩ rfl
              refine gT_n 8 ?_
              refine ⟨rfl, rfl, (pk_in 1 5 (by decide) rfl), fun _ => ?_, fun c => absurd (kpT (p := fun z : Int32 => z ≤ 4) (show _ = (4 : Int32) from hL.1.2.1) (by decide)) c⟩
              refine gT_n 2 ?_
              refine ⟨(Or.inr rfl), ?_⟩
              exact ⟨rfl, Or.inl ⟨rfl, (tkc_s (m := 1) (by decide)).mp κ1, by show q.2.1 - q.1 = 4; omega, fun j hj => by
                have hj : j < 4 := hj
                have hc : j = 0 ∨ j = 1 ∨ j = 2 ∨ j = 3 := by omega
                rcases hc with rfl | rfl | rfl | rfl
                · exact κ3
                · exact κ4
                · exact κ5
                · exact κ6⟩⟩
theorem m_isW1 {d : Nat} {I X : Nat → Nat → Int32} {J Y : Nat → Nat → Int64} {P : Nat → Nat} {n : Nat} {b : Nat → Nat} (hT : tpm I n b) (hL : cLit (I 185) (I 186)) {q : tk3} (hta : tIs n b q) (hq : okT n b X q) : gTM (d + 1) 185 [.ref 171, .int 1] (gST (xM I X) (xJ J Y) P) (gB (gST (xM I X) (xJ J Y) P) (isWd b q [112, 108, 97, 105, 110])) := by
  have hn2 := hT.2.1
  have hta0 := hta
  obtain ⟨aq, hadv⟩ := hta
  obtain ⟨r1, r2, r3, r4, r5, r6, r7, r8⟩ := adv_r hadv
  refine gT_n 4 ?_
  refine ⟨rfl, px_ne (X := (nI (tkc q.2.2))) (Y := (1)) (hq.2.2.2.1) (rfl) (fun κ1 => ?_) (fun κ1 => ?_)⟩
  · refine gT_n 7 ?_
    refine ⟨rfl, rfl, (pk_in 1 5 (by decide) rfl), ?_⟩
    refine gT_k (L := [(3, .int 4), (2, .int 0), (0, .ref 171), (1, .int 1)]) ?_ ⟨(viI ((show _ = (4 : Int32) from hL.1.2.1))), rfl, rfl, rfl, trivial⟩ rfl
    refine gT_k (L := [(3, .int 4), (2, .int 0), (0, .ref 171), (1, .int 1)]) ?_ ⟨rfl, rfl, rfl, rfl, trivial⟩ rfl
    refine gT_n 8 ?_
    refine ⟨rfl, rfl, (pk_in 2 5 (by decide) rfl), fun c => absurd c (kpT (p := fun z : Int32 => ¬ (z ≤ 4)) (show _ = (9 : Int32) from hL.1.2.2.1) (by decide)), fun _ => ?_⟩
    refine gT_n 2 ?_
    refine ⟨fun _ => ?_, fun c => absurd (by decide) c⟩
    refine gT_n 2 ?_
    refine ⟨(Or.inl rfl), ?_⟩
    exact ⟨rfl, Or.inr ⟨rfl, fun c => κ1 ((tkc_s (m := 1) (by decide)).mpr c.1)⟩⟩
  · refine gT_n 17 ?_
    refine ⟨rfl, rfl, rfl, rfl, (pk_in 2 5 (by decide) rfl), rfl, rfl, (pk_in 1 5 (by decide) rfl), pk_ne (q.2.1 - q.1) 5 (fun κ2 => ?_) (fun κ2 => ?_) (pk_subE (n := q.2.1) (k := q.1) (hq.2.1) (hq.2.2.1) (by omega)) ((k2E (f := fun x y : Int32 => x - y) (show _ = (9 : Int32) from hL.1.2.2.1) (show _ = (4 : Int32) from hL.1.2.1) (show ((9 : Int32) - 4) = 5 by decide))) (by omega) (by omega)⟩
    · refine gT_n 7 ?_
      refine ⟨rfl, rfl, (pk_in 1 5 (by decide) rfl), ?_⟩
      refine gT_k (L := [(3, .int 4), (2, .int 0), (0, .ref 171), (1, .int 1)]) ?_ ⟨(viI ((show _ = (4 : Int32) from hL.1.2.1))), rfl, rfl, rfl, trivial⟩ rfl
      refine gT_k (L := [(3, .int 4), (2, .int 0), (0, .ref 171), (1, .int 1)]) ?_ ⟨rfl, rfl, rfl, rfl, trivial⟩ rfl
      refine gT_n 8 ?_
      refine ⟨rfl, rfl, (pk_in 2 5 (by decide) rfl), fun c => absurd c (kpT (p := fun z : Int32 => ¬ (z ≤ 4)) (show _ = (9 : Int32) from hL.1.2.2.1) (by decide)), fun _ => ?_⟩
      refine gT_n 2 ?_
      refine ⟨fun _ => ?_, fun c => absurd (by decide) c⟩
      refine gT_n 2 ?_
      refine ⟨(Or.inl rfl), ?_⟩
      exact ⟨rfl, Or.inr ⟨rfl, fun c => by have h2 : q.2.1 - q.1 = 5 := c.2.1; omega⟩⟩
    · refine gT_n 8 ?_
      refine ⟨rfl, rfl, (pk_in 1 5 (by decide) rfl), ?_⟩
      refine gT_k (L := [(3, .int 4), (2, .int 1), (0, .ref 171), (1, .int 1)]) ?_ ⟨(viI ((show _ = (4 : Int32) from hL.1.2.1))), rfl, rfl, rfl, trivial⟩ rfl
      refine gT_k (L := [(3, .int 4), (2, .int 1), (0, .ref 171), (1, .int 1)]) ?_ ⟨rfl, rfl, rfl, rfl, trivial⟩ rfl
      refine gT_n 8 ?_
      refine ⟨rfl, rfl, (pk_in 2 5 (by decide) rfl), fun c => absurd c (kpT (p := fun z : Int32 => ¬ (z ≤ 4)) (show _ = (9 : Int32) from hL.1.2.2.1) (by decide)), fun _ => ?_⟩
      refine gT_n 2 ?_
      refine ⟨fun c => absurd c (by decide), fun _ => ?_⟩
      refine gT_n 11 ?_
      refine ⟨rfl, rfl, rfl, (pk_in 1 5 (by decide) rfl), rfl, rfl, gTM.useA (m_byteIn (k := q.1 + 0) hT (by omega)) (Nat.le_refl _) (aR (aI ((Eq.trans (pk_subE (n := (q.1 + 4)) (k := 4) (pk_addE (n := q.1) (k := 4) (hq.2.2.1) (rfl)) ((show _ = (4 : Int32) from hL.1.2.1)) (by omega)) (congrArg nI (show ((q.1 + 4) - 4) = q.1 + 0 by omega)))) (rfl))) (fun r u hq => ?_)⟩
      obtain ⟨rfl, rfl⟩ := hq  -- X12_byteAt[R171, nI ((q.1 + 0))]
      refine gT_n 5 ?_
      refine ⟨rfl, rfl, (pk_in 4 16 (by decide) rfl), pk_ne ((b (q.1 + 0))) 112 (fun κ3 => ?_) (fun κ3 => ?_) (rfl) ((show _ = (112 : Int32) from (hL.2 4 (by decide)))) (by have := (hT.2.2 (q.1 + 0) (by omega)).2; omega) (by omega)⟩
      · refine gT_n 4 ?_
        refine gT_k (L := [(3, .int 5), (2, .int 0), (0, .ref 171), (1, .int 1)]) ?_ ⟨rfl, rfl, rfl, rfl, trivial⟩ rfl
        refine gT_n 8 ?_
        refine ⟨rfl, rfl, (pk_in 2 5 (by decide) rfl), fun c => absurd c (kpT (p := fun z : Int32 => ¬ (z ≤ 5)) (show _ = (9 : Int32) from hL.1.2.2.1) (by decide)), fun _ => ?_⟩
        refine gT_n 2 ?_
        refine ⟨fun _ => ?_, fun c => absurd (by decide) c⟩
        refine gT_n 2 ?_
        refine ⟨(Or.inl rfl), ?_⟩
        exact ⟨rfl, Or.inr ⟨rfl, fun c => κ3 (c.2.2 0 (by decide))⟩⟩
      · refine gT_n 5 ?_
        refine gT_k (L := [(3, .int 5), (2, .int 1), (0, .ref 171), (1, .int 1)]) ?_ ⟨rfl, rfl, rfl, rfl, trivial⟩ rfl
        refine gT_n 8 ?_
        refine ⟨rfl, rfl, (pk_in 2 5 (by decide) rfl), fun c => absurd c (kpT (p := fun z : Int32 => ¬ (z ≤ 5)) (show _ = (9 : Int32) from hL.1.2.2.1) (by decide)), fun _ => ?_⟩
        refine gT_n 2 ?_
        refine ⟨fun c => absurd c (by decide), fun _ => ?_⟩
        refine gT_n 11 ?_
        refine ⟨rfl, rfl, rfl, (pk_in 1 5 (by decide) rfl), rfl, rfl, gTM.useA (m_byteIn (k := q.1 + 1) hT (by omega)) (Nat.le_refl _) (aR (aI ((Eq.trans (pk_subE (n := (q.1 + 5)) (k := 4) (pk_addE (n := q.1) (k := 5) (hq.2.2.1) (rfl)) ((show _ = (4 : Int32) from hL.1.2.1)) (by omega)) (congrArg nI (show ((q.1 + 5) - 4) = q.1 + 1 by omega)))) (rfl))) (fun r u hq => ?_)⟩
        obtain ⟨rfl, rfl⟩ := hq  -- X12_byteAt[R171, nI ((q.1 + 1))]
        refine gT_n 5 ?_
        refine ⟨rfl, rfl, (pk_in 5 16 (by decide) rfl), pk_ne ((b (q.1 + 1))) 108 (fun κ4 => ?_) (fun κ4 => ?_) (rfl) ((show _ = (108 : Int32) from (hL.2 5 (by decide)))) (by have := (hT.2.2 (q.1 + 1) (by omega)).2; omega) (by omega)⟩
        · refine gT_n 4 ?_
          refine gT_k (L := [(3, .int 6), (2, .int 0), (0, .ref 171), (1, .int 1)]) ?_ ⟨rfl, rfl, rfl, rfl, trivial⟩ rfl
          refine gT_n 8 ?_
          refine ⟨rfl, rfl, (pk_in 2 5 (by decide) rfl), fun c => absurd c (kpT (p := fun z : Int32 => ¬ (z ≤ 6)) (show _ = (9 : Int32) from hL.1.2.2.1) (by decide)), fun _ => ?_⟩
          refine gT_n 2 ?_
          refine ⟨fun _ => ?_, fun c => absurd (by decide) c⟩
          refine gT_n 2 ?_
          refine ⟨(Or.inl rfl), ?_⟩
          exact ⟨rfl, Or.inr ⟨rfl, fun c => κ4 (c.2.2 1 (by decide))⟩⟩
        · refine gT_n 5 ?_
          refine gT_k (L := [(3, .int 6), (2, .int 1), (0, .ref 171), (1, .int 1)]) ?_ ⟨rfl, rfl, rfl, rfl, trivial⟩ rfl
          refine gT_n 8 ?_
          refine ⟨rfl, rfl, (pk_in 2 5 (by decide) rfl), fun c => absurd c (kpT (p := fun z : Int32 => ¬ (z ≤ 6)) (show _ = (9 : Int32) from hL.1.2.2.1) (by decide)), fun _ => ?_⟩
          refine gT_n 2 ?_
          refine ⟨fun c => absurd c (by decide), fun _ => ?_⟩
          refine gT_n 11 ?_
          refine ⟨rfl, rfl, rfl, (pk_in 1 5 (by decide) rfl), rfl, rfl, gTM.useA (m_byteIn (k := q.1 + 2) hT (by omega)) (Nat.le_refl _) (aR (aI ((Eq.trans (pk_subE (n := (q.1 + 6)) (k := 4) (pk_addE (n := q.1) (k := 6) (hq.2.2.1) (rfl)) ((show _ = (4 : Int32) from hL.1.2.1)) (by omega)) (congrArg nI (show ((q.1 + 6) - 4) = q.1 + 2 by omega)))) (rfl))) (fun r u hq => ?_)⟩
          obtain ⟨rfl, rfl⟩ := hq  -- X12_byteAt[R171, nI ((q.1 + 2))]
          refine gT_n 5 ?_
          refine ⟨rfl, rfl, (pk_in 6 16 (by decide) rfl), pk_ne ((b (q.1 + 2))) 97 (fun κ5 => ?_) (fun κ5 => ?_) (rfl) ((show _ = (97 : Int32) from (hL.2 6 (by decide)))) (by have := (hT.2.2 (q.1 + 2) (by omega)).2; omega) (by omega)⟩
          · refine gT_n 4 ?_
            refine gT_k (L := [(3, .int 7), (2, .int 0), (0, .ref 171), (1, .int 1)]) ?_ ⟨rfl, rfl, rfl, rfl, trivial⟩ rfl
            refine gT_n 8 ?_
            refine ⟨rfl, rfl, (pk_in 2 5 (by decide) rfl), fun c => absurd c (kpT (p := fun z : Int32 => ¬ (z ≤ 7)) (show _ = (9 : Int32) from hL.1.2.2.1) (by decide)), fun _ => ?_⟩
            refine gT_n 2 ?_
            refine ⟨fun _ => ?_, fun c => absurd (by decide) c⟩
            refine gT_n 2 ?_
            refine ⟨(Or.inl rfl), ?_⟩
            exact ⟨rfl, Or.inr ⟨rfl, fun c => κ5 (c.2.2 2 (by decide))⟩⟩
          · refine gT_n 5 ?_
            refine gT_k (L := [(3, .int 7), (2, .int 1), (0, .ref 171), (1, .int 1)]) ?_ ⟨rfl, rfl, rfl, rfl, trivial⟩ rfl
            refine gT_n 8 ?_
            refine ⟨rfl, rfl, (pk_in 2 5 (by decide) rfl), fun c => absurd c (kpT (p := fun z : Int32 => ¬ (z ≤ 7)) (show _ = (9 : Int32) from hL.1.2.2.1) (by decide)), fun _ => ?_⟩
            refine gT_n 2 ?_
            refine ⟨fun c => absurd c (by decide), fun _ => ?_⟩
            refine gT_n 11 ?_
            refine ⟨rfl, rfl, rfl, (pk_in 1 5 (by decide) rfl), rfl, rfl, gTM.useA (m_byteIn (k := q.1 + 3) hT (by omega)) (Nat.le_refl _) (aR (aI ((Eq.trans (pk_subE (n := (q.1 + 7)) (k := 4) (pk_addE (n := q.1) (k := 7) (hq.2.2.1) (rfl)) ((show _ = (4 : Int32) from hL.1.2.1)) (by omega)) (congrArg nI (show ((q.1 + 7) - 4) = q.1 + 3 by omega)))) (rfl))) (fun r u hq => ?_)⟩
            obtain ⟨rfl, rfl⟩ := hq  -- X12_byteAt[R171, nI ((q.1 + 3))]
            refine gT_n 5 ?_
            refine ⟨rfl, rfl, (pk_in 7 16 (by decide) rfl), pk_ne ((b (q.1 + 3))) 105 (fun κ6 => ?_) (fun κ6 => ?_) (rfl) ((show _ = (105 : Int32) from (hL.2 7 (by decide)))) (by have := (hT.2.2 (q.1 + 3) (by omega)).2; omega) (by omega)⟩
            · refine gT_n 4 ?_
              refine gT_k (L := [(3, .int 8), (2, .int 0), (0, .ref 171), (1, .int 1)]) ?_ ⟨rfl, rfl, rfl, rfl, trivial⟩ rfl
              refine gT_n 8 ?_
              refine ⟨rfl, rfl, (pk_in 2 5 (by decide) rfl), fun c => absurd c (kpT (p := fun z : Int32 => ¬ (z ≤ 8)) (show _ = (9 : Int32) from hL.1.2.2.1) (by decide)), fun _ => ?_⟩
              refine gT_n 2 ?_
              refine ⟨fun _ => ?_, fun c => absurd (by decide) c⟩
              refine gT_n 2 ?_
              refine ⟨(Or.inl rfl), ?_⟩
              exact ⟨rfl, Or.inr ⟨rfl, fun c => κ6 (c.2.2 3 (by decide))⟩⟩
            · refine gT_n 5 ?_
              refine gT_k (L := [(3, .int 8), (2, .int 1), (0, .ref 171), (1, .int 1)]) ?_ ⟨rfl, rfl, rfl, rfl, trivial⟩ rfl
              refine gT_n 8 ?_
              refine ⟨rfl, rfl, (pk_in 2 5 (by decide) rfl), fun c => absurd c (kpT (p := fun z : Int32 => ¬ (z ≤ 8)) (show _ = (9 : Int32) from hL.1.2.2.1) (by decide)), fun _ => ?_⟩
              refine gT_n 2 ?_
              refine ⟨fun c => absurd c (by decide), fun _ => ?_⟩
              refine gT_n 11 ?_
              refine ⟨rfl, rfl, rfl, (pk_in 1 5 (by decide) rfl), rfl, rfl, gTM.useA (m_byteIn (k := q.1 + 4) hT (by omega)) (Nat.le_refl _) (aR (aI ((Eq.trans (pk_subE (n := (q.1 + 8)) (k := 4) (pk_addE (n := q.1) (k := 8) (hq.2.2.1) (rfl)) ((show _ = (4 : Int32) from hL.1.2.1)) (by omega)) (congrArg nI (show ((q.1 + 8) - 4) = q.1 + 4 by omega)))) (rfl))) (fun r u hq => ?_)⟩
              obtain ⟨rfl, rfl⟩ := hq  -- X12_byteAt[R171, nI ((q.1 + 4))]
              refine gT_n 5 ?_
              refine ⟨rfl, rfl, (pk_in 8 16 (by decide) rfl), pk_ne ((b (q.1 + 4))) 110 (fun κ7 => ?_) (fun κ7 => ?_) (rfl) ((show _ = (110 : Int32) from (hL.2 8 (by decide)))) (by have := (hT.2.2 (q.1 + 4) (by omega)).2; omega) (by omega)⟩
              · refine gT_n 4 ?_
                refine gT_k (L := [(3, .int 9), (2, .int 0), (0, .ref 171), (1, .int 1)]) ?_ ⟨rfl, rfl, rfl, rfl, trivial⟩ rfl
                refine gT_n 8 ?_
                refine ⟨rfl, rfl, (pk_in 2 5 (by decide) rfl), fun _ => ?_, fun c => absurd (kpT (p := fun z : Int32 => z ≤ 9) (show _ = (9 : Int32) from hL.1.2.2.1) (by decide)) c⟩
                refine gT_n 2 ?_
                refine ⟨(Or.inl rfl), ?_⟩
                exact ⟨rfl, Or.inr ⟨rfl, fun c => κ7 (c.2.2 4 (by decide))⟩⟩
              · refine gT_n 5 ?_
                refine gT_k (L := [(3, .int 9), (2, .int 1), (0, .ref 171), (1, .int 1)]) ?_ ⟨rfl, rfl, rfl, rfl, trivial⟩ rfl
                refine gT_n 8 ?_
                refine ⟨rfl, rfl, (pk_in 2 5 (by decide) rfl), fun _ => ?_, fun c => absurd (kpT (p := fun z : Int32 => z ≤ 9) (show _ = (9 : Int32) from hL.1.2.2.1) (by decide)) c⟩
                refine gT_n 2 ?_
                refine ⟨(Or.inr rfl), ?_⟩
                exact ⟨rfl, Or.inl ⟨rfl, (tkc_s (m := 1) (by decide)).mp κ1, by show q.2.1 - q.1 = 5; omega, fun j hj => by
                  have hj : j < 5 := hj
                  have hc : j = 0 ∨ j = 1 ∨ j = 2 ∨ j = 3 ∨ j = 4 := by omega
                  rcases hc with rfl | rfl | rfl | rfl | rfl
                  · exact κ3
                  · exact κ4
                  · exact κ5
                  · exact κ6
                  · exact κ7⟩⟩
theorem m_isW2 {d : Nat} {I X : Nat → Nat → Int32} {J Y : Nat → Nat → Int64} {P : Nat → Nat} {n : Nat} {b : Nat → Nat} (hT : tpm I n b) (hL : cLit (I 185) (I 186)) {q : tk3} (hta : tIs n b q) (hq : okT n b X q) : gTM (d + 1) 185 [.ref 171, .int 2] (gST (xM I X) (xJ J Y) P) (gB (gST (xM I X) (xJ J Y) P) (isWd b q [114, 101, 99])) := by
  have hn2 := hT.2.1
  have hta0 := hta
  obtain ⟨aq, hadv⟩ := hta
  obtain ⟨r1, r2, r3, r4, r5, r6, r7, r8⟩ := adv_r hadv
  refine gT_n 4 ?_
  refine ⟨rfl, px_ne (X := (nI (tkc q.2.2))) (Y := (1)) (hq.2.2.2.1) (rfl) (fun κ1 => ?_) (fun κ1 => ?_)⟩
  · refine gT_n 7 ?_
    refine ⟨rfl, rfl, (pk_in 2 5 (by decide) rfl), ?_⟩
    refine gT_k (L := [(3, .int 9), (2, .int 0), (0, .ref 171), (1, .int 2)]) ?_ ⟨(viI ((show _ = (9 : Int32) from hL.1.2.2.1))), rfl, rfl, rfl, trivial⟩ rfl
    refine gT_k (L := [(3, .int 9), (2, .int 0), (0, .ref 171), (1, .int 2)]) ?_ ⟨rfl, rfl, rfl, rfl, trivial⟩ rfl
    refine gT_n 8 ?_
    refine ⟨rfl, rfl, (pk_in 3 5 (by decide) rfl), fun c => absurd c (kpT (p := fun z : Int32 => ¬ (z ≤ 9)) (show _ = (12 : Int32) from hL.1.2.2.2.1) (by decide)), fun _ => ?_⟩
    refine gT_n 2 ?_
    refine ⟨fun _ => ?_, fun c => absurd (by decide) c⟩
    refine gT_n 2 ?_
    refine ⟨(Or.inl rfl), ?_⟩
    exact ⟨rfl, Or.inr ⟨rfl, fun c => κ1 ((tkc_s (m := 1) (by decide)).mpr c.1)⟩⟩
  · refine gT_n 17 ?_
    refine ⟨rfl, rfl, rfl, rfl, (pk_in 3 5 (by decide) rfl), rfl, rfl, (pk_in 2 5 (by decide) rfl), pk_ne (q.2.1 - q.1) 3 (fun κ2 => ?_) (fun κ2 => ?_) (pk_subE (n := q.2.1) (k := q.1) (hq.2.1) (hq.2.2.1) (by omega)) ((k2E (f := fun x y : Int32 => x - y) (show _ = (12 : Int32) from hL.1.2.2.2.1) (show _ = (9 : Int32) from hL.1.2.2.1) (show ((12 : Int32) - 9) = 3 by decide))) (by omega) (by omega)⟩
    · refine gT_n 7 ?_
      refine ⟨rfl, rfl, (pk_in 2 5 (by decide) rfl), ?_⟩
      refine gT_k (L := [(3, .int 9), (2, .int 0), (0, .ref 171), (1, .int 2)]) ?_ ⟨(viI ((show _ = (9 : Int32) from hL.1.2.2.1))), rfl, rfl, rfl, trivial⟩ rfl
      refine gT_k (L := [(3, .int 9), (2, .int 0), (0, .ref 171), (1, .int 2)]) ?_ ⟨rfl, rfl, rfl, rfl, trivial⟩ rfl
      refine gT_n 8 ?_
      refine ⟨rfl, rfl, (pk_in 3 5 (by decide) rfl), fun c => absurd c (kpT (p := fun z : Int32 => ¬ (z ≤ 9)) (show _ = (12 : Int32) from hL.1.2.2.2.1) (by decide)), fun _ => ?_⟩
      refine gT_n 2 ?_
      refine ⟨fun _ => ?_, fun c => absurd (by decide) c⟩
      refine gT_n 2 ?_
      refine ⟨(Or.inl rfl), ?_⟩
      exact ⟨rfl, Or.inr ⟨rfl, fun c => by have h2 : q.2.1 - q.1 = 3 := c.2.1; omega⟩⟩
    · refine gT_n 8 ?_
      refine ⟨rfl, rfl, (pk_in 2 5 (by decide) rfl), ?_⟩
      refine gT_k (L := [(3, .int 9), (2, .int 1), (0, .ref 171), (1, .int 2)]) ?_ ⟨(viI ((show _ = (9 : Int32) from hL.1.2.2.1))), rfl, rfl, rfl, trivial⟩ rfl
      refine gT_k (L := [(3, .int 9), (2, .int 1), (0, .ref 171), (1, .int 2)]) ?_ ⟨rfl, rfl, rfl, rfl, trivial⟩ rfl
      refine gT_n 8 ?_
      refine ⟨rfl, rfl, (pk_in 3 5 (by decide) rfl), fun c => absurd c (kpT (p := fun z : Int32 => ¬ (z ≤ 9)) (show _ = (12 : Int32) from hL.1.2.2.2.1) (by decide)), fun _ => ?_⟩
      refine gT_n 2 ?_
      refine ⟨fun c => absurd c (by decide), fun _ => ?_⟩
      refine gT_n 11 ?_
      refine ⟨rfl, rfl, rfl, (pk_in 2 5 (by decide) rfl), rfl, rfl, gTM.useA (m_byteIn (k := q.1 + 0) hT (by omega)) (Nat.le_refl _) (aR (aI ((Eq.trans (pk_subE (n := (q.1 + 9)) (k := 9) (pk_addE (n := q.1) (k := 9) (hq.2.2.1) (rfl)) ((show _ = (9 : Int32) from hL.1.2.2.1)) (by omega)) (congrArg nI (show ((q.1 + 9) - 9) = q.1 + 0 by omega)))) (rfl))) (fun r u hq => ?_)⟩
      obtain ⟨rfl, rfl⟩ := hq  -- X12_byteAt[R171, nI ((q.1 + 0))]
      refine gT_n 5 ?_
      refine ⟨rfl, rfl, (pk_in 9 16 (by decide) rfl), pk_ne ((b (q.1 + 0))) 114 (fun κ3 => ?_) (fun κ3 => ?_) (rfl) ((show _ = (114 : Int32) from (hL.2 9 (by decide)))) (by have := (hT.2.2 (q.1 + 0) (by omega)).2; omega) (by omega)⟩
      · refine gT_n 4 ?_
        refine gT_k (L := [(3, .int 10), (2, .int 0), (0, .ref 171), (1, .int 2)]) ?_ ⟨rfl, rfl, rfl, rfl, trivial⟩ rfl
        refine gT_n 8 ?_
        refine ⟨rfl, rfl, (pk_in 3 5 (by decide) rfl), fun c => absurd c (kpT (p := fun z : Int32 => ¬ (z ≤ 10)) (show _ = (12 : Int32) from hL.1.2.2.2.1) (by decide)), fun _ => ?_⟩
        refine gT_n 2 ?_
        refine ⟨fun _ => ?_, fun c => absurd (by decide) c⟩
        refine gT_n 2 ?_
        refine ⟨(Or.inl rfl), ?_⟩
        exact ⟨rfl, Or.inr ⟨rfl, fun c => κ3 (c.2.2 0 (by decide))⟩⟩
      · refine gT_n 5 ?_
        refine gT_k (L := [(3, .int 10), (2, .int 1), (0, .ref 171), (1, .int 2)]) ?_ ⟨rfl, rfl, rfl, rfl, trivial⟩ rfl
        refine gT_n 8 ?_
        refine ⟨rfl, rfl, (pk_in 3 5 (by decide) rfl), fun c => absurd c (kpT (p := fun z : Int32 => ¬ (z ≤ 10)) (show _ = (12 : Int32) from hL.1.2.2.2.1) (by decide)), fun _ => ?_⟩
        refine gT_n 2 ?_
        refine ⟨fun c => absurd c (by decide), fun _ => ?_⟩
        refine gT_n 11 ?_
        refine ⟨rfl, rfl, rfl, (pk_in 2 5 (by decide) rfl), rfl, rfl, gTM.useA (m_byteIn (k := q.1 + 1) hT (by omega)) (Nat.le_refl _) (aR (aI ((Eq.trans (pk_subE (n := (q.1 + 10)) (k := 9) (pk_addE (n := q.1) (k := 10) (hq.2.2.1) (rfl)) ((show _ = (9 : Int32) from hL.1.2.2.1)) (by omega)) (congrArg nI (show ((q.1 + 10) - 9) = q.1 + 1 by omega)))) (rfl))) (fun r u hq => ?_)⟩
        obtain ⟨rfl, rfl⟩ := hq  -- X12_byteAt[R171, nI ((q.1 + 1))]
        refine gT_n 5 ?_
        refine ⟨rfl, rfl, (pk_in 10 16 (by decide) rfl), pk_ne ((b (q.1 + 1))) 101 (fun κ4 => ?_) (fun κ4 => ?_) (rfl) ((show _ = (101 : Int32) from (hL.2 10 (by decide)))) (by have := (hT.2.2 (q.1 + 1) (by omega)).2; omega) (by omega)⟩
        · refine gT_n 4 ?_
          refine gT_k (L := [(3, .int 11), (2, .int 0), (0, .ref 171), (1, .int 2)]) ?_ ⟨rfl, rfl, rfl, rfl, trivial⟩ rfl
          refine gT_n 8 ?_
          refine ⟨rfl, rfl, (pk_in 3 5 (by decide) rfl), fun c => absurd c (kpT (p := fun z : Int32 => ¬ (z ≤ 11)) (show _ = (12 : Int32) from hL.1.2.2.2.1) (by decide)), fun _ => ?_⟩
          refine gT_n 2 ?_
          refine ⟨fun _ => ?_, fun c => absurd (by decide) c⟩
          refine gT_n 2 ?_
          refine ⟨(Or.inl rfl), ?_⟩
          exact ⟨rfl, Or.inr ⟨rfl, fun c => κ4 (c.2.2 1 (by decide))⟩⟩
        · refine gT_n 5 ?_
          refine gT_k (L := [(3, .int 11), (2, .int 1), (0, .ref 171), (1, .int 2)]) ?_ ⟨rfl, rfl, rfl, rfl, trivial⟩ rfl
          refine gT_n 8 ?_
          refine ⟨rfl, rfl, (pk_in 3 5 (by decide) rfl), fun c => absurd c (kpT (p := fun z : Int32 => ¬ (z ≤ 11)) (show _ = (12 : Int32) from hL.1.2.2.2.1) (by decide)), fun _ => ?_⟩
          refine gT_n 2 ?_
          refine ⟨fun c => absurd c (by decide), fun _ => ?_⟩
          refine gT_n 11 ?_
          refine ⟨rfl, rfl, rfl, (pk_in 2 5 (by decide) rfl), rfl, rfl, gTM.useA (m_byteIn (k := q.1 + 2) hT (by omega)) (Nat.le_refl _) (aR (aI ((Eq.trans (pk_subE (n := (q.1 + 11)) (k := 9) (pk_addE (n := q.1) (k := 11) (hq.2.2.1) (rfl)) ((show _ = (9 : Int32) from hL.1.2.2.1)) (by omega)) (congrArg nI (show ((q.1 + 11) - 9) = q.1 + 2 by omega)))) (rfl))) (fun r u hq => ?_)⟩
          obtain ⟨rfl, rfl⟩ := hq  -- X12_byteAt[R171, nI ((q.1 + 2))]
          refine gT_n 5 ?_
          refine ⟨rfl, rfl, (pk_in 11 16 (by decide) rfl), pk_ne ((b (q.1 + 2))) 99 (fun κ5 => ?_) (fun κ5 => ?_) (rfl) ((show _ = (99 : Int32) from (hL.2 11 (by decide)))) (by have := (hT.2.2 (q.1 + 2) (by omega)).2; omega) (by omega)⟩
          · refine gT_n 4 ?_
            refine gT_k (L := [(3, .int 12), (2, .int 0), (0, .ref 171), (1, .int 2)]) ?_ ⟨rfl, rfl, rfl, rfl, trivial⟩ rfl
            refine gT_n 8 ?_
            refine ⟨rfl, rfl, (pk_in 3 5 (by decide) rfl), fun _ => ?_, fun c => absurd (kpT (p := fun z : Int32 => z ≤ 12) (show _ = (12 : Int32) from hL.1.2.2.2.1) (by decide)) c⟩
            refine gT_n 2 ?_
            refine ⟨(Or.inl rfl), ?_⟩
            exact ⟨rfl, Or.inr ⟨rfl, fun c => κ5 (c.2.2 2 (by decide))⟩⟩
          · refine gT_n 5 ?_
            refine gT_k (L := [(3, .int 12), (2, .int 1), (0, .ref 171), (1, .int 2)]) ?_ ⟨rfl, rfl, rfl, rfl, trivial⟩ rfl
            refine gT_n 8 ?_
            refine ⟨rfl, rfl, (pk_in 3 5 (by decide) rfl), fun _ => ?_, fun c => absurd (kpT (p := fun z : Int32 => z ≤ 12) (show _ = (12 : Int32) from hL.1.2.2.2.1) (by decide)) c⟩
            refine gT_n 2 ?_
            refine ⟨(Or.inr rfl), ?_⟩
            exact ⟨rfl, Or.inl ⟨rfl, (tkc_s (m := 1) (by decide)).mp κ1, by show q.2.1 - q.1 = 3; omega, fun j hj => by
              have hj : j < 3 := hj
              have hc : j = 0 ∨ j = 1 ∨ j = 2 := by omega
              rcases hc with rfl | rfl | rfl
              · exact κ3
              · exact κ4
              · exact κ5⟩⟩
theorem m_isW3 {d : Nat} {I X : Nat → Nat → Int32} {J Y : Nat → Nat → Int64} {P : Nat → Nat} {n : Nat} {b : Nat → Nat} (hT : tpm I n b) (hL : cLit (I 185) (I 186)) {q : tk3} (hta : tIs n b q) (hq : okT n b X q) : gTM (d + 1) 185 [.ref 171, .int 3] (gST (xM I X) (xJ J Y) P) (gB (gST (xM I X) (xJ J Y) P) (isWd b q [115, 112, 97, 110])) := by
  have hn2 := hT.2.1
  have hta0 := hta
  obtain ⟨aq, hadv⟩ := hta
  obtain ⟨r1, r2, r3, r4, r5, r6, r7, r8⟩ := adv_r hadv
  refine gT_n 4 ?_
  refine ⟨rfl, px_ne (X := (nI (tkc q.2.2))) (Y := (1)) (hq.2.2.2.1) (rfl) (fun κ1 => ?_) (fun κ1 => ?_)⟩
  · refine gT_n 7 ?_
    refine ⟨rfl, rfl, (pk_in 3 5 (by decide) rfl), ?_⟩
    refine gT_k (L := [(3, .int 12), (2, .int 0), (0, .ref 171), (1, .int 3)]) ?_ ⟨(viI ((show _ = (12 : Int32) from hL.1.2.2.2.1))), rfl, rfl, rfl, trivial⟩ rfl
    refine gT_k (L := [(3, .int 12), (2, .int 0), (0, .ref 171), (1, .int 3)]) ?_ ⟨rfl, rfl, rfl, rfl, trivial⟩ rfl
    refine gT_n 8 ?_
    refine ⟨rfl, rfl, (pk_in 4 5 (by decide) rfl), fun c => absurd c (kpT (p := fun z : Int32 => ¬ (z ≤ 12)) (show _ = (16 : Int32) from hL.1.2.2.2.2) (by decide)), fun _ => ?_⟩
    refine gT_n 2 ?_
    refine ⟨fun _ => ?_, fun c => absurd (by decide) c⟩
    refine gT_n 2 ?_
    refine ⟨(Or.inl rfl), ?_⟩
    exact ⟨rfl, Or.inr ⟨rfl, fun c => κ1 ((tkc_s (m := 1) (by decide)).mpr c.1)⟩⟩
  · refine gT_n 17 ?_
    refine ⟨rfl, rfl, rfl, rfl, (pk_in 4 5 (by decide) rfl), rfl, rfl, (pk_in 3 5 (by decide) rfl), pk_ne (q.2.1 - q.1) 4 (fun κ2 => ?_) (fun κ2 => ?_) (pk_subE (n := q.2.1) (k := q.1) (hq.2.1) (hq.2.2.1) (by omega)) ((k2E (f := fun x y : Int32 => x - y) (show _ = (16 : Int32) from hL.1.2.2.2.2) (show _ = (12 : Int32) from hL.1.2.2.2.1) (show ((16 : Int32) - 12) = 4 by decide))) (by omega) (by omega)⟩
    · refine gT_n 7 ?_
      refine ⟨rfl, rfl, (pk_in 3 5 (by decide) rfl), ?_⟩
      refine gT_k (L := [(3, .int 12), (2, .int 0), (0, .ref 171), (1, .int 3)]) ?_ ⟨(viI ((show _ = (12 : Int32) from hL.1.2.2.2.1))), rfl, rfl, rfl, trivial⟩ rfl
      refine gT_k (L := [(3, .int 12), (2, .int 0), (0, .ref 171), (1, .int 3)]) ?_ ⟨rfl, rfl, rfl, rfl, trivial⟩ rfl
      refine gT_n 8 ?_
      refine ⟨rfl, rfl, (pk_in 4 5 (by decide) rfl), fun c => absurd c (kpT (p := fun z : Int32 => ¬ (z ≤ 12)) (show _ = (16 : Int32) from hL.1.2.2.2.2) (by decide)), fun _ => ?_⟩
      refine gT_n 2 ?_
      refine ⟨fun _ => ?_, fun c => absurd (by decide) c⟩
      refine gT_n 2 ?_
      refine ⟨(Or.inl rfl), ?_⟩
      exact ⟨rfl, Or.inr ⟨rfl, fun c => by have h2 : q.2.1 - q.1 = 4 := c.2.1; omega⟩⟩
    · refine gT_n 8 ?_
      refine ⟨rfl, rfl, (pk_in 3 5 (by decide) rfl), ?_⟩
      refine gT_k (L := [(3, .int 12), (2, .int 1), (0, .ref 171), (1, .int 3)]) ?_ ⟨(viI ((show _ = (12 : Int32) from hL.1.2.2.2.1))), rfl, rfl, rfl, trivial⟩ rfl
      refine gT_k (L := [(3, .int 12), (2, .int 1), (0, .ref 171), (1, .int 3)]) ?_ ⟨rfl, rfl, rfl, rfl, trivial⟩ rfl
      refine gT_n 8 ?_
      refine ⟨rfl, rfl, (pk_in 4 5 (by decide) rfl), fun c => absurd c (kpT (p := fun z : Int32 => ¬ (z ≤ 12)) (show _ = (16 : Int32) from hL.1.2.2.2.2) (by decide)), fun _ => ?_⟩
      refine gT_n 2 ?_
      refine ⟨fun c => absurd c (by decide), fun _ => ?_⟩
      refine gT_n 11 ?_
      refine ⟨rfl, rfl, rfl, (pk_in 3 5 (by decide) rfl), rfl, rfl, gTM.useA (m_byteIn (k := q.1 + 0) hT (by omega)) (Nat.le_refl _) (aR (aI ((Eq.trans (pk_subE (n := (q.1 + 12)) (k := 12) (pk_addE (n := q.1) (k := 12) (hq.2.2.1) (rfl)) ((show _ = (12 : Int32) from hL.1.2.2.2.1)) (by omega)) (congrArg nI (show ((q.1 + 12) - 12) = q.1 + 0 by omega)))) (rfl))) (fun r u hq => ?_)⟩
      obtain ⟨rfl, rfl⟩ := hq  -- X12_byteAt[R171, nI ((q.1 + 0))]
      refine gT_n 5 ?_
      refine ⟨rfl, rfl, (pk_in 12 16 (by decide) rfl), pk_ne ((b (q.1 + 0))) 115 (fun κ3 => ?_) (fun κ3 => ?_) (rfl) ((show _ = (115 : Int32) from (hL.2 12 (by decide)))) (by have := (hT.2.2 (q.1 + 0) (by omega)).2; omega) (by omega)⟩
      · refine gT_n 4 ?_
        refine gT_k (L := [(3, .int 13), (2, .int 0), (0, .ref 171), (1, .int 3)]) ?_ ⟨rfl, rfl, rfl, rfl, trivial⟩ rfl
        refine gT_n 8 ?_
        refine ⟨rfl, rfl, (pk_in 4 5 (by decide) rfl), fun c => absurd c (kpT (p := fun z : Int32 => ¬ (z ≤ 13)) (show _ = (16 : Int32) from hL.1.2.2.2.2) (by decide)), fun _ => ?_⟩
        refine gT_n 2 ?_
        refine ⟨fun _ => ?_, fun c => absurd (by decide) c⟩
        refine gT_n 2 ?_
        refine ⟨(Or.inl rfl), ?_⟩
        exact ⟨rfl, Or.inr ⟨rfl, fun c => κ3 (c.2.2 0 (by decide))⟩⟩
      · refine gT_n 5 ?_
        refine gT_k (L := [(3, .int 13), (2, .int 1), (0, .ref 171), (1, .int 3)]) ?_ ⟨rfl, rfl, rfl, rfl, trivial⟩ rfl
        refine gT_n 8 ?_
        refine ⟨rfl, rfl, (pk_in 4 5 (by decide) rfl), fun c => absurd c (kpT (p := fun z : Int32 => ¬ (z ≤ 13)) (show _ = (16 : Int32) from hL.1.2.2.2.2) (by decide)), fun _ => ?_⟩
        refine gT_n 2 ?_
        refine ⟨fun c => absurd c (by decide), fun _ => ?_⟩
        refine gT_n 11 ?_
        refine ⟨rfl, rfl, rfl, (pk_in 3 5 (by decide) rfl), rfl, rfl, gTM.useA (m_byteIn (k := q.1 + 1) hT (by omega)) (Nat.le_refl _) (aR (aI ((Eq.trans (pk_subE (n := (q.1 + 13)) (k := 12) (pk_addE (n := q.1) (k := 13) (hq.2.2.1) (rfl)) ((show _ = (12 : Int32) from hL.1.2.2.2.1)) (by omega)) (congrArg nI (show ((q.1 + 13) - 12) = q.1 + 1 by omega)))) (rfl))) (fun r u hq => ?_)⟩
        obtain ⟨rfl, rfl⟩ := hq  -- X12_byteAt[R171, nI ((q.1 + 1))]
        refine gT_n 5 ?_
        refine ⟨rfl, rfl, (pk_in 13 16 (by decide) rfl), pk_ne ((b (q.1 + 1))) 112 (fun κ4 => ?_) (fun κ4 => ?_) (rfl) ((show _ = (112 : Int32) from (hL.2 13 (by decide)))) (by have := (hT.2.2 (q.1 + 1) (by omega)).2; omega) (by omega)⟩
        · refine gT_n 4 ?_
          refine gT_k (L := [(3, .int 14), (2, .int 0), (0, .ref 171), (1, .int 3)]) ?_ ⟨rfl, rfl, rfl, rfl, trivial⟩ rfl
          refine gT_n 8 ?_
          refine ⟨rfl, rfl, (pk_in 4 5 (by decide) rfl), fun c => absurd c (kpT (p := fun z : Int32 => ¬ (z ≤ 14)) (show _ = (16 : Int32) from hL.1.2.2.2.2) (by decide)), fun _ => ?_⟩
          refine gT_n 2 ?_
          refine ⟨fun _ => ?_, fun c => absurd (by decide) c⟩
          refine gT_n 2 ?_
          refine ⟨(Or.inl rfl), ?_⟩
          exact ⟨rfl, Or.inr ⟨rfl, fun c => κ4 (c.2.2 1 (by decide))⟩⟩
        · refine gT_n 5 ?_
          refine gT_k (L := [(3, .int 14), (2, .int 1), (0, .ref 171), (1, .int 3)]) ?_ ⟨rfl, rfl, rfl, rfl, trivial⟩ rfl
          refine gT_n 8 ?_
          refine ⟨rfl, rfl, (pk_in 4 5 (by decide) rfl), fun c => absurd c (kpT (p := fun z : Int32 => ¬ (z ≤ 14)) (show _ = (16 : Int32) from hL.1.2.2.2.2) (by decide)), fun _ => ?_⟩
          refine gT_n 2 ?_
          refine ⟨fun c => absurd c (by decide), fun _ => ?_⟩
          refine gT_n 11 ?_
          refine ⟨rfl, rfl, rfl, (pk_in 3 5 (by decide) rfl), rfl, rfl, gTM.useA (m_byteIn (k := q.1 + 2) hT (by omega)) (Nat.le_refl _) (aR (aI ((Eq.trans (pk_subE (n := (q.1 + 14)) (k := 12) (pk_addE (n := q.1) (k := 14) (hq.2.2.1) (rfl)) ((show _ = (12 : Int32) from hL.1.2.2.2.1)) (by omega)) (congrArg nI (show ((q.1 + 14) - 12) = q.1 + 2 by omega)))) (rfl))) (fun r u hq => ?_)⟩
          obtain ⟨rfl, rfl⟩ := hq  -- X12_byteAt[R171, nI ((q.1 + 2))]
          refine gT_n 5 ?_
          refine ⟨rfl, rfl, (pk_in 14 16 (by decide) rfl), pk_ne ((b (q.1 + 2))) 97 (fun κ5 => ?_) (fun κ5 => ?_) (rfl) ((show _ = (97 : Int32) from (hL.2 14 (by decide)))) (by have := (hT.2.2 (q.1 + 2) (by omega)).2; omega) (by omega)⟩
          · refine gT_n 4 ?_
            refine gT_k (L := [(3, .int 15), (2, .int 0), (0, .ref 171), (1, .int 3)]) ?_ ⟨rfl, rfl, rfl, rfl, trivial⟩ rfl
            refine gT_n 8 ?_
            refine ⟨rfl, rfl, (pk_in 4 5 (by decide) rfl), fun c => absurd c (kpT (p := fun z : Int32 => ¬ (z ≤ 15)) (show _ = (16 : Int32) from hL.1.2.2.2.2) (by decide)), fun _ => ?_⟩
            refine gT_n 2 ?_
            refine ⟨fun _ => ?_, fun c => absurd (by decide) c⟩
            refine gT_n 2 ?_
            refine ⟨(Or.inl rfl), ?_⟩
            exact ⟨rfl, Or.inr ⟨rfl, fun c => κ5 (c.2.2 2 (by decide))⟩⟩
          · refine gT_n 5 ?_
            refine gT_k (L := [(3, .int 15), (2, .int 1), (0, .ref 171), (1, .int 3)]) ?_ ⟨rfl, rfl, rfl, rfl, trivial⟩ rfl
            refine gT_n 8 ?_
            refine ⟨rfl, rfl, (pk_in 4 5 (by decide) rfl), fun c => absurd c (kpT (p := fun z : Int32 => ¬ (z ≤ 15)) (show _ = (16 : Int32) from hL.1.2.2.2.2) (by decide)), fun _ => ?_⟩
            refine gT_n 2 ?_
            refine ⟨fun c => absurd c (by decide), fun _ => ?_⟩
            refine gT_n 11 ?_
            refine ⟨rfl, rfl, rfl, (pk_in 3 5 (by decide) rfl), rfl, rfl, gTM.useA (m_byteIn (k := q.1 + 3) hT (by omega)) (Nat.le_refl _) (aR (aI ((Eq.trans (pk_subE (n := (q.1 + 15)) (k := 12) (pk_addE (n := q.1) (k := 15) (hq.2.2.1) (rfl)) ((show _ = (12 : Int32) from hL.1.2.2.2.1)) (by omega)) (congrArg nI (show ((q.1 + 15) - 12) = q.1 + 3 by omega)))) (rfl))) (fun r u hq => ?_)⟩
            obtain ⟨rfl, rfl⟩ := hq  -- X12_byteAt[R171, nI ((q.1 + 3))]
            refine gT_n 5 ?_
            refine ⟨rfl, rfl, (pk_in 15 16 (by decide) rfl), pk_ne ((b (q.1 + 3))) 110 (fun κ6 => ?_) (fun κ6 => ?_) (rfl) ((show _ = (110 : Int32) from (hL.2 15 (by decide)))) (by have := (hT.2.2 (q.1 + 3) (by omega)).2; omega) (by omega)⟩
            · refine gT_n 4 ?_
              refine gT_k (L := [(3, .int 16), (2, .int 0), (0, .ref 171), (1, .int 3)]) ?_ ⟨rfl, rfl, rfl, rfl, trivial⟩ rfl
              refine gT_n 8 ?_
              refine ⟨rfl, rfl, (pk_in 4 5 (by decide) rfl), fun _ => ?_, fun c => absurd (kpT (p := fun z : Int32 => z ≤ 16) (show _ = (16 : Int32) from hL.1.2.2.2.2) (by decide)) c⟩
              refine gT_n 2 ?_
              refine ⟨(Or.inl rfl), ?_⟩
              exact ⟨rfl, Or.inr ⟨rfl, fun c => κ6 (c.2.2 3 (by decide))⟩⟩
            · refine gT_n 5 ?_
              refine gT_k (L := [(3, .int 16), (2, .int 1), (0, .ref 171), (1, .int 3)]) ?_ ⟨rfl, rfl, rfl, rfl, trivial⟩ rfl
              refine gT_n 8 ?_
              refine ⟨rfl, rfl, (pk_in 4 5 (by decide) rfl), fun _ => ?_, fun c => absurd (kpT (p := fun z : Int32 => z ≤ 16) (show _ = (16 : Int32) from hL.1.2.2.2.2) (by decide)) c⟩
              refine gT_n 2 ?_
              refine ⟨(Or.inr rfl), ?_⟩
              exact ⟨rfl, Or.inl ⟨rfl, (tkc_s (m := 1) (by decide)).mp κ1, by show q.2.1 - q.1 = 4; omega, fun j hj => by
                have hj : j < 4 := hj
                have hc : j = 0 ∨ j = 1 ∨ j = 2 ∨ j = 3 := by omega
                rcases hc with rfl | rfl | rfl | rfl
                · exact κ3
                · exact κ4
                · exact κ5
                · exact κ6⟩⟩
theorem m_wordNow {d : Nat} {I X : Nat → Nat → Int32} {J Y : Nat → Nat → Int64} {P : Nat → Nat} {n : Nat} {b : Nat → Nat} (hT : tpm I n b) (hL : cLit (I 185) (I 186)) {q : tk3} (hta : tIs n b q) (hq : okT n b X q) : gTM (d + 2) 186 [.ref 171] (gST (xM I X) (xJ J Y) P) (fun r u => u = (gST (xM I X) (xJ J Y) P) ∧ ((isWd b q [122, 111, 110, 101] ∧ r = some (.int 0)) ∨ ((¬ isWd b q [122, 111, 110, 101] ∧ isWd b q [112, 108, 97, 105, 110]) ∧ r = some (.int 1)) ∨ ((¬ isWd b q [122, 111, 110, 101] ∧ ¬ isWd b q [112, 108, 97, 105, 110] ∧ isWd b q [114, 101, 99]) ∧ r = some (.int 2)) ∨ ((¬ isWd b q [122, 111, 110, 101] ∧ ¬ isWd b q [112, 108, 97, 105, 110] ∧ ¬ isWd b q [114, 101, 99] ∧ isWd b q [115, 112, 97, 110]) ∧ r = some (.int 3)) ∨ ((¬ isWd b q [122, 111, 110, 101] ∧ ¬ isWd b q [112, 108, 97, 105, 110] ∧ ¬ isWd b q [114, 101, 99] ∧ ¬ isWd b q [115, 112, 97, 110]) ∧ r = some (.int (-4))))) := by
  refine gT_n 2 ?_
  refine gT_k (L := [(1, .int 0), (0, .ref 171)]) ?_ ⟨rfl, rfl, trivial⟩ rfl
  refine gT_n 3 ?_
  refine ⟨fun c => absurd c (by decide), fun _ => ?_⟩
  refine gT_n 3 ?_
  refine ⟨rfl, rfl, gTM.use (m_isW0 hT hL hta hq) (Nat.le_refl _) (fun r u hq => ?_)⟩
  obtain ⟨rfl, ⟨rfl, β1⟩ | ⟨rfl, β1⟩⟩ := hq  -- X12_isWord[R171, K0]
  · refine gT_n 1 ?_
    refine ⟨fun c => absurd c (by decide), fun _ => ?_⟩
    refine gT_n 2 ?_
    exact ⟨rfl, Or.inl ⟨β1, rfl⟩⟩
  · refine gT_n 1 ?_
    refine ⟨fun _ => ?_, fun c => absurd (by decide) c⟩
    refine gT_n 2 ?_
    refine gT_k (L := [(1, .int 1), (0, .ref 171)]) ?_ ⟨rfl, rfl, trivial⟩ rfl
    refine gT_n 3 ?_
    refine ⟨fun c => absurd c (by decide), fun _ => ?_⟩
    refine gT_n 3 ?_
    refine ⟨rfl, rfl, gTM.use (m_isW1 hT hL hta hq) (Nat.le_refl _) (fun r u hq => ?_)⟩
    obtain ⟨rfl, ⟨rfl, β2⟩ | ⟨rfl, β2⟩⟩ := hq  -- X12_isWord[R171, K1]
    · refine gT_n 1 ?_
      refine ⟨fun c => absurd c (by decide), fun _ => ?_⟩
      refine gT_n 2 ?_
      exact ⟨rfl, Or.inr (Or.inl ⟨⟨β1, β2⟩, rfl⟩)⟩
    · refine gT_n 1 ?_
      refine ⟨fun _ => ?_, fun c => absurd (by decide) c⟩
      refine gT_n 2 ?_
      refine gT_k (L := [(1, .int 2), (0, .ref 171)]) ?_ ⟨rfl, rfl, trivial⟩ rfl
      refine gT_n 3 ?_
      refine ⟨fun c => absurd c (by decide), fun _ => ?_⟩
      refine gT_n 3 ?_
      refine ⟨rfl, rfl, gTM.use (m_isW2 hT hL hta hq) (Nat.le_refl _) (fun r u hq => ?_)⟩
      obtain ⟨rfl, ⟨rfl, β3⟩ | ⟨rfl, β3⟩⟩ := hq  -- X12_isWord[R171, K2]
      · refine gT_n 1 ?_
        refine ⟨fun c => absurd c (by decide), fun _ => ?_⟩
        refine gT_n 2 ?_
        exact ⟨rfl, Or.inr (Or.inr (Or.inl ⟨⟨β1, β2, β3⟩, rfl⟩))⟩
      · refine gT_n 1 ?_
        refine ⟨fun _ => ?_, fun c => absurd (by decide) c⟩
        refine gT_n 2 ?_
        refine gT_k (L := [(1, .int 3), (0, .ref 171)]) ?_ ⟨rfl, rfl, trivial⟩ rfl
        refine gT_n 3 ?_
        refine ⟨fun c => absurd c (by decide), fun _ => ?_⟩
        refine gT_n 3 ?_
        refine ⟨rfl, rfl, gTM.use (m_isW3 hT hL hta hq) (Nat.le_refl _) (fun r u hq => ?_)⟩
        obtain ⟨rfl, ⟨rfl, β4⟩ | ⟨rfl, β4⟩⟩ := hq  -- X12_isWord[R171, K3]
        · refine gT_n 1 ?_
          refine ⟨fun c => absurd c (by decide), fun _ => ?_⟩
          refine gT_n 2 ?_
          exact ⟨rfl, Or.inr (Or.inr (Or.inr (Or.inl ⟨⟨β1, β2, β3, β4⟩, rfl⟩)))⟩
        · refine gT_n 1 ?_
          refine ⟨fun _ => ?_, fun c => absurd (by decide) c⟩
          refine gT_n 2 ?_
          refine gT_k (L := [(1, .int 4), (0, .ref 171)]) ?_ ⟨rfl, rfl, trivial⟩ rfl
          refine gT_n 3 ?_
          refine ⟨fun _ => ?_, fun c => absurd (by decide) c⟩
          refine gT_n 2 ?_
          exact ⟨rfl, Or.inr (Or.inr (Or.inr (Or.inr (⟨⟨β1, β2, β3, β4⟩, rfl⟩))))⟩
def rNu (n : Nat) (b : Nat → Nat) (lo hi : Nat) (q : tk3) (r : zF ⊕ tk3) : Prop := pif (q.2.2 = 2) (pif (lo ≤ num b q ∧ num b q ≤ hi) (adv n b q.2.1 r) (r = .inl (3, q.1))) (r = .inl (2, q.1))
theorem fT_s {X : Nat → Nat → Int32} {c : Int32} {s : Nat} (hc : 0 < c) : fT (gupI (gupI X 171 19 c) 171 20 (nI s)) (c, s) := ⟨rfl, rfl, hc⟩
theorem xFr_f {X : Nat → Nat → Int32} {c : Int32} {s : Int32} : xFr X (gupI (gupI X 171 19 c) 171 20 s) := xFr_g (xFr_g xFr_s (by decide)) (by decide)
theorem m_in1N {d c lo hi : Nat} {a e : Int64} {w : gW} (ha : (nI lo).toInt64 = a) (he : (nI hi).toInt64 = e) (h : lo ≤ c ∧ c ≤ hi) (hc : c < 2 ^ 31 := by omega) (hl : lo < 2 ^ 31 := by omega) (hh : hi < 2 ^ 31 := by omega) : gTM d 156 [.long (nI c).toInt64, .long a, .long e] w (fun r u => u = w ∧ r = some (.int 1)) := by
  refine gTM.use (m_inN ha he hc hl hh) (Nat.le_refl _) (fun r u g => ?_)
  obtain ⟨h1, h2 | h2⟩ := g
  · exact ⟨h1, h2.1⟩
  · exact absurd h h2.2
theorem m_in0N {d c lo hi : Nat} {a e : Int64} {w : gW} (ha : (nI lo).toInt64 = a) (he : (nI hi).toInt64 = e) (h : ¬ (lo ≤ c ∧ c ≤ hi)) (hc : c < 2 ^ 31 := by omega) (hl : lo < 2 ^ 31 := by omega) (hh : hi < 2 ^ 31 := by omega) : gTM d 156 [.long (nI c).toInt64, .long a, .long e] w (fun r u => u = w ∧ r = some (.int 0)) := by
  refine gTM.use (m_inN ha he hc hl hh) (Nat.le_refl _) (fun r u g => ?_)
  obtain ⟨h1, h2 | h2⟩ := g
  · exact absurd h2.2 h
  · exact ⟨h1, h2.1⟩
theorem m_number0 {d : Nat} {I X : Nat → Nat → Int32} {J Y : Nat → Nat → Int64} {P : Nat → Nat} {n : Nat} {b : Nat → Nat} (hT : tpm I n b) {q : tk3} (hta : tIs n b q) (hq : okT n b X q) : gTM (d + 2) 187 [.ref 171, .int 0, .int 99] (gST (xM I X) (xJ J Y) P) (fun r u => ((∃ f X', rNu n b 0 99 q (.inl f) ∧ (∃ x, r = some (.int x)) ∧ u = gST (xM I X') (xJ J Y) P ∧ xFr X X' ∧ fT X' f) ∨ (∃ q' X', rNu n b 0 99 q (.inr q') ∧ r = some (.int (nI (num b q))) ∧ u = gST (xM I X') (xJ J Y) P ∧ xFr X X' ∧ okT n b X' q'))) := by
  have hn2 := hT.2.1
  have hta0 := hta
  obtain ⟨aq, hadv⟩ := hta
  obtain ⟨r1, r2, r3, r4, r5, r6, r7, r8⟩ := adv_r hadv
  by_cases h2 : q.2.2 = 2
  · have h99 := num_99 hadv h2
    by_cases hin : 0 ≤ num b q ∧ num b q ≤ 99
    · refine gT_n 5 ?_
      refine ⟨rfl, fun c => absurd c (kpT (p := fun z : Int32 => ¬ (¬ z = 2)) (show _ = (2 : Int32) from (hq.2.2.2.1.trans (by rw [h2]; rfl))) (by decide)), fun _ => ?_⟩
      refine gT_n 4 ?_
      refine ⟨rfl, rfl, gTM.use (m_must1 (c := 2)) (Nat.le_refl _) (fun r u hq => ?_)⟩
      obtain ⟨xx, rfl, rfl⟩ := hq  -- X12_must[R171, K1, K2]
      refine gT_n 5 ?_
      refine ⟨rfl, fun c => absurd c (kpT (p := fun z : Int32 => ¬ (0 < z)) (show _ = (0 : Int32) from hq.1) (by decide)), fun _ => ?_⟩
      refine gT_n 8 ?_
      refine ⟨rfl, rfl, gTM.useA (m_in1N (c := num b q) (lo := 0) (hi := 99) rfl rfl hin) (Nat.le_refl _) (aL ((congrArg Int32.toInt64 ((hq.2.2.2.2.trans (by unfold vlc; rw [if_neg (by omega), if_pos h2]))))) (aL (rfl) (aL (rfl) (rfl)))) (fun r u hq => ?_)⟩
      obtain ⟨rfl, rfl⟩ := hq  -- X12_in[L(nI ((num b q))).toInt64, L((0 : Int32).toInt64), L((99 : Int32).toInt64)]
      refine gT_n 1 ?_
      refine ⟨fun c => absurd c (by decide), fun _ => ?_⟩
      refine gT_n 4 ?_
      refine ⟨rfl, rfl, gTM.use (m_must1 (c := 3)) (Nat.le_refl _) (fun r u hq => ?_)⟩
      obtain ⟨xx, rfl, rfl⟩ := hq  -- X12_must[R171, K1, K3]
      refine gT_n 4 ?_
      refine ⟨rfl, fun _ => ?_, fun c => absurd (kpT (p := fun z : Int32 => z ≤ 0) (show _ = (0 : Int32) from hq.1) (by decide)) c⟩
      refine gT_n 3 ?_
      refine ⟨rfl, ?_⟩
      refine gT_k (L := [(3, .int (nI ((num b q)))), (0, .ref 171), (1, .int 0), (2, .int 99)]) ?_ ⟨(viI ((hq.2.2.2.2.trans (by unfold vlc; rw [if_neg (by omega), if_pos h2])))), rfl, rfl, rfl, trivial⟩ rfl
      refine gT_n 2 ?_
      refine ⟨rfl, rfl, gTM.use (m_reads hT r3 hq.1 hq.2.1) (Nat.le_refl _) (fun r u hq => ?_)⟩
      obtain ⟨rfl, ⟨f, X1, hra, rfl, hf1, ho⟩ | ⟨q1, X1, hra, rfl, hf1, ho⟩⟩ := hq  -- X12_reads[R171]
      · refine gT_n 2 ?_
        exact Or.inl ⟨f, X1, (pif_pos h2).mpr ((pif_pos hin).mpr hra), ⟨_, rfl⟩, rfl, hf1, ho⟩
      · refine gT_n 2 ?_
        exact Or.inr ⟨q1, X1, (pif_pos h2).mpr ((pif_pos hin).mpr hra), rfl, rfl, hf1, ho⟩
    · refine gT_n 5 ?_
      refine ⟨rfl, fun c => absurd c (kpT (p := fun z : Int32 => ¬ (¬ z = 2)) (show _ = (2 : Int32) from (hq.2.2.2.1.trans (by rw [h2]; rfl))) (by decide)), fun _ => ?_⟩
      refine gT_n 4 ?_
      refine ⟨rfl, rfl, gTM.use (m_must1 (c := 2)) (Nat.le_refl _) (fun r u hq => ?_)⟩
      obtain ⟨xx, rfl, rfl⟩ := hq  -- X12_must[R171, K1, K2]
      refine gT_n 5 ?_
      refine ⟨rfl, fun c => absurd c (kpT (p := fun z : Int32 => ¬ (0 < z)) (show _ = (0 : Int32) from hq.1) (by decide)), fun _ => ?_⟩
      refine gT_n 8 ?_
      refine ⟨rfl, rfl, gTM.useA (m_in0N (c := num b q) (lo := 0) (hi := 99) rfl rfl hin) (Nat.le_refl _) (aL ((congrArg Int32.toInt64 ((hq.2.2.2.2.trans (by unfold vlc; rw [if_neg (by omega), if_pos h2]))))) (aL (rfl) (aL (rfl) (rfl)))) (fun r u hq => ?_)⟩
      obtain ⟨rfl, rfl⟩ := hq  -- X12_in[L(nI ((num b q))).toInt64, L((0 : Int32).toInt64), L((99 : Int32).toInt64)]
      refine gT_n 1 ?_
      refine ⟨fun _ => ?_, fun c => absurd (by decide) c⟩
      refine gT_n 3 ?_
      refine ⟨rfl, rfl, gTM.use (m_must0 (c := 3) (h := nI q.1) hq.1 hq.2.2.1) (Nat.le_refl _) (fun r u hq => ?_)⟩
      obtain ⟨xx, rfl, rfl⟩ := hq  -- X12_must[R171, K0, K3]
      refine gT_n 4 ?_
      refine ⟨rfl, fun c => absurd c (kpT (p := fun z : Int32 => ¬ (z ≤ 0)) (show _ = (3 : Int32) from rfl) (by decide)), fun _ => ?_⟩
      refine gT_n 5 ?_
      refine ⟨rfl, rfl, gTM.use (m_readsF (f := 3) rfl (by decide)) (Nat.le_refl _) (fun r u hq => ?_)⟩
      obtain ⟨rfl, rfl⟩ := hq  -- X12_reads[R171]
      refine gT_n 2 ?_
      exact Or.inl ⟨(3, q.1), _, (pif_pos h2).mpr ((pif_neg hin).mpr rfl), ⟨_, rfl⟩, rfl, xFr_f, fT_s (by decide)⟩
  · refine gT_n 5 ?_
    refine ⟨rfl, px_ne (X := (nI (tkc q.2.2))) (Y := (2)) (hq.2.2.2.1) (rfl) (fun κ1 => ?_) (fun κ1 => ?_)⟩
    · refine gT_n 3 ?_
      refine ⟨rfl, rfl, gTM.use (m_must0 (c := 2) (h := nI q.1) hq.1 hq.2.2.1) (Nat.le_refl _) (fun r u hq => ?_)⟩
      obtain ⟨xx, rfl, rfl⟩ := hq  -- X12_must[R171, K0, K2]
      refine gT_n 5 ?_
      refine ⟨rfl, fun _ => ?_, fun c => absurd (kpT (p := fun z : Int32 => 0 < z) (show _ = (2 : Int32) from rfl) (by decide)) c⟩
      refine gT_n 4 ?_
      refine ⟨rfl, rfl, gTM.use (m_must1 (c := 3)) (Nat.le_refl _) (fun r u hq => ?_)⟩
      obtain ⟨xx, rfl, rfl⟩ := hq  -- X12_must[R171, K1, K3]
      refine gT_n 4 ?_
      refine ⟨rfl, fun c => absurd c (kpT (p := fun z : Int32 => ¬ (z ≤ 0)) (show _ = (2 : Int32) from rfl) (by decide)), fun _ => ?_⟩
      refine gT_n 5 ?_
      refine ⟨rfl, rfl, gTM.use (m_readsF (f := 2) rfl (by decide)) (Nat.le_refl _) (fun r u hq => ?_)⟩
      obtain ⟨rfl, rfl⟩ := hq  -- X12_reads[R171]
      refine gT_n 2 ?_
      exact Or.inl ⟨(2, q.1), _, (pif_neg h2).mpr rfl, ⟨_, rfl⟩, rfl, xFr_f, fT_s (by decide)⟩
    · exact absurd ((tkc_s (m := 2) (by decide)).mp (by assumption)) h2
theorem m_number1 {d : Nat} {I X : Nat → Nat → Int32} {J Y : Nat → Nat → Int64} {P : Nat → Nat} {n : Nat} {b : Nat → Nat} (hT : tpm I n b) {q : tk3} (hta : tIs n b q) (hq : okT n b X q) : gTM (d + 2) 187 [.ref 171, .int 1, .int 60] (gST (xM I X) (xJ J Y) P) (fun r u => ((∃ f X', rNu n b 1 60 q (.inl f) ∧ (∃ x, r = some (.int x)) ∧ u = gST (xM I X') (xJ J Y) P ∧ xFr X X' ∧ fT X' f) ∨ (∃ q' X', rNu n b 1 60 q (.inr q') ∧ r = some (.int (nI (num b q))) ∧ u = gST (xM I X') (xJ J Y) P ∧ xFr X X' ∧ okT n b X' q'))) := by
  have hn2 := hT.2.1
  have hta0 := hta
  obtain ⟨aq, hadv⟩ := hta
  obtain ⟨r1, r2, r3, r4, r5, r6, r7, r8⟩ := adv_r hadv
  by_cases h2 : q.2.2 = 2
  · have h99 := num_99 hadv h2
    by_cases hin : 1 ≤ num b q ∧ num b q ≤ 60
    · refine gT_n 5 ?_
      refine ⟨rfl, fun c => absurd c (kpT (p := fun z : Int32 => ¬ (¬ z = 2)) (show _ = (2 : Int32) from (hq.2.2.2.1.trans (by rw [h2]; rfl))) (by decide)), fun _ => ?_⟩
      refine gT_n 4 ?_
      refine ⟨rfl, rfl, gTM.use (m_must1 (c := 2)) (Nat.le_refl _) (fun r u hq => ?_)⟩
      obtain ⟨xx, rfl, rfl⟩ := hq  -- X12_must[R171, K1, K2]
      refine gT_n 5 ?_
      refine ⟨rfl, fun c => absurd c (kpT (p := fun z : Int32 => ¬ (0 < z)) (show _ = (0 : Int32) from hq.1) (by decide)), fun _ => ?_⟩
      refine gT_n 8 ?_
      refine ⟨rfl, rfl, gTM.useA (m_in1N (c := num b q) (lo := 1) (hi := 60) rfl rfl hin) (Nat.le_refl _) (aL ((congrArg Int32.toInt64 ((hq.2.2.2.2.trans (by unfold vlc; rw [if_neg (by omega), if_pos h2]))))) (aL (rfl) (aL (rfl) (rfl)))) (fun r u hq => ?_)⟩
      obtain ⟨rfl, rfl⟩ := hq  -- X12_in[L(nI ((num b q))).toInt64, L((1 : Int32).toInt64), L((60 : Int32).toInt64)]
      refine gT_n 1 ?_
      refine ⟨fun c => absurd c (by decide), fun _ => ?_⟩
      refine gT_n 4 ?_
      refine ⟨rfl, rfl, gTM.use (m_must1 (c := 3)) (Nat.le_refl _) (fun r u hq => ?_)⟩
      obtain ⟨xx, rfl, rfl⟩ := hq  -- X12_must[R171, K1, K3]
      refine gT_n 4 ?_
      refine ⟨rfl, fun _ => ?_, fun c => absurd (kpT (p := fun z : Int32 => z ≤ 0) (show _ = (0 : Int32) from hq.1) (by decide)) c⟩
      refine gT_n 3 ?_
      refine ⟨rfl, ?_⟩
      refine gT_k (L := [(3, .int (nI ((num b q)))), (0, .ref 171), (1, .int 1), (2, .int 60)]) ?_ ⟨(viI ((hq.2.2.2.2.trans (by unfold vlc; rw [if_neg (by omega), if_pos h2])))), rfl, rfl, rfl, trivial⟩ rfl
      refine gT_n 2 ?_
      refine ⟨rfl, rfl, gTM.use (m_reads hT r3 hq.1 hq.2.1) (Nat.le_refl _) (fun r u hq => ?_)⟩
      obtain ⟨rfl, ⟨f, X1, hra, rfl, hf1, ho⟩ | ⟨q1, X1, hra, rfl, hf1, ho⟩⟩ := hq  -- X12_reads[R171]
      · refine gT_n 2 ?_
        exact Or.inl ⟨f, X1, (pif_pos h2).mpr ((pif_pos hin).mpr hra), ⟨_, rfl⟩, rfl, hf1, ho⟩
      · refine gT_n 2 ?_
        exact Or.inr ⟨q1, X1, (pif_pos h2).mpr ((pif_pos hin).mpr hra), rfl, rfl, hf1, ho⟩
    · refine gT_n 5 ?_
      refine ⟨rfl, fun c => absurd c (kpT (p := fun z : Int32 => ¬ (¬ z = 2)) (show _ = (2 : Int32) from (hq.2.2.2.1.trans (by rw [h2]; rfl))) (by decide)), fun _ => ?_⟩
      refine gT_n 4 ?_
      refine ⟨rfl, rfl, gTM.use (m_must1 (c := 2)) (Nat.le_refl _) (fun r u hq => ?_)⟩
      obtain ⟨xx, rfl, rfl⟩ := hq  -- X12_must[R171, K1, K2]
      refine gT_n 5 ?_
      refine ⟨rfl, fun c => absurd c (kpT (p := fun z : Int32 => ¬ (0 < z)) (show _ = (0 : Int32) from hq.1) (by decide)), fun _ => ?_⟩
      refine gT_n 8 ?_
      refine ⟨rfl, rfl, gTM.useA (m_in0N (c := num b q) (lo := 1) (hi := 60) rfl rfl hin) (Nat.le_refl _) (aL ((congrArg Int32.toInt64 ((hq.2.2.2.2.trans (by unfold vlc; rw [if_neg (by omega), if_pos h2]))))) (aL (rfl) (aL (rfl) (rfl)))) (fun r u hq => ?_)⟩
      obtain ⟨rfl, rfl⟩ := hq  -- X12_in[L(nI ((num b q))).toInt64, L((1 : Int32).toInt64), L((60 : Int32).toInt64)]
      refine gT_n 1 ?_
      refine ⟨fun _ => ?_, fun c => absurd (by decide) c⟩
      refine gT_n 3 ?_
      refine ⟨rfl, rfl, gTM.use (m_must0 (c := 3) (h := nI q.1) hq.1 hq.2.2.1) (Nat.le_refl _) (fun r u hq => ?_)⟩
      obtain ⟨xx, rfl, rfl⟩ := hq  -- X12_must[R171, K0, K3]
      refine gT_n 4 ?_
      refine ⟨rfl, fun c => absurd c (kpT (p := fun z : Int32 => ¬ (z ≤ 0)) (show _ = (3 : Int32) from rfl) (by decide)), fun _ => ?_⟩
      refine gT_n 5 ?_
      refine ⟨rfl, rfl, gTM.use (m_readsF (f := 3) rfl (by decide)) (Nat.le_refl _) (fun r u hq => ?_)⟩
      obtain ⟨rfl, rfl⟩ := hq  -- X12_reads[R171]
      refine gT_n 2 ?_
      exact Or.inl ⟨(3, q.1), _, (pif_pos h2).mpr ((pif_neg hin).mpr rfl), ⟨_, rfl⟩, rfl, xFr_f, fT_s (by decide)⟩
  · refine gT_n 5 ?_
    refine ⟨rfl, px_ne (X := (nI (tkc q.2.2))) (Y := (2)) (hq.2.2.2.1) (rfl) (fun κ1 => ?_) (fun κ1 => ?_)⟩
    · refine gT_n 3 ?_
      refine ⟨rfl, rfl, gTM.use (m_must0 (c := 2) (h := nI q.1) hq.1 hq.2.2.1) (Nat.le_refl _) (fun r u hq => ?_)⟩
      obtain ⟨xx, rfl, rfl⟩ := hq  -- X12_must[R171, K0, K2]
      refine gT_n 5 ?_
      refine ⟨rfl, fun _ => ?_, fun c => absurd (kpT (p := fun z : Int32 => 0 < z) (show _ = (2 : Int32) from rfl) (by decide)) c⟩
      refine gT_n 4 ?_
      refine ⟨rfl, rfl, gTM.use (m_must1 (c := 3)) (Nat.le_refl _) (fun r u hq => ?_)⟩
      obtain ⟨xx, rfl, rfl⟩ := hq  -- X12_must[R171, K1, K3]
      refine gT_n 4 ?_
      refine ⟨rfl, fun c => absurd c (kpT (p := fun z : Int32 => ¬ (z ≤ 0)) (show _ = (2 : Int32) from rfl) (by decide)), fun _ => ?_⟩
      refine gT_n 5 ?_
      refine ⟨rfl, rfl, gTM.use (m_readsF (f := 2) rfl (by decide)) (Nat.le_refl _) (fun r u hq => ?_)⟩
      obtain ⟨rfl, rfl⟩ := hq  -- X12_reads[R171]
      refine gT_n 2 ?_
      exact Or.inl ⟨(2, q.1), _, (pif_neg h2).mpr rfl, ⟨_, rfl⟩, rfl, xFr_f, fT_s (by decide)⟩
    · exact absurd ((tkc_s (m := 2) (by decide)).mp (by assumption)) h2
