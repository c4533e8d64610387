/-! OWNERS gathered -/
theorem bI_0 {b : Bool} (h : bI b = 0) : b = false := by
  cases b
  · rfl
  · exact absurd h (by decide)
theorem bI_1 {b : Bool} (h : ¬ bI b = 0) : b = true := by
  cases b
  · exact absurd rfl h
  · rfl
theorem cO_nil {c : Int32} {A : Nat → Int64} {B : Nat → Int32} (h : c = 0) : cO c A B [] := ⟨h, fun i hi => absurd hi (Nat.not_lt_zero i)⟩
theorem c_gather {d z : Nat} {t : zT} {l : zR} {I : Nat → Nat → Int32} {J : Nat → Nat → Int64} {P : Nat → Nat} (hz : zOK t) (hr : rOK l) (hT : cTr I J t) (hR : cR (I 18 3) (J 19) (I 20) (I 21) l) (hzz : z < t.1) : gTM (d + 3) 38 [.ref 142, .int (nI z)] (gST I J P) (fun r u => r = none ∧ ∃ c' A' B' os, u = gST (oMI I c' B') (oMJ J A') P ∧ cO c' A' B' os ∧ oIs os (fG t l z) ∧ os.length ≤ 28) := by
  have hT0 := hT.1
  have hTp := hT.2.2
  have hrq := hr.o
  have h24 := hr.1
  have h4 := hz.2.1
  have h1 := hz.1
  have loop2 : ∀ m, m ≤ t.1 → 1 ≤ m → ∀ c A B os, cO c A B os → oIs os (fun n => (abN t z n ||| rbN t z l n l.length) ||| cbN t z n (m - 1)) → os.length ≤ l.length + m → gT (d + 3) 38 109 [(2, .int (nI m)), (0, .ref 142), (1, .int (nI z))] [] (0, 0) (gST (oMI I c B) (oMJ J A) P) (fun r u => r = none ∧ ∃ c' A' B' os, u = gST (oMI I c' B') (oMJ J A') P ∧ cO c' A' B' os ∧ oIs os (fG t l z) ∧ os.length ≤ 28) := by
    refine loopU t.1 (fun m hm ih hm1 c A B os hO hf hl => ?_)
    refine gT_n 5 ?_
    refine ⟨rfl, rfl, pk_le t.1 m (fun κ1 => ?_) (fun κ1 => ?_) (hT0.1) (rfl) (by omega) (by omega)⟩
    · refine gT_n 1 ?_
      refine ⟨rfl, ?_⟩
      obtain rfl : m = t.1 := by omega
      exact ⟨rfl, c, A, B, os, rfl, hO, hf, by omega⟩
    · refine gT_n 7 ?_
      refine ⟨rfl, rfl, rfl, (pk_in m 4 (by omega) (rfl)), pk_ne ((zpa t m)) z (fun κ2 => ?_) (fun κ2 => ?_) (rdI (rfl) (by omega) (Eq.trans (hTp m (by omega)) (if_neg (by omega)))) (rfl) (by have := zof_lt hz (nfst (t.2.1 m) (cnt (t.2.1 m) - 1)); unfold zpa; omega) (by omega)⟩
      · refine gT_n 2 ?_
        have e := ih (m + 1) (by omega) (by omega) (by omega) c A B os hO (oIs_ext hf (fun n => by
          rw [show m + 1 - 1 = (m - 1) + 1 by omega]
          show _ = _ ||| (cbN t z n (m - 1) ||| _)
          rw [show m - 1 + 1 = m by omega, if_neg (fun q => κ2 q.2), Nat.or_zero])) (by omega)
        rw [← nI_1] at e
        exact e
      · refine gT_n 12 ?_
        refine ⟨rfl, rfl, rfl, (pk_in m 4 (by omega) (rfl)), rfl, rfl, (Or.inr rfl), (pk_in m 4 (by omega) (rfl)), px_eq (X := (bI (t.2.2.1 m))) (Y := (0)) (rdI (rfl) (by omega) (hT0.2.2.2.1 m (by omega))) (rfl) (fun κ3 => ?_) (fun κ3 => ?_)⟩
        · refine gT_n 2 ?_
          refine ⟨rfl, rfl, gTM.useA (c_oins (n := t.2.1 m) (b := 8) hf hO (by omega) (hz.2.2.2.2.1 m (by omega)) (by decide) (by decide)) (Nat.le_refl _) (aR (aL (rdJ (rfl) (by omega) (hT0.2.1 m (by omega))) (aI (rfl) (rfl)))) (fun r u hq => ?_)⟩
          obtain ⟨rfl, c1, A1, B1, os1, rfl, hO1, hf1, hl1⟩ := hq  -- X4_insert[R142, lN ((t.2.1 m)), K8]
          refine gT_n 2 ?_
          have e := ih (m + 1) (by omega) (by omega) (by omega) c1 A1 B1 os1 hO1 (oIs_ext hf1 (fun n => by
            rw [show m + 1 - 1 = (m - 1) + 1 by omega]
            show (if n = t.2.1 m then _ ||| _ else _) = _ ||| (cbN t z n (m - 1) ||| _)
            rw [show m - 1 + 1 = m by omega]
            by_cases q : n = t.2.1 m
            · rw [if_pos q, if_pos ⟨q.symm, κ2⟩, if_neg (show ¬ t.2.2.1 m = true by rw [bI_0 κ3]; decide), Nat.or_assoc]
            · rw [if_neg q, if_neg (fun w => q w.1.symm), Nat.or_zero])) (by omega)
          rw [← nI_1] at e
          exact e
        · refine gT_n 3 ?_
          refine ⟨rfl, rfl, gTM.useA (c_oins (n := t.2.1 m) (b := 24) hf hO (by omega) (hz.2.2.2.2.1 m (by omega)) (by decide) (by decide)) (Nat.le_refl _) (aR (aL (rdJ (rfl) (by omega) (hT0.2.1 m (by omega))) (aI (rfl) (rfl)))) (fun r u hq => ?_)⟩
          obtain ⟨rfl, c1, A1, B1, os1, rfl, hO1, hf1, hl1⟩ := hq  -- X4_insert[R142, lN ((t.2.1 m)), K24]
          refine gT_n 2 ?_
          have e := ih (m + 1) (by omega) (by omega) (by omega) c1 A1 B1 os1 hO1 (oIs_ext hf1 (fun n => by
            rw [show m + 1 - 1 = (m - 1) + 1 by omega]
            show (if n = t.2.1 m then _ ||| _ else _) = _ ||| (cbN t z n (m - 1) ||| _)
            rw [show m - 1 + 1 = m by omega]
            by_cases q : n = t.2.1 m
            · rw [if_pos q, if_pos ⟨q.symm, κ2⟩, if_pos (bI_1 κ3), Nat.or_assoc]
            · rw [if_neg q, if_neg (fun w => q w.1.symm), Nat.or_zero])) (by omega)
          rw [← nI_1] at e
          exact e
  have loop1 : ∀ j, j ≤ l.length → ∀ c A B os, cO c A B os → oIs os (fun n => abN t z n ||| rbN t z l n j) → os.length ≤ j + 1 → gT (d + 3) 38 34 [(2, .int (nI j)), (0, .ref 142), (1, .int (nI z))] [] (0, 0) (gST (oMI I c B) (oMJ J A) P) (fun r u => r = none ∧ ∃ c' A' B' os, u = gST (oMI I c' B') (oMJ J A') P ∧ cO c' A' B' os ∧ oIs os (fG t l z) ∧ os.length ≤ 28) := by
    refine loopU l.length (fun j hj ih c A B os hO hf hl => ?_)
    refine gT_n 6 ?_
    refine ⟨rfl, rfl, rfl, pk_le l.length j (fun κ1 => ?_) (fun κ1 => ?_) (hR.1) (rfl) (by omega) (by omega)⟩
    · refine gT_n 2 ?_
      obtain rfl : j = l.length := by omega
      exact loop2 1 (by omega) (by omega) c A B os hO (oIs_ext hf (fun n => by show _ = _ ||| (0 : Nat); rw [Nat.or_zero])) (by omega)
    · refine gT_n 9 ?_
      refine ⟨rfl, rfl, rfl, rfl, rfl, (pk_in j 24 (by omega) (rfl)), rfl, rfl, gTM.useA (c_zoneOf_12 (I := oMI I c B) (J := oMJ J A) hz hT0 ((hrq j (by omega)).1.lt)) (Nat.le_refl _) (aR (aL (rdJ (rfl) (by omega) (hR.2 j (by omega)).1) (rfl))) (fun r u hq => ?_)⟩
      obtain ⟨rfl, rfl⟩ := hq  -- X8_zoneOf[R12, lN ((rg l j).1)]
      refine gT_n 2 ?_
      refine pk_ne ((zof t (rg l j).1)) z (fun κ2 => ?_) (fun κ2 => ?_) (rfl) (rfl) (by have := zof_lt hz (rg l j).1; omega) (by omega)
      · refine gT_n 2 ?_
        have e := ih (j + 1) (by omega) (by omega) c A B os hO (oIs_ext hf (fun n => by
          show _ = _ ||| (rbN t z l n j ||| _)
          rw [if_neg (fun q => κ2 q.2), Nat.or_zero])) (by omega)
        rw [← nI_1] at e
        exact e
      · refine gT_n 16 ?_
        refine ⟨rfl, rfl, rfl, rfl, (pk_in j 24 (by omega) (rfl)), rfl, rfl, rfl, rfl, (pk_in j 24 (by omega) (rfl)), rfl, rfl, gTM.useA (c_oins (n := (rg l j).1) (b := 2 ^ (rg l j).2.1) hf hO (by omega) (hrq j (by omega)).1 (p2_64 (hrq j (by omega)).2.1).2 (p2_64 (hrq j (by omega)).2.1).1) (Nat.le_refl _) (aR (aL (rdJ (rfl) (by omega) (hR.2 j (by omega)).1) (aI (pk_shE (n := ((rg l j).2.1)) (rdI (rfl) (by omega) (hR.2 j (by omega)).2.1) ((hrq j (by omega)).2.1)) (rfl)))) (fun r u hq => ?_)⟩
        obtain ⟨rfl, c1, A1, B1, os1, rfl, hO1, hf1, hl1⟩ := hq  -- X4_insert[R142, lN ((rg l j).1), nI (2 ^ ((rg l j).2.1))]
        refine gT_n 2 ?_
        have e := ih (j + 1) (by omega) (by omega) c1 A1 B1 os1 hO1 (oIs_ext hf1 (fun n => by
          show (if n = (rg l j).1 then _ ||| _ else _) = _ ||| (rbN t z l n j ||| _)
          by_cases q : n = (rg l j).1
          · rw [if_pos q, if_pos ⟨q.symm, κ2⟩, Nat.or_assoc]
          · rw [if_neg q, if_neg (fun w => q w.1.symm), Nat.or_zero])) (by omega)
        rw [← nI_1] at e
        exact e
  have key : gTM (d + 3) 38 [.ref 142, .int (nI z)] (gST (oMI I (I 142 2) (I 144)) (oMJ J (J 143)) P) (fun r u => r = none ∧ ∃ c' A' B' os, u = gST (oMI I c' B') (oMJ J A') P ∧ cO c' A' B' os ∧ oIs os (fG t l z) ∧ os.length ≤ 28) := by
    refine gT_n 3 ?_
    refine ⟨rfl, ?_⟩
    refine gT_oC (X := 0) (rfl) ?_
    refine gT_n 4 ?_
    refine ⟨rfl, rfl, rfl, gTM.use (c_has1 hz hT0 ⟨z, hzz, rfl⟩) (Nat.le_refl _) (fun r u hq => ?_)⟩
    obtain ⟨rfl, rfl⟩ := hq  -- X8_has[R12, nI z]
    refine gT_n 1 ?_
    refine ⟨fun _ => ?_, fun c => absurd c (by decide)⟩
    refine gT_n 8 ?_
    refine ⟨rfl, rfl, rfl, (pk_in z 4 (by omega) (rfl)), rfl, rfl, gTM.useA (c_oins (n := t.2.1 z) (b := 32) oIs_nil (cO_nil rfl) (by decide) (hz.2.2.2.2.1 z hzz) (by decide) (by decide)) (Nat.le_refl _) (aR (aL (rdJ (rfl) (by omega) (hT0.2.1 z (by omega))) (aI (rfl) (rfl)))) (fun r u hq => ?_)⟩
    obtain ⟨rfl, c1, A1, B1, os1, rfl, hO1, hf1, hl1⟩ := hq  -- X4_insert[R142, lN ((t.2.1 z)), K32]
    refine gT_n 2 ?_
    exact loop1 0 (by omega) c1 A1 B1 os1 hO1 (oIs_ext hf1 (fun n => by
      show (if n = t.2.1 z then 0 ||| 32 else 0) = abN t z n ||| 0
      unfold abN
      rw [Nat.or_zero, Nat.zero_or]
      by_cases q : n = t.2.1 z
      · rw [if_pos q, if_pos q.symm]
      · rw [if_neg q, if_neg (fun w => q w.symm)])) hl1
  rw [oM_self, oJ_self] at key
  exact key
