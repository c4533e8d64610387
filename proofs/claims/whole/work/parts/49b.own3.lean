/-! OWNERS in the reference -/
section
variable {x y X Y : Int64} {A B : Prop}
theorem pj_gt (ex : x = X) (ey : y = Y) (f : Y < X → A) (g : ¬ Y < X → B) : (0 < lg_cmp x y → A) ∧ (¬ 0 < lg_cmp x y → B) := by
  subst ex ey; rw [lg_cmp_gt]; exact ⟨f, g⟩
theorem pj_le (ex : x = X) (ey : y = Y) (f : ¬ Y < X → A) (g : Y < X → B) : (lg_cmp x y ≤ 0 → A) ∧ (¬ lg_cmp x y ≤ 0 → B) := by
  subst ex ey
  have h := pj_gt (A := B) (B := A) rfl rfl g f
  exact ⟨fun c => h.2 (Int32.not_lt.mpr c), fun c => h.1 (Int32.not_le.mp c)⟩
end
theorem oat_y {os : zO} {k : Nat} (h : k < os.length) : olm (oat os k) = lN (mo (og os k).1) := by
  unfold oat
  rw [if_pos h]; rfl
theorem oat_n {os : zO} {k : Nat} (h : os.length ≤ k) : olm (oat os k) = -4 := by
  unfold oat
  rw [if_neg (by omega)]; rfl
theorem oat_z {os : zO} {k m : Nat} (h : k < os.length) (e : (og os k).1 = m) : lN (mo m) = olm (oat os k) := by
  rw [oat_y h, e]
theorem m_parentOf1 {d z : Nat} {t : zT} {I : Nat → Nat → Int32} {J : Nat → Nat → Int64} {P : Nat → Nat} (hz : zOK t) (hT : mT (I 171 2) (J 172) (I 173) t) (h1 : 1 ≤ z) (hzz : z < t.1) : gTM (d + 5) 166 [.ref 171, .int (nI z)] (gST I J P) (fun r u => u = gST I J P ∧ r = some (.int (nI (zpa t z)))) := by
  refine gTM.use (m_parentOf hz hT hzz) (Nat.le_refl _) (fun r u hq => ?_)
  obtain ⟨rfl, rfl⟩ := hq
  refine ⟨rfl, ?_⟩
  unfold zpI
  rw [if_neg (by omega)]
theorem m_childAt {d z n : Nat} {t : zT} {I : Nat → Nat → Int32} {J : Nat → Nat → Int64} {P : Nat → Nat} (hz : zOK t) (hT : mT (I 171 2) (J 172) (I 173) t) (hzz : z < t.1) (hn : vn n) : gTM (d + 6) 167 [.ref 171, .int (nI z), .long (lN (mo n))] (gST I J P) (fun r u => u = gST I J P ∧ ((∃ c, 1 ≤ c ∧ c < t.1 ∧ t.2.1 c = n ∧ zpa t c = z ∧ r = some (.int (nI c))) ∨ (r = some (.int (-4)) ∧ ∀ c, 1 ≤ c → c < t.1 → ¬ (t.2.1 c = n ∧ zpa t c = z)))) := by
  have h4 := hz.2.1
  have hz1 := hz.1
  have loop : ∀ c, c ≤ t.1 → 1 ≤ c → (∀ k, 1 ≤ k → k < c → ¬ (t.2.1 k = n ∧ zpa t k = z)) → gT (d + 6) 167 3 [(4, .int (nI c)), (0, .ref 171), (1, .int (nI z)), (2, .long (lN (mo n)))] [] (0, 0) (gST I J P) (fun r u => u = gST I J P ∧ ((∃ c, 1 ≤ c ∧ c < t.1 ∧ t.2.1 c = n ∧ zpa t c = z ∧ r = some (.int (nI c))) ∨ (r = some (.int (-4)) ∧ ∀ c, 1 ≤ c → c < t.1 → ¬ (t.2.1 c = n ∧ zpa t c = z)))) := by
    refine loopU t.1 (fun c hc ih h1 hno => ?_)
    refine gT_n 4 ?_
    refine ⟨rfl, pk_le t.1 c (fun κ1 => ?_) (fun κ1 => ?_) (hT.1) (rfl) (by omega) (by omega)⟩
    · refine gT_n 2 ?_
      exact ⟨rfl, Or.inr ⟨rfl, fun k h1 h2 => hno k h1 (by omega)⟩⟩
    · refine gT_n 7 ?_
      refine ⟨rfl, rfl, (pk_in c 4 (by omega) (rfl)), pm_ne ((t.2.1 c)) n (fun κ2 => ?_) (fun κ2 => ?_) (rdJ (rfl) (by omega) (hT.2.1 c (by omega))) (rfl) ((hz.2.2.2.2.1 c (by omega))) (hn)⟩
      · refine gT_n 2 ?_
        have e := ih (c + 1) (by omega) (by omega) (by omega) (fun k a1 a2 w => by
          by_cases g : k = c
          · subst g
            exact κ2 w.1
          · exact hno k a1 (by omega) w)
        rw [← nI_1] at e
        exact e
      · refine gT_n 3 ?_
        refine ⟨rfl, rfl, gTM.use (m_parentOf1 hz hT (by omega) (by omega)) (Nat.le_refl _) (fun r u hq => ?_)⟩
        obtain ⟨rfl, rfl⟩ := hq  -- X12_parentOf[R171, nI c]
        refine gT_n 2 ?_
        refine pk_ne ((zpa t c)) z (fun κ3 => ?_) (fun κ3 => ?_) (rfl) (rfl) (by have := zof_lt hz (nfst (t.2.1 c) (cnt (t.2.1 c) - 1)); unfold zpa; omega) (by omega)
        · refine gT_n 2 ?_
          have e := ih (c + 1) (by omega) (by omega) (by omega) (fun k a1 a2 w => by
            by_cases g : k = c
            · subst g
              exact κ3 w.2
            · exact hno k a1 (by omega) w)
          rw [← nI_1] at e
          exact e
        · refine gT_n 2 ?_
          exact ⟨rfl, Or.inl ⟨c, h1, by omega, κ2, κ3, rfl⟩⟩
  refine gT_n 2 ?_
  exact loop 1 (by omega) (by omega) (fun k a1 a2 => absurd a1 (by omega))
theorem cbN_no {t : zT} {z n : Nat} (h : ∀ c, 1 ≤ c → c < t.1 → ¬ (t.2.1 c = n ∧ zpa t c = z)) (h1 : 1 ≤ t.1) : cbN t z n (t.1 - 1) = 0 := by
  rcases Nat.eq_zero_or_pos (cbN t z n (t.1 - 1)) with q | q
  · exact q
  · obtain ⟨c, a1, a2, a3⟩ := (cbN_pos _).mp q
    exact absurd a3 (h c a1 (by omega))
theorem cbN_hit {t : zT} {z n c : Nat} (hz : zOK t) (h1 : 1 ≤ c) (hc : c < t.1) (e1 : t.2.1 c = n) (e2 : zpa t c = z) : cbN t z n (t.1 - 1) = if t.2.2.1 c = true then 24 else 8 := by
  have key : ∀ m, m < t.1 → cbN t z n m = if c ≤ m then (if t.2.2.1 c = true then 24 else 8) else 0 := by
    intro m
    induction m with
    | zero => intro _; rw [if_neg (by omega)]; rfl
    | succ m ih =>
      intro hm
      show cbN t z n m ||| _ = _
      rw [ih (by omega)]
      by_cases g : c = m + 1
      · subst g
        rw [if_neg (by omega), if_pos ⟨e1, e2⟩, if_pos (Nat.le_refl _), Nat.zero_or]
      · rw [if_neg (show ¬ (t.2.1 (m + 1) = n ∧ zpa t (m + 1) = z) from fun w => g (hz.2.2.2.2.2 c (m + 1) hc hm (e1.trans w.1.symm)))]
        rw [Nat.or_zero]
        by_cases g2 : c ≤ m
        · rw [if_pos g2, if_pos (show c ≤ m + 1 by omega)]
        · rw [if_neg g2, if_neg (show ¬ c ≤ m + 1 by omega)]
  have := hz.1
  rw [key _ (by omega), if_pos (by omega)]
theorem or_swap (a b c : Nat) : (a ||| b) ||| c = (a ||| c) ||| b := by
  rw [Nat.or_assoc, Nat.or_comm b c, ← Nat.or_assoc]
theorem m_sortsOf {d z n : Nat} {t : zT} {lm : zR} {I : Nat → Nat → Int32} {J : Nat → Nat → Int64} {P : Nat → Nat} (hz : zOK t) (hT : mT (I 171 2) (J 172) (I 173) t) (hr : rOK lm) (hR : mR (I 171 7) (J 174) (I 175) (I 176) lm) (hzz : z < t.1) (hn : vn n) : gTM (d + 7) 168 [.ref 171, .int (nI z), .long (lN (mo n))] (gST I J P) (fun r u => u = gST I J P ∧ r = some (.int (nI (fG t lm z n)))) := by
  have h4 := hz.2.1
  have hz1 := hz.1
  have hrq := hr.o
  have h24 := hr.1
  have loop : ∀ j, j ≤ lm.length → gT (d + 7) 168 63 [(6, .int (nI j)), (4, .int (nI ((abN t z n ||| cbN t z n (t.1 - 1)) ||| rbN t z lm n j))), (0, .ref 171), (1, .int (nI z)), (2, .long (lN (mo n)))] [] (0, 0) (gST I J P) (fun r u => u = gST I J P ∧ r = some (.int (nI (fG t lm z n)))) := by
    refine loopU lm.length (fun j hj ih => ?_)
    refine gT_n 4 ?_
    refine ⟨rfl, pk_le lm.length j (fun κ1 => ?_) (fun κ1 => ?_) (hR.1) (rfl) (by omega) (by omega)⟩
    · refine gT_n 2 ?_
      obtain rfl : j = lm.length := by omega
      exact ⟨rfl, ri (by unfold fG; rw [or_swap])⟩
    · refine gT_n 8 ?_
      refine ⟨rfl, rfl, (pk_in j 25 (by omega) (rfl)), pm_ne ((rg lm j).1) n (fun κ2 => ?_) (fun κ2 => ?_) (rdJ (rfl) (by omega) (hR.2 j (by omega)).1) (rfl) ((hrq j (by omega)).1) (hn)⟩
      · refine gT_n 3 ?_
        refine gT_k (L := [(4, .int (nI ((((abN t z n ||| cbN t z n (t.1 - 1)) ||| rbN t z lm n j)) ||| 0))), (6, .int (nI j)), (0, .ref 171), (1, .int (nI z)), (2, .long (lN (mo n)))]) ?_ ⟨(viI (pk_orE (n := (((abN t z n ||| cbN t z n (t.1 - 1)) ||| rbN t z lm n j))) (k := 0) (rfl) (rfl) (or_64 (or_64 abN_64 (cbN_64 _)) (rbN_64 hrq j (by omega))) (by omega))), rfl, rfl, rfl, rfl, trivial⟩ rfl
        refine gT_n 2 ?_
        have e := ih (j + 1) (by omega) (by omega)
        rw [show rbN t z lm n (j + 1) = rbN t z lm n j ||| _ from rfl, if_neg (fun w : (rg lm j).1 = n ∧ zof t (rg lm j).1 = z => κ2 w.1), ← Nat.or_assoc, ← nI_1 j] at e
        exact e
      · refine gT_n 3 ?_
        refine ⟨rfl, rfl, gTM.use (m_zoneIn hz hT hn) (Nat.le_refl _) (fun r u hq => ?_)⟩
        obtain ⟨rfl, rfl⟩ := hq  -- X12_zoneIn[R171, lN n]
        refine gT_n 2 ?_
        refine pk_ne ((zof t n)) z (fun κ3 => ?_) (fun κ3 => ?_) (rfl) (rfl) (by have := zof_lt hz n; omega) (by omega)
        · refine gT_n 3 ?_
          refine gT_k (L := [(4, .int (nI ((((abN t z n ||| cbN t z n (t.1 - 1)) ||| rbN t z lm n j)) ||| 0))), (6, .int (nI j)), (0, .ref 171), (1, .int (nI z)), (2, .long (lN (mo n)))]) ?_ ⟨(viI (pk_orE (n := (((abN t z n ||| cbN t z n (t.1 - 1)) ||| rbN t z lm n j))) (k := 0) (rfl) (rfl) (or_64 (or_64 abN_64 (cbN_64 _)) (rbN_64 hrq j (by omega))) (by omega))), rfl, rfl, rfl, rfl, trivial⟩ rfl
          refine gT_n 2 ?_
          have e := ih (j + 1) (by omega) (by omega)
          rw [show rbN t z lm n (j + 1) = rbN t z lm n j ||| _ from rfl, if_neg (fun w : (rg lm j).1 = n ∧ zof t (rg lm j).1 = z => κ3 (w.1 ▸ w.2)), ← Nat.or_assoc, ← nI_1 j] at e
          exact e
        · refine gT_n 9 ?_
          refine ⟨rfl, rfl, (pk_in j 25 (by omega) (rfl)), ?_⟩
          refine gT_k (L := [(4, .int (nI ((((abN t z n ||| cbN t z n (t.1 - 1)) ||| rbN t z lm n j)) ||| (2 ^ ((rg lm j).2.1))))), (6, .int (nI j)), (0, .ref 171), (1, .int (nI z)), (2, .long (lN (mo n)))]) ?_ ⟨(viI (pk_orE (n := (((abN t z n ||| cbN t z n (t.1 - 1)) ||| rbN t z lm n j))) (k := (2 ^ ((rg lm j).2.1))) (rfl) (pk_shE (n := ((rg lm j).2.1)) (rdI (rfl) (by omega) (hR.2 j (by omega)).2.1) ((hrq j (by omega)).2.1)) (or_64 (or_64 abN_64 (cbN_64 _)) (rbN_64 hrq j (by omega))) ((p2_64 ((hrq j (by omega)).2.1)).1))), rfl, rfl, rfl, rfl, trivial⟩ rfl
          refine gT_n 2 ?_
          have e := ih (j + 1) (by omega) (by omega)
          rw [show rbN t z lm n (j + 1) = rbN t z lm n j ||| _ from rfl, if_pos ⟨κ2, by rw [κ2]; exact κ3⟩, ← Nat.or_assoc, ← nI_1 j] at e
          exact e
  refine gT_n 7 ?_
  refine ⟨rfl, rfl, (pk_in z 4 (by omega) (rfl)), pm_ne ((t.2.1 z)) n (fun κ1 => ?_) (fun κ1 => ?_) (rdJ (rfl) (by omega) (hT.2.1 z (by omega))) (rfl) ((hz.2.2.2.2.1 z (by omega))) (hn)⟩
  · refine gT_n 6 ?_
    refine ⟨rfl, rfl, gTM.use (m_childAt hz hT hzz hn) (Nat.le_refl _) (fun r u hq => ?_)⟩
    obtain ⟨rfl, ⟨c, c1, c2, c3, c4, rfl⟩ | ⟨rfl, hno⟩⟩ := hq  -- X12_childAt[R171, nI z, lN n]
    · refine gT_n 5 ?_
      refine ⟨fun _ => ?_, fun c => absurd c (nI_neg (rfl) (by omega))⟩
      refine gT_n 5 ?_
      refine ⟨rfl, (Or.inr rfl), (pk_in c 4 (by omega) (rfl)), px_eq (X := (bI (t.2.2.1 c))) (Y := (0)) (rdI (rfl) (by omega) (hT.2.2.1 c (by omega))) (rfl) (fun κ2 => ?_) (fun κ2 => ?_)⟩
      · refine gT_n 5 ?_
        refine gT_k (loop 0 (by omega)) ⟨rfl, viI (by rw [show abN t z n = 0 from if_neg κ1, cbN_hit hz c1 c2 c3 c4, if_neg (show ¬ t.2.2.1 c = true by rw [bI_0 κ2]; decide), show rbN t z lm n 0 = 0 from rfl]; decide), rfl, rfl, rfl, trivial⟩ rfl
      · refine gT_n 6 ?_
        refine gT_k (loop 0 (by omega)) ⟨rfl, viI (by rw [show abN t z n = 0 from if_neg κ1, cbN_hit hz c1 c2 c3 c4, if_pos (bI_1 κ2), show rbN t z lm n 0 = 0 from rfl]; decide), rfl, rfl, rfl, trivial⟩ rfl
    · refine gT_n 5 ?_
      refine ⟨fun c => absurd (by decide) c, fun _ => ?_⟩
      refine gT_n 6 ?_
      refine gT_k (loop 0 (by omega)) ⟨rfl, viI (by rw [show abN t z n = 0 from if_neg κ1, cbN_no hno hz1, show rbN t z lm n 0 = 0 from rfl]; decide), rfl, rfl, rfl, trivial⟩ rfl
  · refine gT_n 7 ?_
    refine ⟨rfl, rfl, gTM.use (m_childAt hz hT hzz hn) (Nat.le_refl _) (fun r u hq => ?_)⟩
    obtain ⟨rfl, ⟨c, c1, c2, c3, c4, rfl⟩ | ⟨rfl, hno⟩⟩ := hq  -- X12_childAt[R171, nI z, lN n]
    · refine gT_n 5 ?_
      refine ⟨fun _ => ?_, fun c => absurd c (nI_neg (rfl) (by omega))⟩
      refine gT_n 5 ?_
      refine ⟨rfl, (Or.inr rfl), (pk_in c 4 (by omega) (rfl)), px_eq (X := (bI (t.2.2.1 c))) (Y := (0)) (rdI (rfl) (by omega) (hT.2.2.1 c (by omega))) (rfl) (fun κ3 => ?_) (fun κ3 => ?_)⟩
      · refine gT_n 5 ?_
        refine gT_k (loop 0 (by omega)) ⟨rfl, viI (by rw [show abN t z n = 32 from if_pos κ1, cbN_hit hz c1 c2 c3 c4, if_neg (show ¬ t.2.2.1 c = true by rw [bI_0 κ3]; decide), show rbN t z lm n 0 = 0 from rfl]; decide), rfl, rfl, rfl, trivial⟩ rfl
      · refine gT_n 6 ?_
        refine gT_k (loop 0 (by omega)) ⟨rfl, viI (by rw [show abN t z n = 32 from if_pos κ1, cbN_hit hz c1 c2 c3 c4, if_pos (bI_1 κ3), show rbN t z lm n 0 = 0 from rfl]; decide), rfl, rfl, rfl, trivial⟩ rfl
    · refine gT_n 5 ?_
      refine ⟨fun c => absurd (by decide) c, fun _ => ?_⟩
      refine gT_n 6 ?_
      refine gT_k (loop 0 (by omega)) ⟨rfl, viI (by rw [show abN t z n = 32 from if_pos κ1, cbN_no hno hz1, show rbN t z lm n 0 = 0 from rfl]; decide), rfl, rfl, rfl, trivial⟩ rfl
