/-! lose -/
def pup (P : Nat → Nat) (n c : Nat) : Nat → Nat := fun j => if j = n then c else P j
theorem gup_R {P : Nat → Nat} {n c : Nat} : gupR (gRf P) 146 n (some c) = gRf (pup P n c) := by
  funext a
  show (if a = 146 then va_up (gRf P 146) n (some c) else gRf P a) = _
  by_cases e : a = 146
  · subst e
    rw [if_pos rfl]
    funext k
    show (if k = n then some c else some (P k)) = some (if k = n then c else P k)
    by_cases g : k = n
    · rw [if_pos g, if_pos g]
    · rw [if_neg g, if_neg g]
  · rw [if_neg e]
    funext k
    show (match Nat.beq a 146 with | true => some (P k) | false => LR a k) = (match Nat.beq a 146 with | true => some (pup P n c k) | false => LR a k)
    rw [beq_ne e]
theorem gT_rf {d y pc n c : Nat} {L : gL} {st : List Value} {cu : Nat × Nat} {I : Nat → Nat → Int32} {J : Nat → Nat → Int64} {P : Nat → Nat} {Q : Option Value → gW → Prop} {T : Int32} (e : T = nI n) (hn : n < 2 ^ 31) (h : gT d y pc L st cu (gST I J (pup P n c)) Q) : gT d y pc L st cu ((gST I J P).1, (gST I J P).2.1, (gST I J P).2.2.1, gupR (gST I J P).2.2.2 146 T.toNatClampNeg (some c)) Q := by
  rw [e, nI_clamp hn]
  show gT d y pc L st cu (SH, I, J, gupR (gRf P) 146 n (some c)) Q
  rw [gup_R]; exact h
theorem shf_pup {P : Nat → Nat} {r k : Nat} (h : r ≤ k) : pup (shf P r k) k (P (k + 1)) = shf P r (k + 1) := by
  funext j
  show (if j = k then P (k + 1) else if r ≤ j ∧ j < k then P (j + 1) else P j) = if r ≤ j ∧ j < k + 1 then P (j + 1) else P j
  by_cases c : j = k
  · subst c
    rw [if_pos rfl, if_pos ⟨h, by omega⟩]
  · rw [if_neg c]
    by_cases c2 : r ≤ j ∧ j < k
    · rw [if_pos c2, if_pos ⟨c2.1, by omega⟩]
    · rw [if_neg c2, if_neg (by omega)]
def lsg (r m j : Nat) : Nat := if j = m then r else if r ≤ j ∧ j < m then j + 1 else j
theorem lsg_P {P : Nat → Nat} {r m : Nat} : pup (shf P r m) m (P r) = fun j => P (lsg r m j) := by
  funext j
  show (if j = m then P r else if r ≤ j ∧ j < m then P (j + 1) else P j) = P (lsg r m j)
  unfold lsg
  by_cases c : j = m
  · rw [if_pos c, if_pos c]
  · rw [if_neg c, if_neg c]
    by_cases c2 : r ≤ j ∧ j < m
    · rw [if_pos c2, if_pos c2]
    · rw [if_neg c2, if_neg c2]
theorem lsg_lt {r m j : Nat} (hm : m < 10) (hr : r ≤ m) (hj : j < 10) : lsg r m j < 10 := by
  unfold lsg
  split
  · omega
  · split <;> omega
theorem lsg_inj {r m i j : Nat} (hr : r ≤ m) (h : lsg r m i = lsg r m j) : i = j := by
  unfold lsg at h
  split at h <;> split at h <;> (try split at h) <;> (try split at h) <;> omega
theorem lsg_pP {P : Nat → Nat} {r m : Nat} (hP : pP P) (hm : m < 10) (hr : r ≤ m) : pP (fun j => P (lsg r m j)) := by
  obtain ⟨p, h1, h2⟩ := hP
  exact ⟨fun j => p (lsg r m j), fun k hk => h1 _ (lsg_lt hm hr hk), fun i j hi hj e => lsg_inj hr (h2 _ _ (lsg_lt hm hr hi) (lsg_lt hm hr hj) e)⟩
def setL (s : zS) (p : zP) (k : Nat) : zS := (s.1, s.2.1, s.2.2.1, s.2.2.2.1, s.2.2.2.2.1, some (p.1.eraseIdx k, p.2), s.2.2.2.2.2.2)
theorem len_er {l : List zI} {k : Nat} (h : k < l.length) : (l.eraseIdx k).length = l.length - 1 := List.length_eraseIdx_of_lt h
theorem ig_er {l : List zI} {k j : Nat} : ig (l.eraseIdx k) j = if j < k then ig l j else ig l (j + 1) := by
  unfold ig
  rw [List.getD_eq_getElem?_getD, List.getElem?_eraseIdx]
  split
  · rw [List.getD_eq_getElem?_getD]
  · rw [List.getD_eq_getElem?_getD]
theorem setL_ok {s : zS} {p : zP} {k : Nat} (h : sOK s) (hp : s.2.2.2.2.2.1 = some p) (hk : k < p.1.length) : sOK (setL s p k) := by
  obtain ⟨h1, h2, h3, h4, h5, h6⟩ := h
  refine ⟨h1, h2, h3, h4, fun r hr => ?_, h6⟩
  cases hr
  obtain ⟨a, b, c⟩ := h5 p hp
  exact ⟨by rw [len_er hk]; omega, fun x hx => b x (List.mem_of_mem_eraseIdx hx), c⟩
theorem RC_lose {s : zS} {I : Nat → Nat → Int32} {J : Nat → Nat → Int64} {P : Nat → Nat} {p : zP} {k : Nat} (hO : sOK s) (hC : RC s I J P) (hp : s.2.2.2.2.2.1 = some p) (hk : k < p.1.length) : RC (setL s p k) (gupI I 145 1 (nI (p.1.length - 1))) J (fun j => P (lsg k (p.1.length - 1) j)) := by
  have h10 := (hO.2.2.2.2.1 p hp).1
  obtain ⟨kTp, kF, kT, kW, kN, kP, kC, kI0, kI1, kB, kPP⟩ := hC
  have e : I 145 2 = bI s.2.2.2.2.2.1.isSome := kP.1
  rw [hp] at e
  refine ⟨kTp, kF, kT, kW, kN, ⟨e, fun r hr => ?_⟩, kC, kI0, kI1, kB, lsg_pP kPP (by omega) (by omega)⟩
  cases hr
  have h := kP.2 p hp
  refine ⟨?_, h.2.1, h.2.2.1, h.2.2.2.1, h.2.2.2.2.1, fun k' hk' j hj e' => ?_⟩
  · show nI (p.1.length - 1) = _
    rw [len_er hk]
  · have hk2 : k' < p.1.length - 1 := by rw [len_er hk] at hk'; exact hk'
    have h1 := iF_at (I := gupI I 145 1 (nI (p.1.length - 1))) (J := J) hj
    have h2 := iF_at (I := I) (J := J) hj
    have hr1 : gupI I 145 1 (nI (p.1.length - 1)) (147 + 2 * j) = I (147 + 2 * j) := if_neg (by omega)
    have hr2 : gupI I 145 1 (nI (p.1.length - 1)) (147 + 2 * j + 1) = I (147 + 2 * j + 1) := if_neg (by omega)
    rw [h1.1, h1.2.1, hr1, hr2, ← h2.1, ← h2.2.1]
    show cI _ _ _ (ig (p.1.eraseIdx k) k')
    rw [ig_er]
    have e2 : P (lsg k (p.1.length - 1) k') = 147 + 2 * j := e'
    unfold lsg at e2
    rw [if_neg (by omega)] at e2
    by_cases c : k' < k
    · rw [if_neg (by omega)] at e2
      rw [if_pos c]
      exact h.2.2.2.2.2 k' (by omega) j hj e2
    · rw [if_pos ⟨by omega, hk2⟩] at e2
      rw [if_neg c]
      exact h.2.2.2.2.2 (k' + 1) (by omega) j hj e2
theorem c_drop {d k n : Nat} {I : Nat → Nat → Int32} {J : Nat → Nat → Int64} {P : Nat → Nat} (hn : I 145 1 = nI n) (hk : k < n) (h10 : n ≤ 10) (hP : pP P) : gTM d 59 [.ref 145, .int (nI k)] (gST I J P) (fun r u => r = none ∧ u = gST (gupI I 145 1 (nI (n - 1))) J (fun j => P (lsg k (n - 1) j))) := by
  have hcell : ∀ j, j < 10 → ∀ {P' : Nat → Nat}, iCell P' (P j) := fun j hj P' => by
    obtain ⟨pm, h1, -⟩ := hP
    obtain ⟨a, b⟩ := h1 j hj
    rw [b]; exact iCell_at a
  have loop : ∀ i, i ≤ n - 1 → k ≤ i → gT d 59 32 [(3, .int (nI i)), (2, .ref (P k)), (0, .ref 145), (1, .int (nI k))] [] (0, 0) (gST (gupI I 145 1 (nI (n - 1))) J (shf P k i)) (fun r u => r = none ∧ u = gST (gupI I 145 1 (nI (n - 1))) J (fun j => P (lsg k (n - 1) j))) := by
    refine loopU (n - 1) (fun i hi ih hki => ?_)
    refine gT_n 4 ?_
    refine ⟨rfl, pk_le ((n - 1)) i (fun κ1 => ?_) (fun κ1 => ?_) (rfl) (rfl) (by omega) (by omega)⟩
    · refine gT_n 6 ?_
      refine ⟨rfl, rfl, ⟨5, 1, rfl, (hcell k (by omega)).ob, rfl⟩, (pk_in ((n - 1)) 10 (by omega) (rfl)), ?_⟩
      refine gT_rf (n := ((n - 1))) (rfl) (by omega) ?_
      refine gT_n 1 ?_
      refine ⟨rfl, ?_⟩
      obtain rfl : i = n - 1 := by omega
      exact ⟨rfl, by rw [lsg_P]⟩
    · refine gT_n 9 ?_
      refine ⟨rfl, rfl, rfl, (pk_in (i + 1) 10 (by omega) (pk_addE (n := i) (k := 1) (rfl) (rfl))), ?_⟩
      refine gT_top (aa_ref (b := P (i + 1)) (pk_addE (n := i) (k := 1) (rfl) (rfl)) (by omega) (congrArg some shf_at)) ?_
      refine gT_n 1 ?_
      refine ⟨⟨5, 1, rfl, (hcell (i + 1) (by omega)).ob, rfl⟩, (pk_in i 10 (by omega) (rfl)), ?_⟩
      refine gT_rf (n := i) (rfl) (by omega) ?_
      refine gT_n 2 ?_
      rw [shf_pup (by omega)]
      have e := ih (i + 1) (by omega) (by omega) (by omega)
      rw [← nI_1] at e
      exact e
  refine gT_n 2 ?_
  refine ⟨fun c => absurd c (nI_pos (by omega)), fun _ => ?_⟩
  refine gT_n 4 ?_
  refine ⟨rfl, pk_lt k n (fun κ1 => ?_) (fun κ1 => ?_) (rfl) (hn) (by omega) (by omega)⟩
  · refine gT_n 4 ?_
    refine ⟨rfl, rfl, (pk_in k 10 (by omega) (rfl)), ?_⟩
    refine gT_top (aa_ref (b := P k) (rfl) (by omega) rfl) ?_
    refine gT_n 9 ?_
    refine ⟨rfl, rfl, ?_⟩
    have e := loop k (by omega) (Nat.le_refl _)
    rw [shf_0] at e
    exact gT_m (by rw [show nI (n - 1) = I 145 1 - 1 from (pk_subE (n := n) (k := 1) hn rfl (by omega)).symm]; rfl) e
  · refine gT_n 1 ?_
    refine ⟨rfl, ?_⟩
    exact absurd hk (by omega)
theorem o_lose_c {d : Nat} {s : zS} {I : Nat → Nat → Int32} {J : Nat → Nat → Int64} {P : Nat → Nat} {i : Int32} (hO : sOK s) (hC : RC s I J P) (hM : RM s I J) : gTM (d + 14) 132 [.ref 0, .int i] (gST I J P) (pC s (fIt s i True (fun p k x s' => x = nI (p.1.length - 1) ∧ s' = setL s p k))) := by
  obtain ⟨tp, fn, t, W, nm, pr, ch, i0, i1⟩ := s
  have hO0 := hO
  have hC0 := hC
  have hM0 := hM
  obtain ⟨oTp, oT, oW, oN, oP, oI0, oI1⟩ := hO
  obtain ⟨kTp, kF, kT, kW, kN, kP, kC, kI0, kI1, kB, kPP⟩ := hC
  obtain ⟨jTp, jF, jT, jSp, jW, jN, jP, jC, jI0, jI1, jB, jL⟩ := hM
  dsimp only at oTp oT oW oN oP oI0 oI1 kTp kF kT kW kN kP kC kI0 kI1 jTp jF jT jSp jW jN jP jC jI0 jI1
  try dsimp only
  by_cases hh : ¬ i < 0 ∧ True
  · cases pr with
    | none =>
      refine gT_n 2 ?_
      refine px_ge (X := i) (Y := (0)) (rfl) (rfl) (fun κ1 => ?_) (fun κ1 => ?_)
      · refine gT_n 4 ?_
        refine ⟨rfl, rfl, rfl, ?_⟩
        refine gT_n 3 ?_
        refine ⟨rfl, fun c => absurd c (kpT (p := fun z : Int32 => ¬ (¬ z = 0)) (show _ = (0 : Int32) from kP.1) (by decide)), fun _ => ?_⟩
        refine gT_n 2 ?_
        show gT _ 132 14 _ _ _ _ _
        refine gT_n 3 ?_
        refine ⟨fun c => absurd c (by decide), fun _ => ?_⟩
        refine gT_n 2 ?_
        exact ⟨_, _, I, J, P, rfl, rfl, ⟨(pif_pos hh).mpr ⟨rfl, rfl⟩, hO0⟩, hC0, hM0⟩
      · refine gT_n 2 ?_
        exact absurd (Int32.not_le.mp κ1) hh.1
    | some p =>
      obtain ⟨h10, hoI, -⟩ := oP p rfl
      by_cases hj : inZ p.1.length i
      · obtain ⟨k, hk, rfl⟩ := hj
        obtain ⟨jj, hjj, eP, hb, hI⟩ := cP_at (kP.2 p rfl) kPP hk h10
        have hbb : 147 ≤ P k ∧ P k ≤ 166 := by omega
        have hbb1 : 147 ≤ P k + 1 ∧ P k + 1 ≤ 166 := by omega
        have hI2 : cI (iMI I I (P k)) (iMI I I (P k + 1)) (iMJ J J (P k)) (ig p.1 k) := by rw [iM_self, iJ_self]; exact hI
        have hq := hoI _ (ig_mem hk)
        have key : gTM (d + 14) 132 [.ref 0, .int (nI k)] (gST I J P) (pC (tp, fn, t, W, nm, some p, ch, i0, i1) (fIt (tp, fn, t, W, nm, some p, ch, i0, i1) (nI k) True (fun p k x s' => x = nI (p.1.length - 1) ∧ s' = setL (tp, fn, t, W, nm, some p, ch, i0, i1) p k))) := by
          refine gT_n 2 ?_
          refine ⟨fun _ => ?_, fun c => absurd (nI_pos' (by omega)) c⟩
          refine gT_n 4 ?_
          refine ⟨rfl, rfl, rfl, ?_⟩
          refine gT_n 3 ?_
          refine ⟨rfl, fun _ => ?_, fun c => absurd c (kpT (p := fun z : Int32 => ¬ z = 0) (show _ = (1 : Int32) from kP.1) (by decide))⟩
          refine gT_n 2 ?_
          refine ⟨fun c => absurd c (nI_pos (by omega)), fun _ => ?_⟩
          refine gT_n 4 ?_
          refine ⟨rfl, pk_le p.1.length k (fun κ1 => ?_) (fun κ1 => ?_) ((kP.2 p rfl).1) (rfl) (by omega) (by omega)⟩
          · refine gT_n 2 ?_
            show gT _ 132 14 _ _ _ _ _
            refine gT_n 3 ?_
            refine ⟨fun c => absurd c (by decide), fun _ => ?_⟩
            refine gT_n 2 ?_
            exact absurd hk (by omega)
          · refine gT_n 3 ?_
            show gT _ 132 14 _ _ _ _ _
            refine gT_n 3 ?_
            refine ⟨fun _ => ?_, fun c => absurd (by decide) c⟩
            refine gT_n 4 ?_
            refine ⟨rfl, rfl, rfl, gTM.use (c_drop (kP.2 p rfl).1 hk h10 kPP) (Nat.le_refl _) (fun r u hq => ?_)⟩
            obtain ⟨rfl, rfl⟩ := hq  -- X5_dropItem[R145, nI k]
            refine gT_n 4 ?_
            refine ⟨rfl, rfl, ?_⟩
            exact ⟨_, setL (tp, fn, t, W, nm, some p, ch, i0, i1) p k, _, J, _, rfl, rfl, ⟨(pif_pos ⟨nI_pos (by omega), trivial⟩).mpr ((pif_pos ⟨k, hk, rfl⟩).mpr ⟨k, hk, rfl, rfl, rfl⟩), setL_ok hO0 rfl hk⟩, RC_lose hO0 hC0 rfl hk, hM0⟩
        exact key
      · refine gT_n 2 ?_
        refine px_ge (X := i) (Y := (0)) (rfl) (rfl) (fun κ1 => ?_) (fun κ1 => ?_)
        · refine gT_n 4 ?_
          refine ⟨rfl, rfl, rfl, ?_⟩
          refine gT_n 3 ?_
          refine ⟨rfl, fun _ => ?_, fun c => absurd c (kpT (p := fun z : Int32 => ¬ z = 0) (show _ = (1 : Int32) from kP.1) (by decide))⟩
          refine gT_n 2 ?_
          refine px_lt (X := i) (Y := (0)) (rfl) (rfl) (fun κ2 => ?_) (fun κ2 => ?_)
          · refine gT_n 2 ?_
            show gT _ 132 14 _ _ _ _ _
            refine gT_n 3 ?_
            refine ⟨fun c => absurd c (by decide), fun _ => ?_⟩
            refine gT_n 2 ?_
            exact ⟨_, _, I, J, P, rfl, rfl, ⟨(pif_pos hh).mpr ((pif_neg hj).mpr ⟨rfl, rfl⟩), hO0⟩, hC0, hM0⟩
          · refine gT_n 4 ?_
            refine ⟨rfl, px_ge (X := i) (Y := nI p.1.length) (rfl) ((kP.2 p rfl).1) (fun κ3 => ?_) (fun κ3 => ?_)⟩
            · refine gT_n 2 ?_
              show gT _ 132 14 _ _ _ _ _
              refine gT_n 3 ?_
              refine ⟨fun c => absurd c (by decide), fun _ => ?_⟩
              refine gT_n 2 ?_
              exact ⟨_, _, I, J, P, rfl, rfl, ⟨(pif_pos hh).mpr ((pif_neg hj).mpr ⟨rfl, rfl⟩), hO0⟩, hC0, hM0⟩
            · refine gT_n 3 ?_
              show gT _ 132 14 _ _ _ _ _
              refine gT_n 3 ?_
              refine ⟨fun _ => ?_, fun c => absurd (by decide) c⟩
              exact absurd (inZ_of (by omega) hh.1 (by first | exact κ3 | exact Int32.not_le.mpr κ3)) hj
        · refine gT_n 2 ?_
          exact absurd (Int32.not_le.mp κ1) hh.1
  · refine gT_n 2 ?_
    refine px_ge (X := i) (Y := (0)) (rfl) (rfl) (fun κ1 => ?_) (fun κ1 => ?_)
    · exact absurd ⟨Int32.not_lt.mpr κ1, trivial⟩ hh
    · refine gT_n 2 ?_
      exact ⟨_, _, I, J, P, rfl, rfl, ⟨(pif_neg hh).mpr ⟨rfl, rfl⟩, hO0⟩, hC0, hM0⟩
def sh3 (f : Nat → Int32) (r k : Nat) : Nat → Int32 := fun j => if 3 * r ≤ j ∧ j < 3 * k then f (j + 3) else f j
theorem sh3_0 {f : Nat → Int32} {r : Nat} : sh3 f r r = f := by
  funext j
  exact if_neg (by omega)
theorem sh3_upd {f : Nat → Int32} {r k : Nat} (h : r ≤ k) : upd (upd (upd (sh3 f r k) (3 * k) (f (3 * k + 3))) (3 * k + 1) (f (3 * k + 4))) (3 * k + 2) (f (3 * k + 5)) = sh3 f r (k + 1) := by
  funext j
  show (if j = 3 * k + 2 then f (3 * k + 5) else if j = 3 * k + 1 then f (3 * k + 4) else if j = 3 * k then f (3 * k + 3) else if 3 * r ≤ j ∧ j < 3 * k then f (j + 3) else f j) = if 3 * r ≤ j ∧ j < 3 * (k + 1) then f (j + 3) else f j
  by_cases c2 : j = 3 * k + 2
  · rw [if_pos c2, if_pos (by omega), c2]
  · rw [if_neg c2]
    by_cases c1 : j = 3 * k + 1
    · rw [if_pos c1, if_pos (by omega), c1]
    · rw [if_neg c1]
      by_cases c0 : j = 3 * k
      · rw [if_pos c0, if_pos (by omega), c0]
      · rw [if_neg c0]
        by_cases c : 3 * r ≤ j ∧ j < 3 * k
        · rw [if_pos c, if_pos (by omega)]
        · rw [if_neg c, if_neg (by omega)]
def lMI (I : Nat → Nat → Int32) (r k : Nat) : Nat → Nat → Int32 := fun a => cond (Nat.beq a 193) (shf (I 193) r k) (cond (Nat.beq a 194) (shf (I 194) r k) (cond (Nat.beq a 197) (shf (I 197) r k) (cond (Nat.beq a 199) (shf (I 199) r k) (cond (Nat.beq a 200) (shf (I 200) r k) (cond (Nat.beq a 198) (sh3 (I 198) r k) (I a))))))
def lMJ (J : Nat → Nat → Int64) (r k : Nat) : Nat → Nat → Int64 := fun a => cond (Nat.beq a 195) (shf (J 195) r k) (cond (Nat.beq a 196) (shf (J 196) r k) (J a))
theorem lMI_0 {I : Nat → Nat → Int32} {r : Nat} : lMI I r r = I := by
  funext a
  unfold lMI
  rw [shf_0, shf_0, shf_0, shf_0, shf_0, sh3_0]
  by_cases h1 : a = 193
  · subst h1; rfl
  · by_cases h2 : a = 194
    · subst h2; rfl
    · by_cases h3 : a = 197
      · subst h3; rfl
      · by_cases h4 : a = 199
        · subst h4; rfl
        · by_cases h5 : a = 200
          · subst h5; rfl
          · by_cases h6 : a = 198
            · subst h6; rfl
            · rw [beq_ne h1, beq_ne h2, beq_ne h3, beq_ne h4, beq_ne h5, beq_ne h6]; rfl
theorem lMJ_0 {J : Nat → Nat → Int64} {r : Nat} : lMJ J r r = J := by
  funext a
  unfold lMJ
  rw [shf_0, shf_0]
  by_cases h1 : a = 195
  · subst h1; rfl
  · by_cases h2 : a = 196
    · subst h2; rfl
    · rw [beq_ne h1, beq_ne h2]; rfl
theorem lMI_s {I : Nat → Nat → Int32} {r k : Nat} (h : r ≤ k) : gupI (gupI (gupI (gupI (gupI (gupI (gupI (gupI (lMI I r k) 193 k (I 193 (k + 1))) 194 k (I 194 (k + 1))) 197 k (I 197 (k + 1))) 199 k (I 199 (k + 1))) 200 k (I 200 (k + 1))) 198 (3 * k) (I 198 (3 * k + 3))) 198 (3 * k + 1) (I 198 (3 * k + 4))) 198 (3 * k + 2) (I 198 (3 * k + 5)) = lMI I r (k + 1) := by
  funext a
  by_cases h1 : a = 193
  · subst h1; exact shf_upd h
  · by_cases h2 : a = 194
    · subst h2; exact shf_upd h
    · by_cases h3 : a = 197
      · subst h3; exact shf_upd h
      · by_cases h4 : a = 199
        · subst h4; exact shf_upd h
        · by_cases h5 : a = 200
          · subst h5; exact shf_upd h
          · by_cases h6 : a = 198
            · subst h6; exact sh3_upd h
            · rw [gupI_n h6, gupI_n h6, gupI_n h6, gupI_n h5, gupI_n h4, gupI_n h3, gupI_n h2, gupI_n h1]
              unfold lMI
              rw [beq_ne h1, beq_ne h2, beq_ne h3, beq_ne h4, beq_ne h5, beq_ne h6]; rfl
theorem lMJ_s {J : Nat → Nat → Int64} {r k : Nat} (h : r ≤ k) : gupL (gupL (lMJ J r k) 195 k (J 195 (k + 1))) 196 k (J 196 (k + 1)) = lMJ J r (k + 1) := by
  funext a
  by_cases h1 : a = 195
  · subst h1; exact shf_updL h
  · by_cases h2 : a = 196
    · subst h2; exact shf_updL h
    · rw [gupL_n h2, gupL_n h1]
      unfold lMJ
      rw [beq_ne h1, beq_ne h2]; rfl
theorem m_copies {d r k : Nat} {I : Nat → Nat → Int32} {J : Nat → Nat → Int64} {P : Nat → Nat} (h : r ≤ k) (hk : k + 1 < 10) : gTM d 233 [.ref 171, .int (nI (k + 1)), .int (nI k)] (gST (lMI I r k) (lMJ J r k) P) (fun x u => x = none ∧ u = gST (lMI I r (k + 1)) (lMJ J r (k + 1)) P) := by
  refine gT_n 8 ?_
  refine ⟨rfl, rfl, rfl, (pk_in ((k + 1)) 10 (by omega) (rfl)), rfl, (pk_in k 10 (by omega) (rfl)), ?_⟩
  refine gT_iv (n := k) (X := (I 193 (k + 1))) (rfl) (by omega) ((rdI (rfl) (by omega) shf_at)) ?_
  refine gT_n 8 ?_
  refine ⟨rfl, rfl, rfl, (pk_in ((k + 1)) 10 (by omega) (rfl)), rfl, (pk_in k 10 (by omega) (rfl)), ?_⟩
  refine gT_iv (n := k) (X := (I 194 (k + 1))) (rfl) (by omega) ((rdI (rfl) (by omega) shf_at)) ?_
  refine gT_n 8 ?_
  refine ⟨rfl, rfl, rfl, (pk_in ((k + 1)) 10 (by omega) (rfl)), rfl, (pk_in k 10 (by omega) (rfl)), ?_⟩
  refine gT_ivL (n := k) (X := (J 195 (k + 1))) (rfl) (by omega) ((rdJ (rfl) (by omega) shf_at)) ?_
  refine gT_n 8 ?_
  refine ⟨rfl, rfl, rfl, (pk_in ((k + 1)) 10 (by omega) (rfl)), rfl, (pk_in k 10 (by omega) (rfl)), ?_⟩
  refine gT_ivL (n := k) (X := (J 196 (k + 1))) (rfl) (by omega) ((rdJ (rfl) (by omega) shf_at)) ?_
  refine gT_n 8 ?_
  refine ⟨rfl, rfl, rfl, (pk_in ((k + 1)) 10 (by omega) (rfl)), rfl, (pk_in k 10 (by omega) (rfl)), ?_⟩
  refine gT_iv (n := k) (X := (I 197 (k + 1))) (rfl) (by omega) ((rdI (rfl) (by omega) shf_at)) ?_
  refine gT_n 8 ?_
  refine ⟨rfl, rfl, rfl, (pk_in ((k + 1)) 10 (by omega) (rfl)), rfl, (pk_in k 10 (by omega) (rfl)), ?_⟩
  refine gT_iv (n := k) (X := (I 199 (k + 1))) (rfl) (by omega) ((rdI (rfl) (by omega) shf_at)) ?_
  refine gT_n 8 ?_
  refine ⟨rfl, rfl, rfl, (pk_in ((k + 1)) 10 (by omega) (rfl)), rfl, (pk_in k 10 (by omega) (rfl)), ?_⟩
  refine gT_iv (n := k) (X := (I 200 (k + 1))) (rfl) (by omega) ((rdI (rfl) (by omega) shf_at)) ?_
  refine gT_m (w' := gST (gupI (gupI (gupI (gupI (gupI (lMI I r k) 193 k (I 193 (k + 1))) 194 k (I 194 (k + 1))) 197 k (I 197 (k + 1))) 199 k (I 199 (k + 1))) 200 k (I 200 (k + 1))) (gupL (gupL (lMJ J r k) 195 k (J 195 (k + 1))) 196 k (J 196 (k + 1))) P) rfl ?_
  rw [lMJ_s h]
  refine gT_n 5 ?_
  refine ⟨fun c => absurd c (by decide), fun _ => ?_⟩
  refine gT_n 16 ?_
  refine ⟨rfl, rfl, rfl, (pk_in ((3 * ((k + 1))) + 0) 30 (by omega) (pk_addE (n := (3 * ((k + 1)))) (k := 0) (pk_mulE (n := 3) (k := ((k + 1))) (rfl) (rfl)) (rfl))), rfl, (pk_in ((3 * k) + 0) 30 (by omega) (pk_addE (n := (3 * k)) (k := 0) (pk_mulE (n := 3) (k := k) (rfl) (rfl)) (rfl))), ?_⟩
  refine gT_iv (n := ((3 * k) + 0)) (X := (I 198 (3 * k + 3))) (pk_addE (n := (3 * k)) (k := 0) (pk_mulE (n := 3) (k := k) (rfl) (rfl)) (rfl)) (by omega) ((rdI (Eq.trans (pk_addE (n := (3 * ((k + 1)))) (k := 0) (pk_mulE (n := 3) (k := ((k + 1))) (rfl) (rfl)) (rfl)) (congrArg nI (show ((3 * ((k + 1))) + 0) = 3 * k + 3 by omega))) (by omega) (if_neg (by omega)))) ?_
  refine gT_n 5 ?_
  refine ⟨fun c => absurd c (by decide), fun _ => ?_⟩
  refine gT_n 16 ?_
  refine ⟨rfl, rfl, rfl, (pk_in ((3 * ((k + 1))) + 1) 30 (by omega) (pk_addE (n := (3 * ((k + 1)))) (k := 1) (pk_mulE (n := 3) (k := ((k + 1))) (rfl) (rfl)) (rfl))), rfl, (pk_in ((3 * k) + 1) 30 (by omega) (pk_addE (n := (3 * k)) (k := 1) (pk_mulE (n := 3) (k := k) (rfl) (rfl)) (rfl))), ?_⟩
  refine gT_iv (n := ((3 * k) + 1)) (X := (I 198 (3 * k + 4))) (pk_addE (n := (3 * k)) (k := 1) (pk_mulE (n := 3) (k := k) (rfl) (rfl)) (rfl)) (by omega) ((rdI (Eq.trans (pk_addE (n := (3 * ((k + 1)))) (k := 1) (pk_mulE (n := 3) (k := ((k + 1))) (rfl) (rfl)) (rfl)) (congrArg nI (show ((3 * ((k + 1))) + 1) = 3 * k + 4 by omega))) (by omega) ((if_neg (by omega)).trans (if_neg (by omega))))) ?_
  refine gT_n 5 ?_
  refine ⟨fun c => absurd c (by decide), fun _ => ?_⟩
  refine gT_n 16 ?_
  refine ⟨rfl, rfl, rfl, (pk_in ((3 * ((k + 1))) + 2) 30 (by omega) (pk_addE (n := (3 * ((k + 1)))) (k := 2) (pk_mulE (n := 3) (k := ((k + 1))) (rfl) (rfl)) (rfl))), rfl, (pk_in ((3 * k) + 2) 30 (by omega) (pk_addE (n := (3 * k)) (k := 2) (pk_mulE (n := 3) (k := k) (rfl) (rfl)) (rfl))), ?_⟩
  refine gT_iv (n := ((3 * k) + 2)) (X := (I 198 (3 * k + 5))) (pk_addE (n := (3 * k)) (k := 2) (pk_mulE (n := 3) (k := k) (rfl) (rfl)) (rfl)) (by omega) ((rdI (Eq.trans (pk_addE (n := (3 * ((k + 1)))) (k := 2) (pk_mulE (n := 3) (k := ((k + 1))) (rfl) (rfl)) (rfl)) (congrArg nI (show ((3 * ((k + 1))) + 2) = 3 * k + 5 by omega))) (by omega) ((if_neg (by omega)).trans ((if_neg (by omega)).trans (if_neg (by omega)))))) ?_
  refine gT_n 5 ?_
  refine ⟨fun _ => ?_, fun c => absurd (by decide) c⟩
  refine gT_n 1 ?_
  refine ⟨rfl, ?_⟩
  exact ⟨rfl, by rw [← lMI_s h]; rfl⟩
theorem shf_lo {α : Type} {f : Nat → α} {r k j : Nat} (h : j < r) : shf f r k j = f j := if_neg (by omega)
theorem shf_hi {α : Type} {f : Nat → α} {r k j : Nat} (h : r ≤ j) (h2 : j < k) : shf f r k j = f (j + 1) := if_pos ⟨h, h2⟩
theorem sh3_lo {f : Nat → Int32} {r k j : Nat} (h : j < 3 * r) : sh3 f r k j = f j := if_neg (by omega)
theorem sh3_hi {f : Nat → Int32} {r k j : Nat} (h : 3 * r ≤ j) (h2 : j < 3 * k) : sh3 f r k j = f (j + 3) := if_pos ⟨h, h2⟩
theorem mP_lose {ct ck so : Int32} {nm : Int64} {kd zn os nu sg mk : Nat → Int32} {jo jx : Nat → Int64} {pr : zP} {k : Nat} (h : mP ct ck so nm kd zn os nu sg mk jo jx pr) (hk : k < pr.1.length) : mP (nI (pr.1.length - 1)) ck so nm (shf kd k (pr.1.length - 1)) (shf zn k (pr.1.length - 1)) (shf os k (pr.1.length - 1)) (sh3 nu k (pr.1.length - 1)) (shf sg k (pr.1.length - 1)) (shf mk k (pr.1.length - 1)) (shf jo k (pr.1.length - 1)) (shf jx k (pr.1.length - 1)) (pr.1.eraseIdx k, pr.2) := by
  refine ⟨by rw [len_er hk], h.2.1, h.2.2.1, h.2.2.2.1, fun j hj => ?_⟩
  have hj2 : j < pr.1.length - 1 := by rw [len_er hk] at hj; exact hj
  show mI j _ _ _ _ _ _ _ _ (ig (pr.1.eraseIdx k) j)
  rw [ig_er]
  unfold mI
  by_cases c : j < k
  · rw [if_pos c, shf_lo c, shf_lo c, shf_lo c, shf_lo c, shf_lo c, shf_lo c, shf_lo c, sh3_lo (by omega), sh3_lo (by omega), sh3_lo (by omega)]
    exact h.2.2.2.2 j (by omega)
  · have g : k ≤ j := by omega
    rw [if_neg c, shf_hi g hj2, shf_hi g hj2, shf_hi g hj2, shf_hi g hj2, shf_hi g hj2, shf_hi g hj2, shf_hi g hj2, sh3_hi (by omega) (by omega), sh3_hi (by omega) (by omega), sh3_hi (by omega) (by omega)]
    have e := h.2.2.2.2 (j + 1) (by omega)
    unfold mI at e
    rw [show 3 * j + 3 = 3 * (j + 1) by omega, show 3 * j + 1 + 3 = 3 * (j + 1) + 1 by omega, show 3 * j + 2 + 3 = 3 * (j + 1) + 2 by omega]
    exact e
theorem mP_cn {ct ct2 ck so : Int32} {nm : Int64} {kd zn os nu sg mk : Nat → Int32} {jo jx : Nat → Int64} {pr : zP} (e : ct2 = ct) (h : mP ct ck so nm kd zn os nu sg mk jo jx pr) : mP ct2 ck so nm kd zn os nu sg mk jo jx pr := e ▸ h
theorem o_lose_m {d : Nat} {s s' : zS} {x : Int32} {I : Nat → Nat → Int32} {J : Nat → Nat → Int64} {P : Nat → Nat} {i : Int32} (hO : sOK s) (hS : (fIt s i True (fun p k x s' => x = nI (p.1.length - 1) ∧ s' = setL s p k)) x s') (hC : RC s' I J P) (hM : RM s I J) : gTM (d + 14) 234 [.ref 171, .int i] (gST I J P) (pM x s') := by
  obtain ⟨tp, fn, t, W, nm, pr, ch, i0, i1⟩ := s
  have hO0 := hO
  have hM0 := hM
  obtain ⟨oTp, oT, oW, oN, oP, oI0, oI1⟩ := hO
  obtain ⟨jTp, jF, jT, jSp, jW, jN, jP, jC, jI0, jI1, jB, jL⟩ := hM
  dsimp only at oTp oT oW oN oP oI0 oI1 jTp jF jT jSp jW jN jP jC jI0 jI1
  try dsimp only at hS
  by_cases hh : ¬ i < 0 ∧ True
  · replace hS := (pif_pos hh).mp hS
    cases pr with
    | none =>
      obtain ⟨rfl, rfl⟩ := hS
      refine gT_n 4 ?_
      refine ⟨rfl, rfl, ?_⟩
      refine gT_n 2 ?_
      refine px_lt (X := i) (Y := (0)) (rfl) (rfl) (fun κ1 => ?_) (fun κ1 => ?_)
      · refine gT_n 3 ?_
        show gT _ 234 6 _ _ _ _ _
        refine gT_n 3 ?_
        refine ⟨fun c => absurd c (by decide), fun _ => ?_⟩
        refine gT_n 2 ?_
        exact absurd κ1 hh.1
      · refine gT_n 2 ?_
        refine ⟨fun _ => ?_, fun c => absurd c (by decide)⟩
        refine gT_n 3 ?_
        refine ⟨rfl, fun c => absurd c (kpT (p := fun z : Int32 => ¬ (¬ z = 0)) (show _ = (0 : Int32) from jP.1) (by decide)), fun _ => ?_⟩
        refine gT_n 3 ?_
        show gT _ 234 6 _ _ _ _ _
        refine gT_n 3 ?_
        refine ⟨fun c => absurd c (by decide), fun _ => ?_⟩
        refine gT_n 2 ?_
        exact ⟨I, J, P, rfl, rfl, hC, hM0⟩
    | some p =>
      obtain ⟨h10, hoI, -⟩ := oP p rfl
      by_cases hj : inZ p.1.length i
      · have hT := (pif_pos hj).mp hS
        clear hS
        obtain ⟨k, hk, rfl, hS⟩ := hT
        try dsimp only at hS
        have hI := (jP.2 p rfl).2.2.2.2 k hk
        have hq := hoI _ (ig_mem hk)
        refine gT_n 4 ?_
        refine ⟨rfl, rfl, ?_⟩
        refine gT_n 2 ?_
        refine ⟨fun c => absurd c (nI_pos (by omega)), fun _ => ?_⟩
        refine gT_n 2 ?_
        refine ⟨fun _ => ?_, fun c => absurd c (by decide)⟩
        refine gT_n 3 ?_
        refine ⟨rfl, fun _ => ?_, fun c => absurd c (kpT (p := fun z : Int32 => ¬ z = 0) (show _ = (1 : Int32) from jP.1) (by decide))⟩
        refine gT_n 4 ?_
        refine ⟨rfl, pk_lt k p.1.length (fun κ1 => ?_) (fun κ1 => ?_) (rfl) ((jP.2 p rfl).1) (by omega) (by omega)⟩
        · refine gT_n 2 ?_
          show gT _ 234 6 _ _ _ _ _
          refine gT_n 3 ?_
          refine ⟨fun _ => ?_, fun c => absurd (by decide) c⟩
          refine gT_n 2 ?_
          obtain ⟨rfl, rfl⟩ := hS
          have loop : ∀ q, q ≤ p.1.length - 1 → k ≤ q → gT (d + 14) 234 15 [(3, .int (nI q)), (0, .ref 171), (1, .int (nI k)), (2, .int 0)] [] (0, 0) (gST (lMI I k q) (lMJ J k q) P) (pM (nI (p.1.length - 1)) (setL (tp, fn, t, W, nm, some p, ch, i0, i1) p k)) := by
            refine loopU (p.1.length - 1) (fun q hq1 ih hkq => ?_)
            refine gT_n 6 ?_
            refine ⟨rfl, pk_le (p.1.length - 1) q (fun κ1 => ?_) (fun κ1 => ?_) (pk_subE (n := p.1.length) (k := 1) ((jP.2 p rfl).1) (rfl) (by omega)) (rfl) (by omega) (by omega)⟩
            · refine gT_n 9 ?_
              refine ⟨rfl, rfl, rfl, ?_⟩
              obtain rfl : q = p.1.length - 1 := by omega
              exact ⟨_, _, P, rfl, ri (pk_subE (n := p.1.length) (k := 1) ((jP.2 p rfl).1) (rfl) (by omega)), hC, ⟨jTp, jF, jT, jSp, jW, jN, ⟨jP.1, fun r hr => by
                cases hr
                exact mP_cn (pk_subE (n := p.1.length) (k := 1) ((jP.2 p rfl).1) (rfl) (by omega)) (mP_lose (jP.2 p rfl) hk)⟩, jC, jI0, jI1, jB, jL⟩⟩
            · refine gT_n 6 ?_
              refine ⟨rfl, rfl, gTM.useA (m_copies hkq (by omega)) (Nat.le_refl _) (aR (aI (pk_addE (n := q) (k := 1) (rfl) (rfl)) (aI (rfl) (rfl)))) (fun r u hq => ?_)⟩
              obtain ⟨rfl, rfl⟩ := hq  -- X12_copiesItem[R171, nI (q + 1), nI q]
              refine gT_n 2 ?_
              have e := ih (q + 1) (by omega) (by omega) (by omega)
              rw [← nI_1] at e
              exact e
          have e := loop k (by omega) (Nat.le_refl _)
          rw [lMI_0, lMJ_0] at e
          exact gT_k e ⟨rfl, rfl, rfl, rfl, trivial⟩ rfl
        · refine gT_n 3 ?_
          show gT _ 234 6 _ _ _ _ _
          refine gT_n 3 ?_
          refine ⟨fun c => absurd c (by decide), fun _ => ?_⟩
          refine gT_n 2 ?_
          exact absurd hk (by omega)
      · obtain ⟨rfl, rfl⟩ := (pif_neg hj).mp hS
        refine gT_n 4 ?_
        refine ⟨rfl, rfl, ?_⟩
        refine gT_n 2 ?_
        refine px_lt (X := i) (Y := (0)) (rfl) (rfl) (fun κ1 => ?_) (fun κ1 => ?_)
        · refine gT_n 3 ?_
          show gT _ 234 6 _ _ _ _ _
          refine gT_n 3 ?_
          refine ⟨fun c => absurd c (by decide), fun _ => ?_⟩
          refine gT_n 2 ?_
          exact absurd κ1 hh.1
        · refine gT_n 2 ?_
          refine ⟨fun _ => ?_, fun c => absurd c (by decide)⟩
          refine gT_n 3 ?_
          refine ⟨rfl, fun _ => ?_, fun c => absurd c (kpT (p := fun z : Int32 => ¬ z = 0) (show _ = (1 : Int32) from jP.1) (by decide))⟩
          refine gT_n 4 ?_
          refine ⟨rfl, px_lt (X := i) (Y := nI p.1.length) (rfl) ((jP.2 p rfl).1) (fun κ2 => ?_) (fun κ2 => ?_)⟩
          · refine gT_n 2 ?_
            show gT _ 234 6 _ _ _ _ _
            refine gT_n 3 ?_
            refine ⟨fun _ => ?_, fun c => absurd (by decide) c⟩
            exact absurd (inZ_of (by omega) hh.1 (by first | exact κ2 | exact Int32.not_le.mpr κ2)) hj
          · refine gT_n 3 ?_
            show gT _ 234 6 _ _ _ _ _
            refine gT_n 3 ?_
            refine ⟨fun c => absurd c (by decide), fun _ => ?_⟩
            refine gT_n 2 ?_
            exact ⟨I, J, P, rfl, rfl, hC, hM0⟩
  · obtain ⟨rfl, rfl⟩ := (pif_neg hh).mp hS
    have hi : i < 0 := Int32.not_le.mp (fun q => hh ⟨Int32.not_lt.mpr q, trivial⟩)
    refine gT_n 4 ?_
    refine ⟨rfl, rfl, gTM.use (m_wrong_lo hi) (Nat.le_refl _) (fun r u hq => ?_)⟩
    obtain ⟨rfl, rfl⟩ := hq  -- X12_wrong[R171, i, K1]
    refine gT_n 3 ?_
    refine ⟨fun c => absurd c (by decide), fun _ => ?_⟩
    refine gT_n 2 ?_
    exact ⟨I, J, P, rfl, rfl, hC, hM0⟩
