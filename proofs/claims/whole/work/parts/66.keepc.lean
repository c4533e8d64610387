/-! keep: the class -/
theorem cR_copy {cn : Int32} {jn jn0 : Nat → Int64} {is iv is0 iv0 : Nat → Int32} {l : zR} (h : cR cn jn is iv l) : cR (nI l.length) (cpr jn jn0 l.length) (cpr is is0 l.length) (cpr iv iv0 l.length) l := by
  refine ⟨rfl, fun i hi => ?_⟩
  rw [cpr_in hi, cpr_in hi, cpr_in hi]; exact h.2 i hi
theorem cpy3 {f g : Nat → Int32} : va_cpy f g 0 0 3 0 = f 0 ∧ va_cpy f g 0 0 3 1 = f 1 ∧ va_cpy f g 0 0 3 2 = f 2 := ⟨rfl, rfl, rfl⟩
theorem cE_copy {cn : Int32} {zs ks zs0 ks0 r0 r1 r2 r3 g0 g1 g2 g3 R0 R1 R2 R3 : Nat → Int32} {js js0 : Nat → Int64} {l : List zE} (h : cE cn zs ks js (ksel r0 r1 r2 r3) l) (h4 : l.length ≤ 4) (e0 : 0 < l.length → R0 = va_cpy r0 g0 0 0 3) (e1 : 1 < l.length → R1 = va_cpy r1 g1 0 0 3) (e2 : 2 < l.length → R2 = va_cpy r2 g2 0 0 3) (e3 : 3 < l.length → R3 = va_cpy r3 g3 0 0 3) : cE (nI l.length) (cpr zs zs0 l.length) (cpr ks ks0 l.length) (cpr js js0 l.length) (ksel R0 R1 R2 R3) l := by
  refine ⟨rfl, fun i hi => ?_⟩
  obtain ⟨a, b, c, d⟩ := h.2 i hi
  rw [cpr_in hi, cpr_in hi, cpr_in hi]
  refine ⟨a, b, c, ?_⟩
  have : i = 0 ∨ i = 1 ∨ i = 2 ∨ i = 3 := by omega
  rcases this with rfl | rfl | rfl | rfl
  · have e := e0 hi
    subst e; exact d
  · have e := e1 hi
    subst e; exact d
  · have e := e2 hi
    subst e; exact d
  · have e := e3 hi
    subst e; exact d
theorem setM_ok {s : zS} {q : Nat} (h : sOK s) : sOK (setM s q (some s.2.2.2.1)) := by
  obtain ⟨h1, h2, h3, h4, h5, h6, h7⟩ := h
  refine ⟨h1, h2, h3, h4, h5, fun V hV => ?_, fun V hV => ?_⟩
  · change cond (Nat.beq q 0) (some s.2.2.2.1) s.2.2.2.2.2.2.2.1 = some V at hV
    cases e : Nat.beq q 0
    · rw [e] at hV; exact h6 V hV
    · rw [e] at hV; cases hV; exact h3
  · change cond (Nat.beq q 0) s.2.2.2.2.2.2.2.2 (some s.2.2.2.1) = some V at hV
    cases e : Nat.beq q 0
    · rw [e] at hV; cases hV; exact h3
    · rw [e] at hV; exact h7 V hV
set_option maxHeartbeats 4000000 in
theorem o_keep_c {d : Nat} {s : zS} {I : Nat → Nat → Int32} {J : Nat → Nat → Int64} {P : Nat → Nat} {k : Int32} (hO : sOK s) (hC : RC s I J P) (hM : RM s I J) : gTM (d + 14) 150 [.ref 0, .int k] (gST I J P) (pC s (fKee s k)) := by
  obtain ⟨tp, fn, t, W, nm, pr, ch, i0, i1⟩ := s
  have hO0 := hO
  have hC0 := hC
  have hM0 := hM
  obtain ⟨oTp, oT, oW, oN, oP, oI0, oI1⟩ := hO
  obtain ⟨kTp, kF, kT, kW, kN, kP, kC, kI0, kI1, kB, kPP⟩ := hC
  obtain ⟨jTp, jF, jT, jSp, jW, jN, jP, jC, jI0, jI1, jB, jL⟩ := hM
  dsimp only at oTp oT oW oN oP oI0 oI1 kTp kF kT kW kN kP kC kI0 kI1 jTp jF jT jSp jW jN jP jC jI0 jI1
  try dsimp only
  by_cases hh : inZ 2 k
  · obtain ⟨q, hq, rfl⟩ := hh
    have hh : inZ 2 (nI q) := ⟨q, hq, rfl⟩
    have hr24 := oW.1.1
    have hE4 := oW.2.2.2.2.1
    have : q = 0 ∨ q = 1 := by omega
    rcases this with rfl | rfl
    · cases i0 with
      | none =>
        refine gT_n 2 ?_
        refine ⟨fun c => absurd c (by decide), fun _ => ?_⟩
        refine gT_n 3 ?_
        refine ⟨fun _ => ?_, fun c => absurd (by decide) c⟩
        refine gT_n 5 ?_
        refine ⟨rfl, (Or.inr rfl), (pk_in 0 2 (by decide) rfl), ?_⟩
        refine gT_k (L := [(2, .int 0), (0, .ref 0), (1, .int 0)]) ?_ ⟨(viI ((show _ = (0 : Int32) from kI0.1))), rfl, rfl, trivial⟩ rfl
        refine gT_n 7 ?_
        refine ⟨rfl, rfl, (pk_in 0 2 (by decide) rfl), rfl, rfl, rfl, ?_⟩
        refine gT_n 9 ?_
        refine ⟨rfl, rfl, rfl, rfl, rfl, rfl, gTM.use (c_rcopy_60_18 (n := W.1.length) kW.1.1 hr24) (Nat.le_refl _) (fun r u hq => ?_)⟩
        obtain ⟨rfl, rfl⟩ := hq  -- X7_copyFrom[R60, R18]
        refine gT_n 5 ?_
        refine ⟨rfl, rfl, rfl, rfl, gTM.use (c_ccopy_67_25 (n := W.2.2.2.2.2.length) kW.2.2.2.2.2.1 hE4) (Nat.le_refl _) (fun r u hq => ?_)⟩
        obtain ⟨rfl, rfl⟩ := hq  -- X0_copyFrom[R67, R25]
        refine gT_n 5 ?_
        refine ⟨fun c => absurd c (by decide), fun _ => ?_⟩
        refine gT_n 9 ?_
        refine ⟨rfl, rfl, (pk_in 0 4 (by decide) rfl), rfl, rfl, (pk_in 0 4 (by decide) rfl), rfl, rfl, gTM.use (c_kcopy (b := 76) (c := 34) ⟨rfl, rfl, rfl, rfl, rfl⟩ ⟨rfl, rfl, rfl, rfl, rfl⟩ (by omega) (l := W.2.1 0) kW.2.1.1) (Nat.le_refl _) (fun r u hq => ?_)⟩
        obtain ⟨rfl, no0, fo0, go0, rfl, ho0⟩ := hq  -- X2_copyFrom[R76, R34]
        refine gT_n 9 ?_
        refine ⟨rfl, rfl, (pk_in 0 4 (by decide) rfl), rfl, rfl, (pk_in 0 4 (by decide) rfl), rfl, rfl, gTM.use (c_kcopy (b := 79) (c := 37) ⟨rfl, rfl, rfl, rfl, rfl⟩ ⟨rfl, rfl, rfl, rfl, rfl⟩ (by omega) (l := W.2.2.1 0) kW.2.2.1.1) (Nat.le_refl _) (fun r u hq => ?_)⟩
        obtain ⟨rfl, ng0, fg0, gg0, rfl, hg0⟩ := hq  -- X2_copyFrom[R79, R37]
        refine gT_n 13 ?_
        refine ⟨rfl, rfl, rfl, (pk_in 0 4 (by decide) rfl), rfl, (pk_in 0 4 (by decide) rfl), fun c => absurd c (by decide), fun _ => ?_⟩
        refine gT_n 9 ?_
        refine ⟨rfl, rfl, (pk_in 1 4 (by decide) rfl), rfl, rfl, (pk_in 1 4 (by decide) rfl), rfl, rfl, gTM.use (c_kcopy (b := 82) (c := 40) ⟨rfl, rfl, rfl, rfl, rfl⟩ ⟨rfl, rfl, rfl, rfl, rfl⟩ (by omega) (l := W.2.1 1) kW.2.1.2.1) (Nat.le_refl _) (fun r u hq => ?_)⟩
        obtain ⟨rfl, no1, fo1, go1, rfl, ho1⟩ := hq  -- X2_copyFrom[R82, R40]
        refine gT_n 9 ?_
        refine ⟨rfl, rfl, (pk_in 1 4 (by decide) rfl), rfl, rfl, (pk_in 1 4 (by decide) rfl), rfl, rfl, gTM.use (c_kcopy (b := 85) (c := 43) ⟨rfl, rfl, rfl, rfl, rfl⟩ ⟨rfl, rfl, rfl, rfl, rfl⟩ (by omega) (l := W.2.2.1 1) kW.2.2.1.2.1) (Nat.le_refl _) (fun r u hq => ?_)⟩
        obtain ⟨rfl, ng1, fg1, gg1, rfl, hg1⟩ := hq  -- X2_copyFrom[R85, R43]
        refine gT_n 13 ?_
        refine ⟨rfl, rfl, rfl, (pk_in 1 4 (by decide) rfl), rfl, (pk_in 1 4 (by decide) rfl), fun c => absurd c (by decide), fun _ => ?_⟩
        refine gT_n 9 ?_
        refine ⟨rfl, rfl, (pk_in 2 4 (by decide) rfl), rfl, rfl, (pk_in 2 4 (by decide) rfl), rfl, rfl, gTM.use (c_kcopy (b := 88) (c := 46) ⟨rfl, rfl, rfl, rfl, rfl⟩ ⟨rfl, rfl, rfl, rfl, rfl⟩ (by omega) (l := W.2.1 2) kW.2.1.2.2.1) (Nat.le_refl _) (fun r u hq => ?_)⟩
        obtain ⟨rfl, no2, fo2, go2, rfl, ho2⟩ := hq  -- X2_copyFrom[R88, R46]
        refine gT_n 9 ?_
        refine ⟨rfl, rfl, (pk_in 2 4 (by decide) rfl), rfl, rfl, (pk_in 2 4 (by decide) rfl), rfl, rfl, gTM.use (c_kcopy (b := 91) (c := 49) ⟨rfl, rfl, rfl, rfl, rfl⟩ ⟨rfl, rfl, rfl, rfl, rfl⟩ (by omega) (l := W.2.2.1 2) kW.2.2.1.2.2.1) (Nat.le_refl _) (fun r u hq => ?_)⟩
        obtain ⟨rfl, ng2, fg2, gg2, rfl, hg2⟩ := hq  -- X2_copyFrom[R91, R49]
        refine gT_n 13 ?_
        refine ⟨rfl, rfl, rfl, (pk_in 2 4 (by decide) rfl), rfl, (pk_in 2 4 (by decide) rfl), fun c => absurd c (by decide), fun _ => ?_⟩
        refine gT_n 9 ?_
        refine ⟨rfl, rfl, (pk_in 3 4 (by decide) rfl), rfl, rfl, (pk_in 3 4 (by decide) rfl), rfl, rfl, gTM.use (c_kcopy (b := 94) (c := 52) ⟨rfl, rfl, rfl, rfl, rfl⟩ ⟨rfl, rfl, rfl, rfl, rfl⟩ (by omega) (l := W.2.1 3) kW.2.1.2.2.2) (Nat.le_refl _) (fun r u hq => ?_)⟩
        obtain ⟨rfl, no3, fo3, go3, rfl, ho3⟩ := hq  -- X2_copyFrom[R94, R52]
        refine gT_n 9 ?_
        refine ⟨rfl, rfl, (pk_in 3 4 (by decide) rfl), rfl, rfl, (pk_in 3 4 (by decide) rfl), rfl, rfl, gTM.use (c_kcopy (b := 97) (c := 55) ⟨rfl, rfl, rfl, rfl, rfl⟩ ⟨rfl, rfl, rfl, rfl, rfl⟩ (by omega) (l := W.2.2.1 3) kW.2.2.1.2.2.2) (Nat.le_refl _) (fun r u hq => ?_)⟩
        obtain ⟨rfl, ng3, fg3, gg3, rfl, hg3⟩ := hq  -- X2_copyFrom[R97, R55]
        refine gT_n 13 ?_
        refine ⟨rfl, rfl, rfl, (pk_in 3 4 (by decide) rfl), rfl, (pk_in 3 4 (by decide) rfl), fun _ => ?_, fun c => absurd (by decide) c⟩
        refine gT_n 1 ?_
        refine ⟨rfl, ?_⟩
        show gT _ 150 31 _ _ _ _ _
        refine gT_n 7 ?_
        refine ⟨rfl, (Or.inr rfl), (pk_in 0 2 (by decide) rfl), (Or.inr ⟨rfl, Or.inr rfl⟩), fun _ => ?_, fun c => absurd (by decide) c⟩
        refine gT_n 2 ?_
        exact ⟨0, setM (tp, fn, t, W, nm, pr, ch, none, i1) 0 (some W), _, _, P, rfl, rfl, ⟨(pif_pos hh).mpr ⟨0, hq, rfl, rfl, rfl⟩, setM_ok hO0⟩, ⟨kTp, kF, kT, kW, kN, kP, kC, ⟨rfl, fun V2 hV => by
            cases hV
            exact ⟨cR_copy kW.1, ⟨ho0, ho1, ho2, ho3⟩, ⟨hg0, hg1, hg2, hg3⟩, kW.2.2.2.1, kW.2.2.2.2.1, cE_copy kW.2.2.2.2.2 hE4 (fun h => if_pos (by omega)) (fun h => if_pos (by omega)) (fun h => if_pos (by omega)) (fun h => if_pos (by omega))⟩⟩, kI1, kB, kPP⟩, hM0⟩
      | some V =>
        refine gT_n 2 ?_
        refine ⟨fun c => absurd c (by decide), fun _ => ?_⟩
        refine gT_n 3 ?_
        refine ⟨fun _ => ?_, fun c => absurd (by decide) c⟩
        refine gT_n 5 ?_
        refine ⟨rfl, (Or.inr rfl), (pk_in 0 2 (by decide) rfl), ?_⟩
        refine gT_k (L := [(2, .int 1), (0, .ref 0), (1, .int 0)]) ?_ ⟨(viI ((show _ = (1 : Int32) from kI0.1))), rfl, rfl, trivial⟩ rfl
        refine gT_n 7 ?_
        refine ⟨rfl, rfl, (pk_in 0 2 (by decide) rfl), rfl, rfl, rfl, ?_⟩
        refine gT_n 9 ?_
        refine ⟨rfl, rfl, rfl, rfl, rfl, rfl, gTM.use (c_rcopy_60_18 (n := W.1.length) kW.1.1 hr24) (Nat.le_refl _) (fun r u hq => ?_)⟩
        obtain ⟨rfl, rfl⟩ := hq  -- X7_copyFrom[R60, R18]
        refine gT_n 5 ?_
        refine ⟨rfl, rfl, rfl, rfl, gTM.use (c_ccopy_67_25 (n := W.2.2.2.2.2.length) kW.2.2.2.2.2.1 hE4) (Nat.le_refl _) (fun r u hq => ?_)⟩
        obtain ⟨rfl, rfl⟩ := hq  -- X0_copyFrom[R67, R25]
        refine gT_n 5 ?_
        refine ⟨fun c => absurd c (by decide), fun _ => ?_⟩
        refine gT_n 9 ?_
        refine ⟨rfl, rfl, (pk_in 0 4 (by decide) rfl), rfl, rfl, (pk_in 0 4 (by decide) rfl), rfl, rfl, gTM.use (c_kcopy (b := 76) (c := 34) ⟨rfl, rfl, rfl, rfl, rfl⟩ ⟨rfl, rfl, rfl, rfl, rfl⟩ (by omega) (l := W.2.1 0) kW.2.1.1) (Nat.le_refl _) (fun r u hq => ?_)⟩
        obtain ⟨rfl, no0, fo0, go0, rfl, ho0⟩ := hq  -- X2_copyFrom[R76, R34]
        refine gT_n 9 ?_
        refine ⟨rfl, rfl, (pk_in 0 4 (by decide) rfl), rfl, rfl, (pk_in 0 4 (by decide) rfl), rfl, rfl, gTM.use (c_kcopy (b := 79) (c := 37) ⟨rfl, rfl, rfl, rfl, rfl⟩ ⟨rfl, rfl, rfl, rfl, rfl⟩ (by omega) (l := W.2.2.1 0) kW.2.2.1.1) (Nat.le_refl _) (fun r u hq => ?_)⟩
        obtain ⟨rfl, ng0, fg0, gg0, rfl, hg0⟩ := hq  -- X2_copyFrom[R79, R37]
        refine gT_n 13 ?_
        refine ⟨rfl, rfl, rfl, (pk_in 0 4 (by decide) rfl), rfl, (pk_in 0 4 (by decide) rfl), fun c => absurd c (by decide), fun _ => ?_⟩
        refine gT_n 9 ?_
        refine ⟨rfl, rfl, (pk_in 1 4 (by decide) rfl), rfl, rfl, (pk_in 1 4 (by decide) rfl), rfl, rfl, gTM.use (c_kcopy (b := 82) (c := 40) ⟨rfl, rfl, rfl, rfl, rfl⟩ ⟨rfl, rfl, rfl, rfl, rfl⟩ (by omega) (l := W.2.1 1) kW.2.1.2.1) (Nat.le_refl _) (fun r u hq => ?_)⟩
        obtain ⟨rfl, no1, fo1, go1, rfl, ho1⟩ := hq  -- X2_copyFrom[R82, R40]
        refine gT_n 9 ?_
        refine ⟨rfl, rfl, (pk_in 1 4 (by decide) rfl), rfl, rfl, (pk_in 1 4 (by decide) rfl), rfl, rfl, gTM.use (c_kcopy (b := 85) (c := 43) ⟨rfl, rfl, rfl, rfl, rfl⟩ ⟨rfl, rfl, rfl, rfl, rfl⟩ (by omega) (l := W.2.2.1 1) kW.2.2.1.2.1) (Nat.le_refl _) (fun r u hq => ?_)⟩
        obtain ⟨rfl, ng1, fg1, gg1, rfl, hg1⟩ := hq  -- X2_copyFrom[R85, R43]
        refine gT_n 13 ?_
        refine ⟨rfl, rfl, rfl, (pk_in 1 4 (by decide) rfl), rfl, (pk_in 1 4 (by decide) rfl), fun c => absurd c (by decide), fun _ => ?_⟩
        refine gT_n 9 ?_
        refine ⟨rfl, rfl, (pk_in 2 4 (by decide) rfl), rfl, rfl, (pk_in 2 4 (by decide) rfl), rfl, rfl, gTM.use (c_kcopy (b := 88) (c := 46) ⟨rfl, rfl, rfl, rfl, rfl⟩ ⟨rfl, rfl, rfl, rfl, rfl⟩ (by omega) (l := W.2.1 2) kW.2.1.2.2.1) (Nat.le_refl _) (fun r u hq => ?_)⟩
        obtain ⟨rfl, no2, fo2, go2, rfl, ho2⟩ := hq  -- X2_copyFrom[R88, R46]
        refine gT_n 9 ?_
        refine ⟨rfl, rfl, (pk_in 2 4 (by decide) rfl), rfl, rfl, (pk_in 2 4 (by decide) rfl), rfl, rfl, gTM.use (c_kcopy (b := 91) (c := 49) ⟨rfl, rfl, rfl, rfl, rfl⟩ ⟨rfl, rfl, rfl, rfl, rfl⟩ (by omega) (l := W.2.2.1 2) kW.2.2.1.2.2.1) (Nat.le_refl _) (fun r u hq => ?_)⟩
        obtain ⟨rfl, ng2, fg2, gg2, rfl, hg2⟩ := hq  -- X2_copyFrom[R91, R49]
        refine gT_n 13 ?_
        refine ⟨rfl, rfl, rfl, (pk_in 2 4 (by decide) rfl), rfl, (pk_in 2 4 (by decide) rfl), fun c => absurd c (by decide), fun _ => ?_⟩
        refine gT_n 9 ?_
        refine ⟨rfl, rfl, (pk_in 3 4 (by decide) rfl), rfl, rfl, (pk_in 3 4 (by decide) rfl), rfl, rfl, gTM.use (c_kcopy (b := 94) (c := 52) ⟨rfl, rfl, rfl, rfl, rfl⟩ ⟨rfl, rfl, rfl, rfl, rfl⟩ (by omega) (l := W.2.1 3) kW.2.1.2.2.2) (Nat.le_refl _) (fun r u hq => ?_)⟩
        obtain ⟨rfl, no3, fo3, go3, rfl, ho3⟩ := hq  -- X2_copyFrom[R94, R52]
        refine gT_n 9 ?_
        refine ⟨rfl, rfl, (pk_in 3 4 (by decide) rfl), rfl, rfl, (pk_in 3 4 (by decide) rfl), rfl, rfl, gTM.use (c_kcopy (b := 97) (c := 55) ⟨rfl, rfl, rfl, rfl, rfl⟩ ⟨rfl, rfl, rfl, rfl, rfl⟩ (by omega) (l := W.2.2.1 3) kW.2.2.1.2.2.2) (Nat.le_refl _) (fun r u hq => ?_)⟩
        obtain ⟨rfl, ng3, fg3, gg3, rfl, hg3⟩ := hq  -- X2_copyFrom[R97, R55]
        refine gT_n 13 ?_
        refine ⟨rfl, rfl, rfl, (pk_in 3 4 (by decide) rfl), rfl, (pk_in 3 4 (by decide) rfl), fun _ => ?_, fun c => absurd (by decide) c⟩
        refine gT_n 1 ?_
        refine ⟨rfl, ?_⟩
        show gT _ 150 31 _ _ _ _ _
        refine gT_n 7 ?_
        refine ⟨rfl, (Or.inr rfl), (pk_in 0 2 (by decide) rfl), (Or.inr ⟨rfl, Or.inr rfl⟩), fun c => absurd c (by decide), fun _ => ?_⟩
        refine gT_n 3 ?_
        exact ⟨1, setM (tp, fn, t, W, nm, pr, ch, some V, i1) 0 (some W), _, _, P, rfl, rfl, ⟨(pif_pos hh).mpr ⟨0, hq, rfl, rfl, rfl⟩, setM_ok hO0⟩, ⟨kTp, kF, kT, kW, kN, kP, kC, ⟨rfl, fun V2 hV => by
            cases hV
            exact ⟨cR_copy kW.1, ⟨ho0, ho1, ho2, ho3⟩, ⟨hg0, hg1, hg2, hg3⟩, kW.2.2.2.1, kW.2.2.2.2.1, cE_copy kW.2.2.2.2.2 hE4 (fun h => if_pos (by omega)) (fun h => if_pos (by omega)) (fun h => if_pos (by omega)) (fun h => if_pos (by omega))⟩⟩, kI1, kB, kPP⟩, hM0⟩
    · cases i1 with
      | none =>
        refine gT_n 2 ?_
        refine ⟨fun c => absurd c (by decide), fun _ => ?_⟩
        refine gT_n 3 ?_
        refine ⟨fun _ => ?_, fun c => absurd (by decide) c⟩
        refine gT_n 5 ?_
        refine ⟨rfl, (Or.inr rfl), (pk_in 1 2 (by decide) rfl), ?_⟩
        refine gT_k (L := [(2, .int 0), (0, .ref 0), (1, .int 1)]) ?_ ⟨(viI ((show _ = (0 : Int32) from kI1.1))), rfl, rfl, trivial⟩ rfl
        refine gT_n 7 ?_
        refine ⟨rfl, rfl, (pk_in 1 2 (by decide) rfl), rfl, rfl, rfl, ?_⟩
        refine gT_n 9 ?_
        refine ⟨rfl, rfl, rfl, rfl, rfl, rfl, gTM.use (c_rcopy_101_18 (n := W.1.length) kW.1.1 hr24) (Nat.le_refl _) (fun r u hq => ?_)⟩
        obtain ⟨rfl, rfl⟩ := hq  -- X7_copyFrom[R101, R18]
        refine gT_n 5 ?_
        refine ⟨rfl, rfl, rfl, rfl, gTM.use (c_ccopy_108_25 (n := W.2.2.2.2.2.length) kW.2.2.2.2.2.1 hE4) (Nat.le_refl _) (fun r u hq => ?_)⟩
        obtain ⟨rfl, rfl⟩ := hq  -- X0_copyFrom[R108, R25]
        refine gT_n 5 ?_
        refine ⟨fun c => absurd c (by decide), fun _ => ?_⟩
        refine gT_n 9 ?_
        refine ⟨rfl, rfl, (pk_in 0 4 (by decide) rfl), rfl, rfl, (pk_in 0 4 (by decide) rfl), rfl, rfl, gTM.use (c_kcopy (b := 117) (c := 34) ⟨rfl, rfl, rfl, rfl, rfl⟩ ⟨rfl, rfl, rfl, rfl, rfl⟩ (by omega) (l := W.2.1 0) kW.2.1.1) (Nat.le_refl _) (fun r u hq => ?_)⟩
        obtain ⟨rfl, no0, fo0, go0, rfl, ho0⟩ := hq  -- X2_copyFrom[R117, R34]
        refine gT_n 9 ?_
        refine ⟨rfl, rfl, (pk_in 0 4 (by decide) rfl), rfl, rfl, (pk_in 0 4 (by decide) rfl), rfl, rfl, gTM.use (c_kcopy (b := 120) (c := 37) ⟨rfl, rfl, rfl, rfl, rfl⟩ ⟨rfl, rfl, rfl, rfl, rfl⟩ (by omega) (l := W.2.2.1 0) kW.2.2.1.1) (Nat.le_refl _) (fun r u hq => ?_)⟩
        obtain ⟨rfl, ng0, fg0, gg0, rfl, hg0⟩ := hq  -- X2_copyFrom[R120, R37]
        refine gT_n 13 ?_
        refine ⟨rfl, rfl, rfl, (pk_in 0 4 (by decide) rfl), rfl, (pk_in 0 4 (by decide) rfl), fun c => absurd c (by decide), fun _ => ?_⟩
        refine gT_n 9 ?_
        refine ⟨rfl, rfl, (pk_in 1 4 (by decide) rfl), rfl, rfl, (pk_in 1 4 (by decide) rfl), rfl, rfl, gTM.use (c_kcopy (b := 123) (c := 40) ⟨rfl, rfl, rfl, rfl, rfl⟩ ⟨rfl, rfl, rfl, rfl, rfl⟩ (by omega) (l := W.2.1 1) kW.2.1.2.1) (Nat.le_refl _) (fun r u hq => ?_)⟩
        obtain ⟨rfl, no1, fo1, go1, rfl, ho1⟩ := hq  -- X2_copyFrom[R123, R40]
        refine gT_n 9 ?_
        refine ⟨rfl, rfl, (pk_in 1 4 (by decide) rfl), rfl, rfl, (pk_in 1 4 (by decide) rfl), rfl, rfl, gTM.use (c_kcopy (b := 126) (c := 43) ⟨rfl, rfl, rfl, rfl, rfl⟩ ⟨rfl, rfl, rfl, rfl, rfl⟩ (by omega) (l := W.2.2.1 1) kW.2.2.1.2.1) (Nat.le_refl _) (fun r u hq => ?_)⟩
        obtain ⟨rfl, ng1, fg1, gg1, rfl, hg1⟩ := hq  -- X2_copyFrom[R126, R43]
        refine gT_n 13 ?_
        refine ⟨rfl, rfl, rfl, (pk_in 1 4 (by decide) rfl), rfl, (pk_in 1 4 (by decide) rfl), fun c => absurd c (by decide), fun _ => ?_⟩
        refine gT_n 9 ?_
        refine ⟨rfl, rfl, (pk_in 2 4 (by decide) rfl), rfl, rfl, (pk_in 2 4 (by decide) rfl), rfl, rfl, gTM.use (c_kcopy (b := 129) (c := 46) ⟨rfl, rfl, rfl, rfl, rfl⟩ ⟨rfl, rfl, rfl, rfl, rfl⟩ (by omega) (l := W.2.1 2) kW.2.1.2.2.1) (Nat.le_refl _) (fun r u hq => ?_)⟩
        obtain ⟨rfl, no2, fo2, go2, rfl, ho2⟩ := hq  -- X2_copyFrom[R129, R46]
        refine gT_n 9 ?_
        refine ⟨rfl, rfl, (pk_in 2 4 (by decide) rfl), rfl, rfl, (pk_in 2 4 (by decide) rfl), rfl, rfl, gTM.use (c_kcopy (b := 132) (c := 49) ⟨rfl, rfl, rfl, rfl, rfl⟩ ⟨rfl, rfl, rfl, rfl, rfl⟩ (by omega) (l := W.2.2.1 2) kW.2.2.1.2.2.1) (Nat.le_refl _) (fun r u hq => ?_)⟩
        obtain ⟨rfl, ng2, fg2, gg2, rfl, hg2⟩ := hq  -- X2_copyFrom[R132, R49]
        refine gT_n 13 ?_
        refine ⟨rfl, rfl, rfl, (pk_in 2 4 (by decide) rfl), rfl, (pk_in 2 4 (by decide) rfl), fun c => absurd c (by decide), fun _ => ?_⟩
        refine gT_n 9 ?_
        refine ⟨rfl, rfl, (pk_in 3 4 (by decide) rfl), rfl, rfl, (pk_in 3 4 (by decide) rfl), rfl, rfl, gTM.use (c_kcopy (b := 135) (c := 52) ⟨rfl, rfl, rfl, rfl, rfl⟩ ⟨rfl, rfl, rfl, rfl, rfl⟩ (by omega) (l := W.2.1 3) kW.2.1.2.2.2) (Nat.le_refl _) (fun r u hq => ?_)⟩
        obtain ⟨rfl, no3, fo3, go3, rfl, ho3⟩ := hq  -- X2_copyFrom[R135, R52]
        refine gT_n 9 ?_
        refine ⟨rfl, rfl, (pk_in 3 4 (by decide) rfl), rfl, rfl, (pk_in 3 4 (by decide) rfl), rfl, rfl, gTM.use (c_kcopy (b := 138) (c := 55) ⟨rfl, rfl, rfl, rfl, rfl⟩ ⟨rfl, rfl, rfl, rfl, rfl⟩ (by omega) (l := W.2.2.1 3) kW.2.2.1.2.2.2) (Nat.le_refl _) (fun r u hq => ?_)⟩
        obtain ⟨rfl, ng3, fg3, gg3, rfl, hg3⟩ := hq  -- X2_copyFrom[R138, R55]
        refine gT_n 13 ?_
        refine ⟨rfl, rfl, rfl, (pk_in 3 4 (by decide) rfl), rfl, (pk_in 3 4 (by decide) rfl), fun _ => ?_, fun c => absurd (by decide) c⟩
        refine gT_n 1 ?_
        refine ⟨rfl, ?_⟩
        show gT _ 150 31 _ _ _ _ _
        refine gT_n 7 ?_
        refine ⟨rfl, (Or.inr rfl), (pk_in 1 2 (by decide) rfl), (Or.inr ⟨rfl, Or.inr rfl⟩), fun _ => ?_, fun c => absurd (by decide) c⟩
        refine gT_n 2 ?_
        exact ⟨0, setM (tp, fn, t, W, nm, pr, ch, i0, none) 1 (some W), _, _, P, rfl, rfl, ⟨(pif_pos hh).mpr ⟨1, hq, rfl, rfl, rfl⟩, setM_ok hO0⟩, ⟨kTp, kF, kT, kW, kN, kP, kC, kI0, ⟨rfl, fun V2 hV => by
            cases hV
            exact ⟨cR_copy kW.1, ⟨ho0, ho1, ho2, ho3⟩, ⟨hg0, hg1, hg2, hg3⟩, kW.2.2.2.1, kW.2.2.2.2.1, cE_copy kW.2.2.2.2.2 hE4 (fun h => if_pos (by omega)) (fun h => if_pos (by omega)) (fun h => if_pos (by omega)) (fun h => if_pos (by omega))⟩⟩, kB, kPP⟩, hM0⟩
      | some V =>
        refine gT_n 2 ?_
        refine ⟨fun c => absurd c (by decide), fun _ => ?_⟩
        refine gT_n 3 ?_
        refine ⟨fun _ => ?_, fun c => absurd (by decide) c⟩
        refine gT_n 5 ?_
        refine ⟨rfl, (Or.inr rfl), (pk_in 1 2 (by decide) rfl), ?_⟩
        refine gT_k (L := [(2, .int 1), (0, .ref 0), (1, .int 1)]) ?_ ⟨(viI ((show _ = (1 : Int32) from kI1.1))), rfl, rfl, trivial⟩ rfl
        refine gT_n 7 ?_
        refine ⟨rfl, rfl, (pk_in 1 2 (by decide) rfl), rfl, rfl, rfl, ?_⟩
        refine gT_n 9 ?_
        refine ⟨rfl, rfl, rfl, rfl, rfl, rfl, gTM.use (c_rcopy_101_18 (n := W.1.length) kW.1.1 hr24) (Nat.le_refl _) (fun r u hq => ?_)⟩
        obtain ⟨rfl, rfl⟩ := hq  -- X7_copyFrom[R101, R18]
        refine gT_n 5 ?_
        refine ⟨rfl, rfl, rfl, rfl, gTM.use (c_ccopy_108_25 (n := W.2.2.2.2.2.length) kW.2.2.2.2.2.1 hE4) (Nat.le_refl _) (fun r u hq => ?_)⟩
        obtain ⟨rfl, rfl⟩ := hq  -- X0_copyFrom[R108, R25]
        refine gT_n 5 ?_
        refine ⟨fun c => absurd c (by decide), fun _ => ?_⟩
        refine gT_n 9 ?_
        refine ⟨rfl, rfl, (pk_in 0 4 (by decide) rfl), rfl, rfl, (pk_in 0 4 (by decide) rfl), rfl, rfl, gTM.use (c_kcopy (b := 117) (c := 34) ⟨rfl, rfl, rfl, rfl, rfl⟩ ⟨rfl, rfl, rfl, rfl, rfl⟩ (by omega) (l := W.2.1 0) kW.2.1.1) (Nat.le_refl _) (fun r u hq => ?_)⟩
        obtain ⟨rfl, no0, fo0, go0, rfl, ho0⟩ := hq  -- X2_copyFrom[R117, R34]
        refine gT_n 9 ?_
        refine ⟨rfl, rfl, (pk_in 0 4 (by decide) rfl), rfl, rfl, (pk_in 0 4 (by decide) rfl), rfl, rfl, gTM.use (c_kcopy (b := 120) (c := 37) ⟨rfl, rfl, rfl, rfl, rfl⟩ ⟨rfl, rfl, rfl, rfl, rfl⟩ (by omega) (l := W.2.2.1 0) kW.2.2.1.1) (Nat.le_refl _) (fun r u hq => ?_)⟩
        obtain ⟨rfl, ng0, fg0, gg0, rfl, hg0⟩ := hq  -- X2_copyFrom[R120, R37]
        refine gT_n 13 ?_
        refine ⟨rfl, rfl, rfl, (pk_in 0 4 (by decide) rfl), rfl, (pk_in 0 4 (by decide) rfl), fun c => absurd c (by decide), fun _ => ?_⟩
        refine gT_n 9 ?_
        refine ⟨rfl, rfl, (pk_in 1 4 (by decide) rfl), rfl, rfl, (pk_in 1 4 (by decide) rfl), rfl, rfl, gTM.use (c_kcopy (b := 123) (c := 40) ⟨rfl, rfl, rfl, rfl, rfl⟩ ⟨rfl, rfl, rfl, rfl, rfl⟩ (by omega) (l := W.2.1 1) kW.2.1.2.1) (Nat.le_refl _) (fun r u hq => ?_)⟩
        obtain ⟨rfl, no1, fo1, go1, rfl, ho1⟩ := hq  -- X2_copyFrom[R123, R40]
        refine gT_n 9 ?_
        refine ⟨rfl, rfl, (pk_in 1 4 (by decide) rfl), rfl, rfl, (pk_in 1 4 (by decide) rfl), rfl, rfl, gTM.use (c_kcopy (b := 126) (c := 43) ⟨rfl, rfl, rfl, rfl, rfl⟩ ⟨rfl, rfl, rfl, rfl, rfl⟩ (by omega) (l := W.2.2.1 1) kW.2.2.1.2.1) (Nat.le_refl _) (fun r u hq => ?_)⟩
        obtain ⟨rfl, ng1, fg1, gg1, rfl, hg1⟩ := hq  -- X2_copyFrom[R126, R43]
        refine gT_n 13 ?_
        refine ⟨rfl, rfl, rfl, (pk_in 1 4 (by decide) rfl), rfl, (pk_in 1 4 (by decide) rfl), fun c => absurd c (by decide), fun _ => ?_⟩
        refine gT_n 9 ?_
        refine ⟨rfl, rfl, (pk_in 2 4 (by decide) rfl), rfl, rfl, (pk_in 2 4 (by decide) rfl), rfl, rfl, gTM.use (c_kcopy (b := 129) (c := 46) ⟨rfl, rfl, rfl, rfl, rfl⟩ ⟨rfl, rfl, rfl, rfl, rfl⟩ (by omega) (l := W.2.1 2) kW.2.1.2.2.1) (Nat.le_refl _) (fun r u hq => ?_)⟩
        obtain ⟨rfl, no2, fo2, go2, rfl, ho2⟩ := hq  -- X2_copyFrom[R129, R46]
        refine gT_n 9 ?_
        refine ⟨rfl, rfl, (pk_in 2 4 (by decide) rfl), rfl, rfl, (pk_in 2 4 (by decide) rfl), rfl, rfl, gTM.use (c_kcopy (b := 132) (c := 49) ⟨rfl, rfl, rfl, rfl, rfl⟩ ⟨rfl, rfl, rfl, rfl, rfl⟩ (by omega) (l := W.2.2.1 2) kW.2.2.1.2.2.1) (Nat.le_refl _) (fun r u hq => ?_)⟩
        obtain ⟨rfl, ng2, fg2, gg2, rfl, hg2⟩ := hq  -- X2_copyFrom[R132, R49]
        refine gT_n 13 ?_
        refine ⟨rfl, rfl, rfl, (pk_in 2 4 (by decide) rfl), rfl, (pk_in 2 4 (by decide) rfl), fun c => absurd c (by decide), fun _ => ?_⟩
        refine gT_n 9 ?_
        refine ⟨rfl, rfl, (pk_in 3 4 (by decide) rfl), rfl, rfl, (pk_in 3 4 (by decide) rfl), rfl, rfl, gTM.use (c_kcopy (b := 135) (c := 52) ⟨rfl, rfl, rfl, rfl, rfl⟩ ⟨rfl, rfl, rfl, rfl, rfl⟩ (by omega) (l := W.2.1 3) kW.2.1.2.2.2) (Nat.le_refl _) (fun r u hq => ?_)⟩
        obtain ⟨rfl, no3, fo3, go3, rfl, ho3⟩ := hq  -- X2_copyFrom[R135, R52]
        refine gT_n 9 ?_
        refine ⟨rfl, rfl, (pk_in 3 4 (by decide) rfl), rfl, rfl, (pk_in 3 4 (by decide) rfl), rfl, rfl, gTM.use (c_kcopy (b := 138) (c := 55) ⟨rfl, rfl, rfl, rfl, rfl⟩ ⟨rfl, rfl, rfl, rfl, rfl⟩ (by omega) (l := W.2.2.1 3) kW.2.2.1.2.2.2) (Nat.le_refl _) (fun r u hq => ?_)⟩
        obtain ⟨rfl, ng3, fg3, gg3, rfl, hg3⟩ := hq  -- X2_copyFrom[R138, R55]
        refine gT_n 13 ?_
        refine ⟨rfl, rfl, rfl, (pk_in 3 4 (by decide) rfl), rfl, (pk_in 3 4 (by decide) rfl), fun _ => ?_, fun c => absurd (by decide) c⟩
        refine gT_n 1 ?_
        refine ⟨rfl, ?_⟩
        show gT _ 150 31 _ _ _ _ _
        refine gT_n 7 ?_
        refine ⟨rfl, (Or.inr rfl), (pk_in 1 2 (by decide) rfl), (Or.inr ⟨rfl, Or.inr rfl⟩), fun c => absurd c (by decide), fun _ => ?_⟩
        refine gT_n 3 ?_
        exact ⟨1, setM (tp, fn, t, W, nm, pr, ch, i0, some V) 1 (some W), _, _, P, rfl, rfl, ⟨(pif_pos hh).mpr ⟨1, hq, rfl, rfl, rfl⟩, setM_ok hO0⟩, ⟨kTp, kF, kT, kW, kN, kP, kC, kI0, ⟨rfl, fun V2 hV => by
            cases hV
            exact ⟨cR_copy kW.1, ⟨ho0, ho1, ho2, ho3⟩, ⟨hg0, hg1, hg2, hg3⟩, kW.2.2.2.1, kW.2.2.2.2.1, cE_copy kW.2.2.2.2.2 hE4 (fun h => if_pos (by omega)) (fun h => if_pos (by omega)) (fun h => if_pos (by omega)) (fun h => if_pos (by omega))⟩⟩, kB, kPP⟩, hM0⟩
  · refine gT_n 2 ?_
    refine px_lt (X := k) (Y := (0)) (rfl) (rfl) (fun κ1 => ?_) (fun κ1 => ?_)
    · refine gT_n 2 ?_
      exact ⟨_, _, I, J, P, rfl, rfl, ⟨(pif_neg hh).mpr ⟨rfl, rfl⟩, hO0⟩, hC0, hM0⟩
    · refine gT_n 3 ?_
      refine px_lt (X := k) (Y := (2)) (rfl) (rfl) (fun κ2 => ?_) (fun κ2 => ?_)
      · exact absurd (inZ_of (n := 2) (by decide) κ1 (Int32.not_le.mpr κ2)) hh
      · refine gT_n 2 ?_
        exact ⟨_, _, I, J, P, rfl, rfl, ⟨(pif_neg hh).mpr ⟨rfl, rfl⟩, hO0⟩, hC0, hM0⟩
