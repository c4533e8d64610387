/-! the cache told; numbers of the whole -/
theorem rngs8 {a : Int32} (h : 0 ≤ a ∧ a ≤ 8) : a = 0 ∨ a = 1 ∨ a = 2 ∨ a = 3 ∨ a = 4 ∨ a = 5 ∨ a = 6 ∨ a = 7 ∨ a = 8 := by
  obtain ⟨k, hk, rfl⟩ := rngN (n := 8) (by omega) h
  have : k = 0 ∨ k = 1 ∨ k = 2 ∨ k = 3 ∨ k = 4 ∨ k = 5 ∨ k = 6 ∨ k = 7 ∨ k = 8 := by omega
  rcases this with rfl | rfl | rfl | rfl | rfl | rfl | rfl | rfl | rfl
  · exact Or.inl rfl
  · exact Or.inr (Or.inl rfl)
  · exact Or.inr (Or.inr (Or.inl rfl))
  · exact Or.inr (Or.inr (Or.inr (Or.inl rfl)))
  · exact Or.inr (Or.inr (Or.inr (Or.inr (Or.inl rfl))))
  · exact Or.inr (Or.inr (Or.inr (Or.inr (Or.inr (Or.inl rfl)))))
  · exact Or.inr (Or.inr (Or.inr (Or.inr (Or.inr (Or.inr (Or.inl rfl))))))
  · exact Or.inr (Or.inr (Or.inr (Or.inr (Or.inr (Or.inr (Or.inr (Or.inl rfl)))))))
  · exact Or.inr (Or.inr (Or.inr (Or.inr (Or.inr (Or.inr (Or.inr (Or.inr (rfl))))))))
theorem rngs6 {a : Int32} (h : 0 ≤ a ∧ a ≤ 6) : a = 0 ∨ a = 1 ∨ a = 2 ∨ a = 3 ∨ a = 4 ∨ a = 5 ∨ a = 6 := by
  obtain ⟨k, hk, rfl⟩ := rngN (n := 6) (by omega) h
  have : k = 0 ∨ k = 1 ∨ k = 2 ∨ k = 3 ∨ k = 4 ∨ k = 5 ∨ k = 6 := by omega
  rcases this with rfl | rfl | rfl | rfl | rfl | rfl | rfl
  · exact Or.inl rfl
  · exact Or.inr (Or.inl rfl)
  · exact Or.inr (Or.inr (Or.inl rfl))
  · exact Or.inr (Or.inr (Or.inr (Or.inl rfl)))
  · exact Or.inr (Or.inr (Or.inr (Or.inr (Or.inl rfl))))
  · exact Or.inr (Or.inr (Or.inr (Or.inr (Or.inr (Or.inl rfl)))))
  · exact Or.inr (Or.inr (Or.inr (Or.inr (Or.inr (Or.inr (rfl))))))
def eal (ck : Int32) (l : List zE) (j : Nat) : Prop := ck.toInt64 < (eg l j).2.2.2
def nal (ck : Int32) (l : List zE) : Nat → Nat
  | 0 => 0
  | j + 1 => if ck.toInt64 < (eg l j).2.2.2 then nal ck l j + 1 else nal ck l j
theorem nal_y {ck : Int32} {l : List zE} {j : Nat} (h : ck.toInt64 < (eg l j).2.2.2) : nal ck l (j + 1) = nal ck l j + 1 := if_pos h
theorem nal_n {ck : Int32} {l : List zE} {j : Nat} (h : ¬ ck.toInt64 < (eg l j).2.2.2) : nal ck l (j + 1) = nal ck l j := if_neg h
theorem eRow {I : Nat → Nat → Int32} {J : Nat → Nat → Int64} {P : Nat → Nat} {j : Nat} (hj : j < 4) : gar (gST I J P) (30 + j) = some 0 ∧ gln (gST I J P) (30 + j) = 3 ∧ gRf P 29 j = some (30 + j) ∧ ksel (I 30) (I 31) (I 32) (I 33) j = I (30 + j) := by
  have : j = 0 ∨ j = 1 ∨ j = 2 ∨ j = 3 := by omega
  rcases this with rfl | rfl | rfl | rfl <;> exact ⟨rfl, rfl, rfl, rfl⟩
theorem c_isAlive {d j : Nat} {ck : Int32} {l : List zE} {I : Nat → Nat → Int32} {J : Nat → Nat → Int64} {P : Nat → Nat} (h4 : l.length ≤ 4) (hE : cE (I 25 4) (I 26) (I 27) (J 28) (ksel (I 30) (I 31) (I 32) (I 33)) l) (hj : j < l.length) : gTM d 2 [.ref 25, .int (nI j), .int ck] (gST I J P) (gB (gST I J P) (ck.toInt64 < (eg l j).2.2.2)) := by
  refine gT_n 2 ?_
  refine ⟨fun c => absurd c (nI_pos (by omega)), fun _ => ?_⟩
  refine gT_n 4 ?_
  refine ⟨rfl, pk_le l.length j (fun κ1 => ?_) (fun κ1 => ?_) (hE.1) (rfl) (by omega) (by omega)⟩
  · refine gT_n 2 ?_
    refine ⟨(Or.inl rfl), ?_⟩
    exact absurd hj (by omega)
  · refine gT_n 8 ?_
    refine ⟨rfl, rfl, (pk_in j 4 (by omega) (rfl)), pj_ge (X := (ck).toInt64) (Y := (eg l j).2.2.2) (rfl) ((rdJ (rfl) (by omega) (hE.2 j (by omega)).2.2.1)) (fun κ2 => ?_) (fun κ2 => ?_)⟩
    · refine gT_n 2 ?_
      refine ⟨(Or.inl rfl), ?_⟩
      exact ⟨rfl, Or.inr ⟨rfl, κ2⟩⟩
    · refine gT_n 3 ?_
      refine ⟨(Or.inr rfl), ?_⟩
      exact ⟨rfl, Or.inl ⟨rfl, κ2⟩⟩
theorem c_alive {d : Nat} {ck : Int32} {l : List zE} {I : Nat → Nat → Int32} {J : Nat → Nat → Int64} {P : Nat → Nat} (h4 : l.length ≤ 4) (hE : cE (I 25 4) (I 26) (I 27) (J 28) (ksel (I 30) (I 31) (I 32) (I 33)) l) : gTM (d + 1) 3 [.ref 25, .int ck] (gST I J P) (fun r u => u = gST I J P ∧ r = some (.int (nI (nal ck l l.length)))) := by
  have loop : ∀ j, j ≤ l.length → gT (d + 1) 3 4 [(3, .int (nI j)), (2, .int (nI (nal ck l j))), (0, .ref 25), (1, .int ck)] [] (0, 0) (gST I J P) (fun r u => u = gST I J P ∧ r = some (.int (nI (nal ck l l.length)))) := by
    refine loopU l.length (fun j hj ih => ?_)
    refine gT_n 4 ?_
    refine ⟨rfl, pk_le l.length j (fun κ1 => ?_) (fun κ1 => ?_) (hE.1) (rfl) (by omega) (by omega)⟩
    · refine gT_n 2 ?_
      exact ⟨rfl, ri (by rw [show j = l.length by omega])⟩
    · refine gT_n 4 ?_
      refine ⟨rfl, rfl, gTM.use (c_isAlive h4 hE (by omega)) (Nat.le_refl _) (fun r u hq => ?_)⟩
      obtain ⟨rfl, ⟨rfl, β2⟩ | ⟨rfl, β2⟩⟩ := hq  -- X0_isAlive[R25, nI j, ck]
      · refine gT_n 1 ?_
        refine ⟨fun c => absurd c (by decide), fun _ => ?_⟩
        refine gT_n 3 ?_
        have e := ih (j + 1) (by omega) (by omega)
        rw [nal_y β2, ← nI_1 (nal ck l j), ← nI_1 j] at e
        exact e
      · refine gT_n 1 ?_
        refine ⟨fun _ => ?_, fun c => absurd (by decide) c⟩
        refine gT_n 2 ?_
        have e := ih (j + 1) (by omega) (by omega)
        rw [nal_n β2, ← nI_1 j] at e
        exact e
  refine gT_n 4 ?_
  exact loop 0 (by omega)
theorem m_alive {d : Nat} {ck : Int32} {l : List zE} {I : Nat → Nat → Int32} {J : Nat → Nat → Int64} {P : Nat → Nat} (h4 : l.length ≤ 4) (hE : mE (I 171 56) (I 202) (I 203) (J 205) (I 204) l) (hk : I 171 15 = ck) : gTM d 209 [.ref 171] (gST I J P) (fun r u => u = gST I J P ∧ r = some (.int (nI (nal ck l l.length)))) := by
  have loop : ∀ j, j ≤ l.length → gT d 209 4 [(2, .int (nI j)), (1, .int (nI (nal ck l j))), (0, .ref 171)] [] (0, 0) (gST I J P) (fun r u => u = gST I J P ∧ r = some (.int (nI (nal ck l l.length)))) := by
    refine loopU l.length (fun j hj ih => ?_)
    refine gT_n 4 ?_
    refine ⟨rfl, pk_le l.length j (fun κ1 => ?_) (fun κ1 => ?_) (hE.1) (rfl) (by omega) (by omega)⟩
    · refine gT_n 2 ?_
      exact ⟨rfl, ri (by rw [show j = l.length by omega])⟩
    · refine gT_n 10 ?_
      refine ⟨rfl, rfl, rfl, (pk_in j 5 (by omega) (rfl)), pj_ge (X := (ck).toInt64) (Y := (eg l j).2.2.2) ((congrArg Int32.toInt64 (hk))) ((rdJ (rfl) (by omega) (hE.2 j (by omega)).2.2.1)) (fun κ2 => ?_) (fun κ2 => ?_)⟩
      · refine gT_n 3 ?_
        refine gT_k (L := [(1, .int (nI ((nal ck l j) + 0))), (2, .int (nI j)), (0, .ref 171)]) ?_ ⟨(viI (pk_addE (n := (nal ck l j)) (k := 0) (rfl) (rfl))), rfl, rfl, trivial⟩ rfl
        refine gT_n 2 ?_
        have e := ih (j + 1) (by omega) (by omega)
        rw [nal_n κ2, ← nI_1 j] at e
        exact e
      · refine gT_n 4 ?_
        refine gT_k (L := [(1, .int (nI ((nal ck l j) + 1))), (2, .int (nI j)), (0, .ref 171)]) ?_ ⟨(viI (pk_addE (n := (nal ck l j)) (k := 1) (rfl) (rfl))), rfl, rfl, trivial⟩ rfl
        refine gT_n 2 ?_
        have e := ih (j + 1) (by omega) (by omega)
        rw [nal_y κ2, ← nI_1 j] at e
        exact e
  refine gT_n 4 ?_
  exact loop 0 (by omega)
def rvF (s : zS) : Nat → Int32
  | 0 => nI s.2.2.1.1
  | 1 => nI s.2.2.2.1.1.length
  | 2 => s.2.2.2.1.2.2.2.2.1
  | 3 => nI s.2.2.1.2.2.2
  | 4 => match s.2.2.2.2.2.1 with
    | none => -4
    | some q => nI q.1.length
  | 5 => nI s.2.2.2.1.2.2.2.2.2.length
  | 6 => nI (nal s.2.2.2.1.2.2.2.2.1 s.2.2.2.1.2.2.2.2.2 s.2.2.2.1.2.2.2.2.2.length)
  | 7 => nI s.1.1
  | 8 => bI s.2.2.2.2.2.2.2.1.isSome + bI s.2.2.2.2.2.2.2.2.isSome
  | _ => -1
theorem rlen {cn : Int32} {jn : Nat → Int64} {is iv : Nat → Int32} {l : zR} (h : mRp cn jn is iv l) : cn = nI l.length := by
  obtain ⟨lm, hp, hm⟩ := h
  rw [hm.1, hp.length_eq]
theorem o_rule_c {d : Nat} {s : zS} {I : Nat → Nat → Int32} {J : Nat → Nat → Int64} {P : Nat → Nat} {w : Int32} (hO : sOK s) (hC : RC s I J P) (hM : RM s I J) : gTM (d + 9) 128 [.ref 0, .int w] (gST I J P) (pC s (fun x s' => s' = s ∧ pif (0 ≤ w ∧ w ≤ 8) (x = rvF s w.toNatClampNeg) (x = -1))) := by
  obtain ⟨tp, fn, t, W, nm, pr, ch, i0, i1⟩ := s
  have hO0 := hO
  have hC0 := hC
  have hM0 := hM
  obtain ⟨oTp, oT, oW, oN, oP, oI0, oI1⟩ := hO
  obtain ⟨kTp, kF, kT, kW, kN, kP, kC, kI0, kI1, kB, kPP⟩ := hC
  obtain ⟨jTp, jF, jT, jSp, jW, jN, jP, jC, jI0, jI1, jB, jL⟩ := hM
  dsimp only at oTp oT oW oN oP oI0 oI1 kTp kF kT kW kN kP kC kI0 kI1 jTp jF jT jSp jW jN jP jC jI0 jI1
  try dsimp only
  by_cases h : 0 ≤ w ∧ w ≤ 8
  · rcases rngs8 h with rfl | rfl | rfl | rfl | rfl | rfl | rfl | rfl | rfl
    · refine gT_n 2 ?_
      refine ⟨fun _ => ?_, fun c => absurd rfl c⟩
      refine gT_n 4 ?_
      refine ⟨rfl, rfl, ?_⟩
      exact ⟨_, _, I, J, P, rfl, ri (kT.1.1), ⟨⟨rfl, (pif_pos h).mpr rfl⟩, hO0⟩, hC0, hM0⟩
    · refine gT_n 2 ?_
      refine ⟨fun c => absurd c (by decide), fun _ => ⟨fun _ => ?_, fun c => absurd rfl c⟩⟩
      refine gT_n 5 ?_
      refine ⟨rfl, rfl, rfl, ?_⟩
      exact ⟨_, _, I, J, P, rfl, ri (kW.1.1), ⟨⟨rfl, (pif_pos h).mpr rfl⟩, hO0⟩, hC0, hM0⟩
    · refine gT_n 2 ?_
      refine ⟨fun c => absurd c (by decide), fun _ => ⟨fun c => absurd c (by decide), fun _ => ⟨fun _ => ?_, fun c => absurd rfl c⟩⟩⟩
      refine gT_n 4 ?_
      refine ⟨rfl, rfl, ?_⟩
      exact ⟨_, _, I, J, P, rfl, ri (kW.2.2.2.2.1), ⟨⟨rfl, (pif_pos h).mpr rfl⟩, hO0⟩, hC0, hM0⟩
    · refine gT_n 2 ?_
      refine ⟨fun c => absurd c (by decide), fun _ => ⟨fun c => absurd c (by decide), fun _ => ⟨fun c => absurd c (by decide), fun _ => ⟨fun _ => ?_, fun c => absurd rfl c⟩⟩⟩⟩
      refine gT_n 4 ?_
      refine ⟨rfl, rfl, ?_⟩
      exact ⟨_, _, I, J, P, rfl, ri (kT.2.1), ⟨⟨rfl, (pif_pos h).mpr rfl⟩, hO0⟩, hC0, hM0⟩
    · cases pr with
      | none =>
        refine gT_n 2 ?_
        refine ⟨fun c => absurd c (by decide), fun _ => ⟨fun c => absurd c (by decide), fun _ => ⟨fun c => absurd c (by decide), fun _ => ⟨fun c => absurd c (by decide), fun _ => ⟨fun _ => ?_, fun c => absurd rfl c⟩⟩⟩⟩⟩
        refine gT_n 4 ?_
        refine ⟨rfl, rfl, fun _ => ?_, fun c => absurd (kpT (p := fun z : Int32 => z = 0) (show _ = (0 : Int32) from kP.1) (by decide)) c⟩
        refine gT_n 2 ?_
        exact ⟨_, _, I, J, P, rfl, ri (rfl), ⟨⟨rfl, (pif_pos h).mpr rfl⟩, hO0⟩, hC0, hM0⟩
      | some q =>
        refine gT_n 2 ?_
        refine ⟨fun c => absurd c (by decide), fun _ => ⟨fun c => absurd c (by decide), fun _ => ⟨fun c => absurd c (by decide), fun _ => ⟨fun c => absurd c (by decide), fun _ => ⟨fun _ => ?_, fun c => absurd rfl c⟩⟩⟩⟩⟩
        refine gT_n 4 ?_
        refine ⟨rfl, rfl, fun c => absurd c (kpT (p := fun z : Int32 => ¬ (z = 0)) (show _ = (1 : Int32) from kP.1) (by decide)), fun _ => ?_⟩
        refine gT_n 5 ?_
        refine ⟨rfl, rfl, ?_⟩
        exact ⟨_, _, I, J, P, rfl, ri ((kP.2 q rfl).1), ⟨⟨rfl, (pif_pos h).mpr rfl⟩, hO0⟩, hC0, hM0⟩
    · refine gT_n 2 ?_
      refine ⟨fun c => absurd c (by decide), fun _ => ⟨fun c => absurd c (by decide), fun _ => ⟨fun c => absurd c (by decide), fun _ => ⟨fun c => absurd c (by decide), fun _ => ⟨fun c => absurd c (by decide), fun _ => ⟨fun _ => ?_, fun c => absurd rfl c⟩⟩⟩⟩⟩⟩
      refine gT_n 5 ?_
      refine ⟨rfl, rfl, rfl, ?_⟩
      exact ⟨_, _, I, J, P, rfl, ri (kW.2.2.2.2.2.1), ⟨⟨rfl, (pif_pos h).mpr rfl⟩, hO0⟩, hC0, hM0⟩
    · refine gT_n 2 ?_
      refine ⟨fun c => absurd c (by decide), fun _ => ⟨fun c => absurd c (by decide), fun _ => ⟨fun c => absurd c (by decide), fun _ => ⟨fun c => absurd c (by decide), fun _ => ⟨fun c => absurd c (by decide), fun _ => ⟨fun c => absurd c (by decide), fun _ => ⟨fun _ => ?_, fun c => absurd rfl c⟩⟩⟩⟩⟩⟩⟩
      refine gT_n 7 ?_
      refine ⟨rfl, rfl, rfl, rfl, rfl, rfl, gTM.useA (c_alive oW.2.2.2.2.1 kW.2.2.2.2.2) (Nat.le_refl _) (aR (aI (kW.2.2.2.2.1) (rfl))) (fun r u hq => ?_)⟩
      obtain ⟨rfl, rfl⟩ := hq  -- X0_howManyAlive[R25, W.2.2.2.2.1]
      refine gT_n 1 ?_
      exact ⟨_, _, I, J, P, rfl, ri (rfl), ⟨⟨rfl, (pif_pos h).mpr rfl⟩, hO0⟩, hC0, hM0⟩
    · refine gT_n 2 ?_
      refine ⟨fun c => absurd c (by decide), fun _ => ⟨fun c => absurd c (by decide), fun _ => ⟨fun c => absurd c (by decide), fun _ => ⟨fun c => absurd c (by decide), fun _ => ⟨fun c => absurd c (by decide), fun _ => ⟨fun c => absurd c (by decide), fun _ => ⟨fun c => absurd c (by decide), fun _ => ⟨fun _ => ?_, fun c => absurd rfl c⟩⟩⟩⟩⟩⟩⟩⟩
      refine gT_n 4 ?_
      refine ⟨rfl, rfl, ?_⟩
      exact ⟨_, _, I, J, P, rfl, ri (kTp.1), ⟨⟨rfl, (pif_pos h).mpr rfl⟩, hO0⟩, hC0, hM0⟩
    · cases i0 with
      | none => cases i1 with
        | none =>
          refine gT_n 2 ?_
          refine ⟨fun c => absurd c (by decide), fun _ => ⟨fun c => absurd c (by decide), fun _ => ⟨fun c => absurd c (by decide), fun _ => ⟨fun c => absurd c (by decide), fun _ => ⟨fun c => absurd c (by decide), fun _ => ⟨fun c => absurd c (by decide), fun _ => ⟨fun c => absurd c (by decide), fun _ => ⟨fun c => absurd c (by decide), fun _ => ⟨fun _ => ?_, fun c => absurd rfl c⟩⟩⟩⟩⟩⟩⟩⟩⟩
          refine gT_n 5 ?_
          refine ⟨rfl, (Or.inr rfl), (pk_in 0 2 (by decide) rfl), fun _ => ?_, fun c => absurd (kpT (p := fun z : Int32 => z = 0) (show _ = (0 : Int32) from kI0.1) (by decide)) c⟩
          refine gT_n 6 ?_
          refine ⟨rfl, (Or.inr rfl), (pk_in 1 2 (by decide) rfl), fun _ => ?_, fun c => absurd (kpT (p := fun z : Int32 => z = 0) (show _ = (0 : Int32) from kI1.1) (by decide)) c⟩
          refine gT_n 3 ?_
          exact ⟨_, _, I, J, P, rfl, ri (rfl), ⟨⟨rfl, (pif_pos h).mpr rfl⟩, hO0⟩, hC0, hM0⟩
        | some q2 =>
          refine gT_n 2 ?_
          refine ⟨fun c => absurd c (by decide), fun _ => ⟨fun c => absurd c (by decide), fun _ => ⟨fun c => absurd c (by decide), fun _ => ⟨fun c => absurd c (by decide), fun _ => ⟨fun c => absurd c (by decide), fun _ => ⟨fun c => absurd c (by decide), fun _ => ⟨fun c => absurd c (by decide), fun _ => ⟨fun c => absurd c (by decide), fun _ => ⟨fun _ => ?_, fun c => absurd rfl c⟩⟩⟩⟩⟩⟩⟩⟩⟩
          refine gT_n 5 ?_
          refine ⟨rfl, (Or.inr rfl), (pk_in 0 2 (by decide) rfl), fun _ => ?_, fun c => absurd (kpT (p := fun z : Int32 => z = 0) (show _ = (0 : Int32) from kI0.1) (by decide)) c⟩
          refine gT_n 6 ?_
          refine ⟨rfl, (Or.inr rfl), (pk_in 1 2 (by decide) rfl), fun c => absurd c (kpT (p := fun z : Int32 => ¬ (z = 0)) (show _ = (1 : Int32) from kI1.1) (by decide)), fun _ => ?_⟩
          refine gT_n 4 ?_
          exact ⟨_, _, I, J, P, rfl, ri (rfl), ⟨⟨rfl, (pif_pos h).mpr rfl⟩, hO0⟩, hC0, hM0⟩
      | some q => cases i1 with
        | none =>
          refine gT_n 2 ?_
          refine ⟨fun c => absurd c (by decide), fun _ => ⟨fun c => absurd c (by decide), fun _ => ⟨fun c => absurd c (by decide), fun _ => ⟨fun c => absurd c (by decide), fun _ => ⟨fun c => absurd c (by decide), fun _ => ⟨fun c => absurd c (by decide), fun _ => ⟨fun c => absurd c (by decide), fun _ => ⟨fun c => absurd c (by decide), fun _ => ⟨fun _ => ?_, fun c => absurd rfl c⟩⟩⟩⟩⟩⟩⟩⟩⟩
          refine gT_n 5 ?_
          refine ⟨rfl, (Or.inr rfl), (pk_in 0 2 (by decide) rfl), fun c => absurd c (kpT (p := fun z : Int32 => ¬ (z = 0)) (show _ = (1 : Int32) from kI0.1) (by decide)), fun _ => ?_⟩
          refine gT_n 7 ?_
          refine ⟨rfl, (Or.inr rfl), (pk_in 1 2 (by decide) rfl), fun _ => ?_, fun c => absurd (kpT (p := fun z : Int32 => z = 0) (show _ = (0 : Int32) from kI1.1) (by decide)) c⟩
          refine gT_n 3 ?_
          exact ⟨_, _, I, J, P, rfl, ri (rfl), ⟨⟨rfl, (pif_pos h).mpr rfl⟩, hO0⟩, hC0, hM0⟩
        | some q2 =>
          refine gT_n 2 ?_
          refine ⟨fun c => absurd c (by decide), fun _ => ⟨fun c => absurd c (by decide), fun _ => ⟨fun c => absurd c (by decide), fun _ => ⟨fun c => absurd c (by decide), fun _ => ⟨fun c => absurd c (by decide), fun _ => ⟨fun c => absurd c (by decide), fun _ => ⟨fun c => absurd c (by decide), fun _ => ⟨fun c => absurd c (by decide), fun _ => ⟨fun _ => ?_, fun c => absurd rfl c⟩⟩⟩⟩⟩⟩⟩⟩⟩
          refine gT_n 5 ?_
          refine ⟨rfl, (Or.inr rfl), (pk_in 0 2 (by decide) rfl), fun c => absurd c (kpT (p := fun z : Int32 => ¬ (z = 0)) (show _ = (1 : Int32) from kI0.1) (by decide)), fun _ => ?_⟩
          refine gT_n 7 ?_
          refine ⟨rfl, (Or.inr rfl), (pk_in 1 2 (by decide) rfl), fun c => absurd c (kpT (p := fun z : Int32 => ¬ (z = 0)) (show _ = (1 : Int32) from kI1.1) (by decide)), fun _ => ?_⟩
          refine gT_n 4 ?_
          exact ⟨_, _, I, J, P, rfl, ri (rfl), ⟨⟨rfl, (pif_pos h).mpr rfl⟩, hO0⟩, hC0, hM0⟩
  · refine gT_n 2 ?_
    refine ⟨fun κ1 => ?_, fun _ => ⟨fun κ1 => ?_, fun _ => ⟨fun κ1 => ?_, fun _ => ⟨fun κ1 => ?_, fun _ => ⟨fun κ1 => ?_, fun _ => ⟨fun κ1 => ?_, fun _ => ⟨fun κ1 => ?_, fun _ => ⟨fun κ1 => ?_, fun _ => ⟨fun κ1 => ?_, fun _ => ?_⟩⟩⟩⟩⟩⟩⟩⟩⟩
    · exact absurd (by rw [κ1]; decide) h
    · exact absurd (by rw [κ1]; decide) h
    · exact absurd (by rw [κ1]; decide) h
    · exact absurd (by rw [κ1]; decide) h
    · exact absurd (by rw [κ1]; decide) h
    · exact absurd (by rw [κ1]; decide) h
    · exact absurd (by rw [κ1]; decide) h
    · exact absurd (by rw [κ1]; decide) h
    · exact absurd (by rw [κ1]; decide) h
    · refine gT_n 2 ?_
      exact ⟨_, _, I, J, P, rfl, rfl, ⟨⟨rfl, (pif_neg h).mpr rfl⟩, hO0⟩, hC0, hM0⟩
theorem o_rule_m {d : Nat} {s s' : zS} {x : Int32} {I : Nat → Nat → Int32} {J : Nat → Nat → Int64} {P : Nat → Nat} {w : Int32} (hO : sOK s) (hS : (fun x s' => s' = s ∧ pif (0 ≤ w ∧ w ≤ 8) (x = rvF s w.toNatClampNeg) (x = -1)) x s') (hC : RC s' I J P) (hM : RM s I J) : gTM (d + 9) 210 [.ref 171, .int w] (gST I J P) (pM x s') := by
  obtain ⟨tp, fn, t, W, nm, pr, ch, i0, i1⟩ := s
  have hO0 := hO
  have hM0 := hM
  obtain ⟨oTp, oT, oW, oN, oP, oI0, oI1⟩ := hO
  obtain ⟨jTp, jF, jT, jSp, jW, jN, jP, jC, jI0, jI1, jB, jL⟩ := hM
  dsimp only at oTp oT oW oN oP oI0 oI1 jTp jF jT jSp jW jN jP jC jI0 jI1
  try dsimp only at hS
  obtain ⟨rfl, hS⟩ := hS
  by_cases h : 0 ≤ w ∧ w ≤ 8
  · rcases rngs8 h with rfl | rfl | rfl | rfl | rfl | rfl | rfl | rfl | rfl
    · refine gT_n 2 ?_
      refine ⟨fun _ => ?_, fun c => absurd rfl c⟩
      refine gT_n 3 ?_
      refine ⟨rfl, ?_⟩
      exact ⟨I, J, P, rfl, ri (Eq.trans (jT.1) ((pif_pos h).mp hS).symm), hC, hM0⟩
    · refine gT_n 2 ?_
      refine ⟨fun c => absurd c (by decide), fun _ => ⟨fun _ => ?_, fun c => absurd rfl c⟩⟩
      refine gT_n 3 ?_
      refine ⟨rfl, ?_⟩
      exact ⟨I, J, P, rfl, ri (Eq.trans (rlen jW.1) ((pif_pos h).mp hS).symm), hC, hM0⟩
    · refine gT_n 2 ?_
      refine ⟨fun c => absurd c (by decide), fun _ => ⟨fun c => absurd c (by decide), fun _ => ⟨fun _ => ?_, fun c => absurd rfl c⟩⟩⟩
      refine gT_n 3 ?_
      refine ⟨rfl, ?_⟩
      exact ⟨I, J, P, rfl, ri (Eq.trans (jW.2.2.2.2.1) ((pif_pos h).mp hS).symm), hC, hM0⟩
    · refine gT_n 2 ?_
      refine ⟨fun c => absurd c (by decide), fun _ => ⟨fun c => absurd c (by decide), fun _ => ⟨fun c => absurd c (by decide), fun _ => ⟨fun _ => ?_, fun c => absurd rfl c⟩⟩⟩⟩
      refine gT_n 3 ?_
      refine ⟨rfl, ?_⟩
      exact ⟨I, J, P, rfl, ri (Eq.trans (jSp) ((pif_pos h).mp hS).symm), hC, hM0⟩
    · cases pr with
      | none =>
        refine gT_n 2 ?_
        refine ⟨fun c => absurd c (by decide), fun _ => ⟨fun c => absurd c (by decide), fun _ => ⟨fun c => absurd c (by decide), fun _ => ⟨fun c => absurd c (by decide), fun _ => ⟨fun _ => ?_, fun c => absurd rfl c⟩⟩⟩⟩⟩
        refine gT_n 3 ?_
        refine ⟨rfl, fun _ => ?_, fun c => absurd (kpT (p := fun z : Int32 => z = 0) (show _ = (0 : Int32) from jP.1) (by decide)) c⟩
        refine gT_n 2 ?_
        exact ⟨I, J, P, rfl, ri (Eq.trans (rfl) ((pif_pos h).mp hS).symm), hC, hM0⟩
      | some q =>
        refine gT_n 2 ?_
        refine ⟨fun c => absurd c (by decide), fun _ => ⟨fun c => absurd c (by decide), fun _ => ⟨fun c => absurd c (by decide), fun _ => ⟨fun c => absurd c (by decide), fun _ => ⟨fun _ => ?_, fun c => absurd rfl c⟩⟩⟩⟩⟩
        refine gT_n 3 ?_
        refine ⟨rfl, fun c => absurd c (kpT (p := fun z : Int32 => ¬ (z = 0)) (show _ = (1 : Int32) from jP.1) (by decide)), fun _ => ?_⟩
        refine gT_n 4 ?_
        refine ⟨rfl, ?_⟩
        exact ⟨I, J, P, rfl, ri (Eq.trans ((jP.2 q rfl).1) ((pif_pos h).mp hS).symm), hC, hM0⟩
    · refine gT_n 2 ?_
      refine ⟨fun c => absurd c (by decide), fun _ => ⟨fun c => absurd c (by decide), fun _ => ⟨fun c => absurd c (by decide), fun _ => ⟨fun c => absurd c (by decide), fun _ => ⟨fun c => absurd c (by decide), fun _ => ⟨fun _ => ?_, fun c => absurd rfl c⟩⟩⟩⟩⟩⟩
      refine gT_n 3 ?_
      refine ⟨rfl, ?_⟩
      exact ⟨I, J, P, rfl, ri (Eq.trans (jW.2.2.2.2.2.1) ((pif_pos h).mp hS).symm), hC, hM0⟩
    · refine gT_n 2 ?_
      refine ⟨fun c => absurd c (by decide), fun _ => ⟨fun c => absurd c (by decide), fun _ => ⟨fun c => absurd c (by decide), fun _ => ⟨fun c => absurd c (by decide), fun _ => ⟨fun c => absurd c (by decide), fun _ => ⟨fun c => absurd c (by decide), fun _ => ⟨fun _ => ?_, fun c => absurd rfl c⟩⟩⟩⟩⟩⟩⟩
      refine gT_n 2 ?_
      refine ⟨rfl, rfl, gTM.use (m_alive oW.2.2.2.2.1 jW.2.2.2.2.2 jW.2.2.2.2.1) (Nat.le_refl _) (fun r u hq => ?_)⟩
      obtain ⟨rfl, rfl⟩ := hq  -- X12_alive[R171]
      refine gT_n 1 ?_
      exact ⟨I, J, P, rfl, ri (Eq.trans (rfl) ((pif_pos h).mp hS).symm), hC, hM0⟩
    · refine gT_n 2 ?_
      refine ⟨fun c => absurd c (by decide), fun _ => ⟨fun c => absurd c (by decide), fun _ => ⟨fun c => absurd c (by decide), fun _ => ⟨fun c => absurd c (by decide), fun _ => ⟨fun c => absurd c (by decide), fun _ => ⟨fun c => absurd c (by decide), fun _ => ⟨fun c => absurd c (by decide), fun _ => ⟨fun _ => ?_, fun c => absurd rfl c⟩⟩⟩⟩⟩⟩⟩⟩
      refine gT_n 3 ?_
      refine ⟨rfl, ?_⟩
      exact ⟨I, J, P, rfl, ri (Eq.trans (jTp.1) ((pif_pos h).mp hS).symm), hC, hM0⟩
    · cases i0 with
      | none => cases i1 with
        | none =>
          refine gT_n 2 ?_
          refine ⟨fun c => absurd c (by decide), fun _ => ⟨fun c => absurd c (by decide), fun _ => ⟨fun c => absurd c (by decide), fun _ => ⟨fun c => absurd c (by decide), fun _ => ⟨fun c => absurd c (by decide), fun _ => ⟨fun c => absurd c (by decide), fun _ => ⟨fun c => absurd c (by decide), fun _ => ⟨fun c => absurd c (by decide), fun _ => ⟨fun _ => ?_, fun c => absurd rfl c⟩⟩⟩⟩⟩⟩⟩⟩⟩
          refine gT_n 5 ?_
          refine ⟨rfl, (Or.inr rfl), (pk_in 0 2 (by decide) rfl), fun _ => ?_, fun c => absurd (kpT (p := fun z : Int32 => z = 0) (show _ = (0 : Int32) from jI0.1) (by decide)) c⟩
          refine gT_n 6 ?_
          refine ⟨rfl, (Or.inr rfl), (pk_in 1 2 (by decide) rfl), fun _ => ?_, fun c => absurd (kpT (p := fun z : Int32 => z = 0) (show _ = (0 : Int32) from jI1.1) (by decide)) c⟩
          refine gT_n 3 ?_
          exact ⟨I, J, P, rfl, ri (Eq.trans (rfl) ((pif_pos h).mp hS).symm), hC, hM0⟩
        | some q2 =>
          refine gT_n 2 ?_
          refine ⟨fun c => absurd c (by decide), fun _ => ⟨fun c => absurd c (by decide), fun _ => ⟨fun c => absurd c (by decide), fun _ => ⟨fun c => absurd c (by decide), fun _ => ⟨fun c => absurd c (by decide), fun _ => ⟨fun c => absurd c (by decide), fun _ => ⟨fun c => absurd c (by decide), fun _ => ⟨fun c => absurd c (by decide), fun _ => ⟨fun _ => ?_, fun c => absurd rfl c⟩⟩⟩⟩⟩⟩⟩⟩⟩
          refine gT_n 5 ?_
          refine ⟨rfl, (Or.inr rfl), (pk_in 0 2 (by decide) rfl), fun _ => ?_, fun c => absurd (kpT (p := fun z : Int32 => z = 0) (show _ = (0 : Int32) from jI0.1) (by decide)) c⟩
          refine gT_n 6 ?_
          refine ⟨rfl, (Or.inr rfl), (pk_in 1 2 (by decide) rfl), fun c => absurd c (kpT (p := fun z : Int32 => ¬ (z = 0)) (show _ = (1 : Int32) from jI1.1) (by decide)), fun _ => ?_⟩
          refine gT_n 4 ?_
          exact ⟨I, J, P, rfl, ri (Eq.trans (rfl) ((pif_pos h).mp hS).symm), hC, hM0⟩
      | some q => cases i1 with
        | none =>
          refine gT_n 2 ?_
          refine ⟨fun c => absurd c (by decide), fun _ => ⟨fun c => absurd c (by decide), fun _ => ⟨fun c => absurd c (by decide), fun _ => ⟨fun c => absurd c (by decide), fun _ => ⟨fun c => absurd c (by decide), fun _ => ⟨fun c => absurd c (by decide), fun _ => ⟨fun c => absurd c (by decide), fun _ => ⟨fun c => absurd c (by decide), fun _ => ⟨fun _ => ?_, fun c => absurd rfl c⟩⟩⟩⟩⟩⟩⟩⟩⟩
          refine gT_n 5 ?_
          refine ⟨rfl, (Or.inr rfl), (pk_in 0 2 (by decide) rfl), fun c => absurd c (kpT (p := fun z : Int32 => ¬ (z = 0)) (show _ = (1 : Int32) from jI0.1) (by decide)), fun _ => ?_⟩
          refine gT_n 7 ?_
          refine ⟨rfl, (Or.inr rfl), (pk_in 1 2 (by decide) rfl), fun _ => ?_, fun c => absurd (kpT (p := fun z : Int32 => z = 0) (show _ = (0 : Int32) from jI1.1) (by decide)) c⟩
          refine gT_n 3 ?_
          exact ⟨I, J, P, rfl, ri (Eq.trans (rfl) ((pif_pos h).mp hS).symm), hC, hM0⟩
        | some q2 =>
          refine gT_n 2 ?_
          refine ⟨fun c => absurd c (by decide), fun _ => ⟨fun c => absurd c (by decide), fun _ => ⟨fun c => absurd c (by decide), fun _ => ⟨fun c => absurd c (by decide), fun _ => ⟨fun c => absurd c (by decide), fun _ => ⟨fun c => absurd c (by decide), fun _ => ⟨fun c => absurd c (by decide), fun _ => ⟨fun c => absurd c (by decide), fun _ => ⟨fun _ => ?_, fun c => absurd rfl c⟩⟩⟩⟩⟩⟩⟩⟩⟩
          refine gT_n 5 ?_
          refine ⟨rfl, (Or.inr rfl), (pk_in 0 2 (by decide) rfl), fun c => absurd c (kpT (p := fun z : Int32 => ¬ (z = 0)) (show _ = (1 : Int32) from jI0.1) (by decide)), fun _ => ?_⟩
          refine gT_n 7 ?_
          refine ⟨rfl, (Or.inr rfl), (pk_in 1 2 (by decide) rfl), fun c => absurd c (kpT (p := fun z : Int32 => ¬ (z = 0)) (show _ = (1 : Int32) from jI1.1) (by decide)), fun _ => ?_⟩
          refine gT_n 4 ?_
          exact ⟨I, J, P, rfl, ri (Eq.trans (rfl) ((pif_pos h).mp hS).symm), hC, hM0⟩
  · refine gT_n 2 ?_
    refine ⟨fun κ1 => ?_, fun _ => ⟨fun κ1 => ?_, fun _ => ⟨fun κ1 => ?_, fun _ => ⟨fun κ1 => ?_, fun _ => ⟨fun κ1 => ?_, fun _ => ⟨fun κ1 => ?_, fun _ => ⟨fun κ1 => ?_, fun _ => ⟨fun κ1 => ?_, fun _ => ⟨fun κ1 => ?_, fun _ => ?_⟩⟩⟩⟩⟩⟩⟩⟩⟩
    · exact absurd (by rw [κ1]; decide) h
    · exact absurd (by rw [κ1]; decide) h
    · exact absurd (by rw [κ1]; decide) h
    · exact absurd (by rw [κ1]; decide) h
    · exact absurd (by rw [κ1]; decide) h
    · exact absurd (by rw [κ1]; decide) h
    · exact absurd (by rw [κ1]; decide) h
    · exact absurd (by rw [κ1]; decide) h
    · exact absurd (by rw [κ1]; decide) h
    · refine gT_n 2 ?_
      exact ⟨I, J, P, rfl, ri ((pif_neg h).mp hS).symm, hC, hM0⟩
def enF (ck : Int32) (e : zE) : Nat → Int32
  | 0 => nI e.1
  | 1 => e.2.1
  | 2 => e.2.2.1.1
  | 3 => e.2.2.1.2.1
  | 4 => e.2.2.1.2.2
  | 5 => if ck.toInt64 < e.2.2.2 then 1 else 0
  | _ => if ck.toInt64 < e.2.2.2 then (e.2.2.2 - ck.toInt64).toInt32 else 0
def fEnt (s : zS) (i w x : Int32) : Prop := pif (¬ i < 0 ∧ (0 ≤ w ∧ w ≤ 6)) (pif (inZ s.2.2.2.1.2.2.2.2.2.length i) (∃ j, j < s.2.2.2.1.2.2.2.2.2.length ∧ i = nI j ∧ x = enF s.2.2.2.1.2.2.2.2.1 (eg s.2.2.2.1.2.2.2.2.2 j) w.toNatClampNeg) (x = -4)) (x = -1)
theorem fEnt_yes {s : zS} {j : Nat} {w x : Int32} (hj : j < s.2.2.2.1.2.2.2.2.2.length) (h4 : s.2.2.2.1.2.2.2.2.2.length ≤ 4) (h : 0 ≤ w ∧ w ≤ 6) : fEnt s (nI j) w x ↔ x = enF s.2.2.2.1.2.2.2.2.1 (eg s.2.2.2.1.2.2.2.2.2 j) w.toNatClampNeg := by
  unfold fEnt
  rw [pif_pos ⟨nI_pos (by omega), h⟩, pif_pos ⟨j, hj, rfl⟩]
  constructor
  · rintro ⟨m, hm, e, h⟩
    rw [(nI_eq (by omega) (by omega)).mp e]; exact h
  · exact fun h => ⟨j, hj, rfl, h⟩
theorem o_entry_c {d : Nat} {s : zS} {I : Nat → Nat → Int32} {J : Nat → Nat → Int64} {P : Nat → Nat} {i w : Int32} (hO : sOK s) (hC : RC s I J P) (hM : RM s I J) : gTM (d + 9) 139 [.ref 0, .int i, .int w] (gST I J P) (pC s (fun x s' => s' = s ∧ fEnt s i w x)) := by
  obtain ⟨tp, fn, t, W, nm, pr, ch, i0, i1⟩ := s
  have hO0 := hO
  have hC0 := hC
  have hM0 := hM
  obtain ⟨oTp, oT, oW, oN, oP, oI0, oI1⟩ := hO
  obtain ⟨kTp, kF, kT, kW, kN, kP, kC, kI0, kI1, kB, kPP⟩ := hC
  obtain ⟨jTp, jF, jT, jSp, jW, jN, jP, jC, jI0, jI1, jB, jL⟩ := hM
  dsimp only at oTp oT oW oN oP oI0 oI1 kTp kF kT kW kN kP kC kI0 kI1 jTp jF jT jSp jW jN jP jC jI0 jI1
  try dsimp only
  have h4 := oW.2.2.2.2.1
  by_cases hh : ¬ i < 0 ∧ (0 ≤ w ∧ w ≤ 6)
  · by_cases hj : inZ W.2.2.2.2.2.length i
    · obtain ⟨j, hj, rfl⟩ := hj
      obtain ⟨r1, r2, r3, r4⟩ := eRow (I := I) (J := J) (P := P) (j := j) (by omega)
      have hE := kW.2.2.2.2.2
      rcases rngs6 hh.2 with rfl | rfl | rfl | rfl | rfl | rfl | rfl
      · refine gT_n 2 ?_
        refine ⟨fun c => absurd c (nI_pos (by omega)), fun _ => ?_⟩
        refine gT_n 2 ?_
        refine ⟨fun c => absurd c (by decide), fun _ => ?_⟩
        refine gT_n 3 ?_
        refine ⟨fun _ => ?_, fun c => absurd (by decide) c⟩
        refine gT_n 6 ?_
        refine ⟨rfl, rfl, rfl, pk_lt j W.2.2.2.2.2.length (fun κ1 => ?_) (fun κ1 => ?_) (rfl) (hE.1) (by omega) (by omega)⟩
        · refine gT_n 9 ?_
          refine ⟨rfl, rfl, rfl, rfl, rfl, rfl, ?_⟩
          refine gT_n 2 ?_
          refine ⟨fun c => absurd c (nI_pos (by omega)), fun _ => ?_⟩
          refine gT_n 4 ?_
          refine ⟨rfl, pk_lt j W.2.2.2.2.2.length (fun _ => ?_) (fun c => by first | exact absurd κ1 c | exact absurd c κ1 | (exfalso; omega)) (rfl) (hE.1) (by omega) (by omega)⟩
          refine gT_n 2 ?_
          refine ⟨fun _ => ?_, fun c => absurd rfl c⟩
          refine gT_n 5 ?_
          refine ⟨rfl, rfl, (pk_in j 4 (by omega) (rfl)), ?_⟩
          show gT _ 139 52 _ _ _ _ _
          refine gT_n 1 ?_
          exact ⟨_, _, I, J, P, rfl, ri ((rdI (rfl) (by omega) (hE.2 j hj).1)), ⟨⟨rfl, (fEnt_yes hj h4 (by decide)).mpr (Eq.symm rfl)⟩, hO0⟩, hC0, hM0⟩
        · refine gT_n 2 ?_
          exact absurd hj (by omega)
      · refine gT_n 2 ?_
        refine ⟨fun c => absurd c (nI_pos (by omega)), fun _ => ?_⟩
        refine gT_n 2 ?_
        refine ⟨fun c => absurd c (by decide), fun _ => ?_⟩
        refine gT_n 3 ?_
        refine ⟨fun _ => ?_, fun c => absurd (by decide) c⟩
        refine gT_n 6 ?_
        refine ⟨rfl, rfl, rfl, pk_lt j W.2.2.2.2.2.length (fun κ1 => ?_) (fun κ1 => ?_) (rfl) (hE.1) (by omega) (by omega)⟩
        · refine gT_n 9 ?_
          refine ⟨rfl, rfl, rfl, rfl, rfl, rfl, ?_⟩
          refine gT_n 2 ?_
          refine ⟨fun c => absurd c (nI_pos (by omega)), fun _ => ?_⟩
          refine gT_n 4 ?_
          refine ⟨rfl, pk_lt j W.2.2.2.2.2.length (fun _ => ?_) (fun c => by first | exact absurd κ1 c | exact absurd c κ1 | (exfalso; omega)) (rfl) (hE.1) (by omega) (by omega)⟩
          refine gT_n 2 ?_
          refine ⟨fun c => absurd c (by decide), fun _ => ⟨fun _ => ?_, fun c => absurd rfl c⟩⟩
          refine gT_n 5 ?_
          refine ⟨rfl, rfl, (pk_in j 4 (by omega) (rfl)), ?_⟩
          show gT _ 139 52 _ _ _ _ _
          refine gT_n 1 ?_
          exact ⟨_, _, I, J, P, rfl, ri ((rdI (rfl) (by omega) (hE.2 j hj).2.1)), ⟨⟨rfl, (fEnt_yes hj h4 (by decide)).mpr (Eq.symm rfl)⟩, hO0⟩, hC0, hM0⟩
        · refine gT_n 2 ?_
          exact absurd hj (by omega)
      · refine gT_n 2 ?_
        refine ⟨fun c => absurd c (nI_pos (by omega)), fun _ => ?_⟩
        refine gT_n 2 ?_
        refine ⟨fun c => absurd c (by decide), fun _ => ?_⟩
        refine gT_n 3 ?_
        refine ⟨fun _ => ?_, fun c => absurd (by decide) c⟩
        refine gT_n 6 ?_
        refine ⟨rfl, rfl, rfl, pk_lt j W.2.2.2.2.2.length (fun κ1 => ?_) (fun κ1 => ?_) (rfl) (hE.1) (by omega) (by omega)⟩
        · refine gT_n 9 ?_
          refine ⟨rfl, rfl, rfl, rfl, rfl, rfl, ?_⟩
          refine gT_n 2 ?_
          refine ⟨fun c => absurd c (nI_pos (by omega)), fun _ => ?_⟩
          refine gT_n 4 ?_
          refine ⟨rfl, pk_lt j W.2.2.2.2.2.length (fun _ => ?_) (fun c => by first | exact absurd κ1 c | exact absurd c κ1 | (exfalso; omega)) (rfl) (hE.1) (by omega) (by omega)⟩
          refine gT_n 2 ?_
          refine ⟨fun c => absurd c (by decide), fun _ => ⟨fun c => absurd c (by decide), fun _ => ⟨fun _ => ?_, fun c => absurd rfl c⟩⟩⟩
          refine gT_n 4 ?_
          refine ⟨rfl, rfl, (pk_in j 4 (by omega) (rfl)), ?_⟩
          refine gT_top (aa_ref (rfl) (by omega) r3) ?_
          refine gT_n 5 ?_
          refine ⟨r1, (pk_inS (m := 3) (k := 0) (r2) (by decide) (rfl)), ?_⟩
          show gT _ 139 52 _ _ _ _ _
          refine gT_n 1 ?_
          exact ⟨_, _, I, J, P, rfl, ri ((Eq.trans (congrFun r4.symm 0) (hE.2 j hj).2.2.2.1)), ⟨⟨rfl, (fEnt_yes hj h4 (by decide)).mpr (Eq.symm rfl)⟩, hO0⟩, hC0, hM0⟩
        · refine gT_n 2 ?_
          exact absurd hj (by omega)
      · refine gT_n 2 ?_
        refine ⟨fun c => absurd c (nI_pos (by omega)), fun _ => ?_⟩
        refine gT_n 2 ?_
        refine ⟨fun c => absurd c (by decide), fun _ => ?_⟩
        refine gT_n 3 ?_
        refine ⟨fun _ => ?_, fun c => absurd (by decide) c⟩
        refine gT_n 6 ?_
        refine ⟨rfl, rfl, rfl, pk_lt j W.2.2.2.2.2.length (fun κ1 => ?_) (fun κ1 => ?_) (rfl) (hE.1) (by omega) (by omega)⟩
        · refine gT_n 9 ?_
          refine ⟨rfl, rfl, rfl, rfl, rfl, rfl, ?_⟩
          refine gT_n 2 ?_
          refine ⟨fun c => absurd c (nI_pos (by omega)), fun _ => ?_⟩
          refine gT_n 4 ?_
          refine ⟨rfl, pk_lt j W.2.2.2.2.2.length (fun _ => ?_) (fun c => by first | exact absurd κ1 c | exact absurd c κ1 | (exfalso; omega)) (rfl) (hE.1) (by omega) (by omega)⟩
          refine gT_n 2 ?_
          refine ⟨fun c => absurd c (by decide), fun _ => ⟨fun c => absurd c (by decide), fun _ => ⟨fun c => absurd c (by decide), fun _ => ⟨fun _ => ?_, fun c => absurd rfl c⟩⟩⟩⟩
          refine gT_n 4 ?_
          refine ⟨rfl, rfl, (pk_in j 4 (by omega) (rfl)), ?_⟩
          refine gT_top (aa_ref (rfl) (by omega) r3) ?_
          refine gT_n 5 ?_
          refine ⟨r1, (pk_inS (m := 3) (k := 1) (r2) (by decide) (rfl)), ?_⟩
          show gT _ 139 52 _ _ _ _ _
          refine gT_n 1 ?_
          exact ⟨_, _, I, J, P, rfl, ri ((Eq.trans (congrFun r4.symm 1) (hE.2 j hj).2.2.2.2.1)), ⟨⟨rfl, (fEnt_yes hj h4 (by decide)).mpr (Eq.symm rfl)⟩, hO0⟩, hC0, hM0⟩
        · refine gT_n 2 ?_
          exact absurd hj (by omega)
      · refine gT_n 2 ?_
        refine ⟨fun c => absurd c (nI_pos (by omega)), fun _ => ?_⟩
        refine gT_n 2 ?_
        refine ⟨fun c => absurd c (by decide), fun _ => ?_⟩
        refine gT_n 3 ?_
        refine ⟨fun _ => ?_, fun c => absurd (by decide) c⟩
        refine gT_n 6 ?_
        refine ⟨rfl, rfl, rfl, pk_lt j W.2.2.2.2.2.length (fun κ1 => ?_) (fun κ1 => ?_) (rfl) (hE.1) (by omega) (by omega)⟩
        · refine gT_n 9 ?_
          refine ⟨rfl, rfl, rfl, rfl, rfl, rfl, ?_⟩
          refine gT_n 2 ?_
          refine ⟨fun c => absurd c (nI_pos (by omega)), fun _ => ?_⟩
          refine gT_n 4 ?_
          refine ⟨rfl, pk_lt j W.2.2.2.2.2.length (fun _ => ?_) (fun c => by first | exact absurd κ1 c | exact absurd c κ1 | (exfalso; omega)) (rfl) (hE.1) (by omega) (by omega)⟩
          refine gT_n 2 ?_
          refine ⟨fun c => absurd c (by decide), fun _ => ⟨fun c => absurd c (by decide), fun _ => ⟨fun c => absurd c (by decide), fun _ => ⟨fun c => absurd c (by decide), fun _ => ⟨fun _ => ?_, fun c => absurd rfl c⟩⟩⟩⟩⟩
          refine gT_n 4 ?_
          refine ⟨rfl, rfl, (pk_in j 4 (by omega) (rfl)), ?_⟩
          refine gT_top (aa_ref (rfl) (by omega) r3) ?_
          refine gT_n 5 ?_
          refine ⟨r1, (pk_inS (m := 3) (k := 2) (r2) (by decide) (rfl)), ?_⟩
          show gT _ 139 52 _ _ _ _ _
          refine gT_n 1 ?_
          exact ⟨_, _, I, J, P, rfl, ri ((Eq.trans (congrFun r4.symm 2) (hE.2 j hj).2.2.2.2.2)), ⟨⟨rfl, (fEnt_yes hj h4 (by decide)).mpr (Eq.symm rfl)⟩, hO0⟩, hC0, hM0⟩
        · refine gT_n 2 ?_
          exact absurd hj (by omega)
      · refine gT_n 2 ?_
        refine ⟨fun c => absurd c (nI_pos (by omega)), fun _ => ?_⟩
        refine gT_n 2 ?_
        refine ⟨fun c => absurd c (by decide), fun _ => ?_⟩
        refine gT_n 3 ?_
        refine ⟨fun _ => ?_, fun c => absurd (by decide) c⟩
        refine gT_n 6 ?_
        refine ⟨rfl, rfl, rfl, pk_lt j W.2.2.2.2.2.length (fun κ1 => ?_) (fun κ1 => ?_) (rfl) (hE.1) (by omega) (by omega)⟩
        · refine gT_n 9 ?_
          refine ⟨rfl, rfl, rfl, rfl, rfl, rfl, ?_⟩
          refine gT_n 2 ?_
          refine ⟨fun c => absurd c (nI_pos (by omega)), fun _ => ?_⟩
          refine gT_n 4 ?_
          refine ⟨rfl, pk_lt j W.2.2.2.2.2.length (fun _ => ?_) (fun c => by first | exact absurd κ1 c | exact absurd c κ1 | (exfalso; omega)) (rfl) (hE.1) (by omega) (by omega)⟩
          refine gT_n 2 ?_
          refine ⟨fun c => absurd c (by decide), fun _ => ⟨fun c => absurd c (by decide), fun _ => ⟨fun c => absurd c (by decide), fun _ => ⟨fun c => absurd c (by decide), fun _ => ⟨fun c => absurd c (by decide), fun _ => ⟨fun _ => ?_, fun c => absurd rfl c⟩⟩⟩⟩⟩⟩
          refine gT_n 4 ?_
          refine ⟨rfl, rfl, gTM.useA (c_isAlive h4 hE hj) (Nat.le_refl _) (aR (aI (rfl) (aI (kW.2.2.2.2.1) (rfl)))) (fun r u hq => ?_)⟩
          obtain ⟨rfl, ⟨rfl, β2⟩ | ⟨rfl, β2⟩⟩ := hq  -- X0_isAlive[R25, nI j, W.2.2.2.2.1]
          · refine gT_n 1 ?_
            refine ⟨fun c => absurd c (by decide), fun _ => ?_⟩
            refine gT_n 3 ?_
            show gT _ 139 52 _ _ _ _ _
            refine gT_n 1 ?_
            exact ⟨_, _, I, J, P, rfl, ri (rfl), ⟨⟨rfl, (fEnt_yes hj h4 (by decide)).mpr (Eq.symm (if_pos β2))⟩, hO0⟩, hC0, hM0⟩
          · refine gT_n 1 ?_
            refine ⟨fun _ => ?_, fun c => absurd (by decide) c⟩
            refine gT_n 2 ?_
            show gT _ 139 52 _ _ _ _ _
            refine gT_n 1 ?_
            exact ⟨_, _, I, J, P, rfl, ri (rfl), ⟨⟨rfl, (fEnt_yes hj h4 (by decide)).mpr (Eq.symm (if_neg β2))⟩, hO0⟩, hC0, hM0⟩
        · refine gT_n 2 ?_
          exact absurd hj (by omega)
      · refine gT_n 2 ?_
        refine ⟨fun c => absurd c (nI_pos (by omega)), fun _ => ?_⟩
        refine gT_n 2 ?_
        refine ⟨fun c => absurd c (by decide), fun _ => ?_⟩
        refine gT_n 3 ?_
        refine ⟨fun _ => ?_, fun c => absurd (by decide) c⟩
        refine gT_n 6 ?_
        refine ⟨rfl, rfl, rfl, pk_lt j W.2.2.2.2.2.length (fun κ1 => ?_) (fun κ1 => ?_) (rfl) (hE.1) (by omega) (by omega)⟩
        · refine gT_n 9 ?_
          refine ⟨rfl, rfl, rfl, rfl, rfl, rfl, ?_⟩
          refine gT_n 2 ?_
          refine ⟨fun c => absurd c (nI_pos (by omega)), fun _ => ?_⟩
          refine gT_n 4 ?_
          refine ⟨rfl, pk_lt j W.2.2.2.2.2.length (fun _ => ?_) (fun c => by first | exact absurd κ1 c | exact absurd c κ1 | (exfalso; omega)) (rfl) (hE.1) (by omega) (by omega)⟩
          refine gT_n 2 ?_
          refine ⟨fun c => absurd c (by decide), fun _ => ⟨fun c => absurd c (by decide), fun _ => ⟨fun c => absurd c (by decide), fun _ => ⟨fun c => absurd c (by decide), fun _ => ⟨fun c => absurd c (by decide), fun _ => ⟨fun c => absurd c (by decide), fun _ => ?_⟩⟩⟩⟩⟩⟩
          refine gT_n 4 ?_
          refine ⟨rfl, rfl, gTM.useA (c_isAlive h4 hE hj) (Nat.le_refl _) (aR (aI (rfl) (aI (kW.2.2.2.2.1) (rfl)))) (fun r u hq => ?_)⟩
          obtain ⟨rfl, ⟨rfl, β2⟩ | ⟨rfl, β2⟩⟩ := hq  -- X0_isAlive[R25, nI j, W.2.2.2.2.1]
          · refine gT_n 1 ?_
            refine ⟨fun c => absurd c (by decide), fun _ => ?_⟩
            refine gT_n 10 ?_
            refine ⟨rfl, rfl, (pk_in j 4 (by omega) (rfl)), ?_⟩
            show gT _ 139 52 _ _ _ _ _
            refine gT_n 1 ?_
            exact ⟨_, _, I, J, P, rfl, ri ((congrArg Int64.toInt32 ((k2J (f := fun x y : Int64 => x - y) ((rdJ (rfl) (by omega) (hE.2 j hj).2.2.1)) ((congrArg Int32.toInt64 (kW.2.2.2.2.1))) rfl)))), ⟨⟨rfl, (fEnt_yes hj h4 (by decide)).mpr (Eq.symm (if_pos β2))⟩, hO0⟩, hC0, hM0⟩
          · refine gT_n 1 ?_
            refine ⟨fun _ => ?_, fun c => absurd (by decide) c⟩
            refine gT_n 2 ?_
            show gT _ 139 52 _ _ _ _ _
            refine gT_n 1 ?_
            exact ⟨_, _, I, J, P, rfl, ri (rfl), ⟨⟨rfl, (fEnt_yes hj h4 (by decide)).mpr (Eq.symm (if_neg β2))⟩, hO0⟩, hC0, hM0⟩
        · refine gT_n 2 ?_
          exact absurd hj (by omega)
    · refine gT_n 2 ?_
      refine px_lt (X := i) (Y := (0)) (rfl) (rfl) (fun κ1 => ?_) (fun κ1 => ?_)
      · refine gT_n 2 ?_
        exact absurd κ1 hh.1
      · refine gT_n 2 ?_
        refine px_lt (X := w) (Y := (0)) (rfl) (rfl) (fun κ2 => ?_) (fun κ2 => ?_)
        · refine gT_n 2 ?_
          exact absurd κ2 (Int32.not_lt.mpr hh.2.1)
        · refine gT_n 3 ?_
          refine px_le (X := w) (Y := (6)) (rfl) (rfl) (fun κ3 => ?_) (fun κ3 => ?_)
          · refine gT_n 6 ?_
            refine ⟨rfl, rfl, rfl, px_lt (X := i) (Y := nI W.2.2.2.2.2.length) (rfl) (kW.2.2.2.2.2.1) (fun κ4 => ?_) (fun κ4 => ?_)⟩
            · exact absurd (inZ_of (by omega) hh.1 (Int32.not_le.mpr κ4)) hj
            · refine gT_n 2 ?_
              exact ⟨_, _, I, J, P, rfl, rfl, ⟨⟨rfl, (pif_pos hh).mpr ((pif_neg hj).mpr rfl)⟩, hO0⟩, hC0, hM0⟩
          · refine gT_n 2 ?_
            exact absurd hh.2.2 κ3
  · refine gT_n 2 ?_
    refine px_lt (X := i) (Y := (0)) (rfl) (rfl) (fun κ1 => ?_) (fun κ1 => ?_)
    · refine gT_n 2 ?_
      exact ⟨_, _, I, J, P, rfl, rfl, ⟨⟨rfl, (pif_neg hh).mpr rfl⟩, hO0⟩, hC0, hM0⟩
    · refine gT_n 2 ?_
      refine px_lt (X := w) (Y := (0)) (rfl) (rfl) (fun κ2 => ?_) (fun κ2 => ?_)
      · refine gT_n 2 ?_
        exact ⟨_, _, I, J, P, rfl, rfl, ⟨⟨rfl, (pif_neg hh).mpr rfl⟩, hO0⟩, hC0, hM0⟩
      · refine gT_n 3 ?_
        refine px_le (X := w) (Y := (6)) (rfl) (rfl) (fun κ3 => ?_) (fun κ3 => ?_)
        · exact absurd ⟨κ1, Int32.not_lt.mp κ2, κ3⟩ hh
        · refine gT_n 2 ?_
          exact ⟨_, _, I, J, P, rfl, rfl, ⟨⟨rfl, (pif_neg hh).mpr rfl⟩, hO0⟩, hC0, hM0⟩
theorem o_entry_m {d : Nat} {s s' : zS} {x : Int32} {I : Nat → Nat → Int32} {J : Nat → Nat → Int64} {P : Nat → Nat} {i w : Int32} (hO : sOK s) (hS : (fun x s' => s' = s ∧ fEnt s i w x) x s') (hC : RC s' I J P) (hM : RM s I J) : gTM (d + 9) 259 [.ref 171, .int i, .int w] (gST I J P) (pM x s') := by
  obtain ⟨tp, fn, t, W, nm, pr, ch, i0, i1⟩ := s
  have hO0 := hO
  have hM0 := hM
  obtain ⟨oTp, oT, oW, oN, oP, oI0, oI1⟩ := hO
  obtain ⟨jTp, jF, jT, jSp, jW, jN, jP, jC, jI0, jI1, jB, jL⟩ := hM
  dsimp only at oTp oT oW oN oP oI0 oI1 jTp jF jT jSp jW jN jP jC jI0 jI1
  try dsimp only at hS
  obtain ⟨rfl, hS⟩ := hS
  have h4 := oW.2.2.2.2.1
  by_cases hh : ¬ i < 0 ∧ (0 ≤ w ∧ w ≤ 6)
  · by_cases hj : inZ W.2.2.2.2.2.length i
    · obtain ⟨j, hj, rfl⟩ := hj
      have hE := jW.2.2.2.2.2
      rcases rngs6 hh.2 with rfl | rfl | rfl | rfl | rfl | rfl | rfl
      · refine gT_n 2 ?_
        refine ⟨fun c => absurd c (nI_pos (by omega)), fun _ => ?_⟩
        refine gT_n 5 ?_
        refine ⟨rfl, gTM.use (m_in1 (x := 0) (z := 6) rfl rfl (by decide)) (Nat.le_refl _) (fun r u hq => ?_)⟩
        obtain ⟨rfl, rfl⟩ := hq  -- X12_in[i2l(K0), lN 0, lN 6]
        refine gT_n 1 ?_
        refine ⟨fun _ => ?_, fun c => absurd c (by decide)⟩
        refine gT_n 4 ?_
        refine ⟨rfl, pk_lt j W.2.2.2.2.2.length (fun κ1 => ?_) (fun κ1 => ?_) (rfl) (hE.1) (by omega) (by omega)⟩
        · refine gT_n 2 ?_
          refine ⟨fun _ => ?_, fun c => absurd rfl c⟩
          refine gT_n 5 ?_
          refine ⟨rfl, rfl, (pk_in j 5 (by omega) (rfl)), ?_⟩
          exact ⟨I, J, P, rfl, ri (Eq.trans ((rdI (rfl) (by omega) (hE.2 j hj).1)) (Eq.trans (Eq.symm rfl) ((fEnt_yes hj h4 (by decide)).mp hS).symm)), hC, hM0⟩
        · refine gT_n 2 ?_
          exact absurd hj (by omega)
      · refine gT_n 2 ?_
        refine ⟨fun c => absurd c (nI_pos (by omega)), fun _ => ?_⟩
        refine gT_n 5 ?_
        refine ⟨rfl, gTM.use (m_in1 (x := 0) (z := 6) rfl rfl (by decide)) (Nat.le_refl _) (fun r u hq => ?_)⟩
        obtain ⟨rfl, rfl⟩ := hq  -- X12_in[i2l(K1), lN 0, lN 6]
        refine gT_n 1 ?_
        refine ⟨fun _ => ?_, fun c => absurd c (by decide)⟩
        refine gT_n 4 ?_
        refine ⟨rfl, pk_lt j W.2.2.2.2.2.length (fun κ1 => ?_) (fun κ1 => ?_) (rfl) (hE.1) (by omega) (by omega)⟩
        · refine gT_n 2 ?_
          refine ⟨fun c => absurd c (by decide), fun _ => ⟨fun _ => ?_, fun c => absurd rfl c⟩⟩
          refine gT_n 5 ?_
          refine ⟨rfl, rfl, (pk_in j 5 (by omega) (rfl)), ?_⟩
          exact ⟨I, J, P, rfl, ri (Eq.trans ((rdI (rfl) (by omega) (hE.2 j hj).2.1)) (Eq.trans (Eq.symm rfl) ((fEnt_yes hj h4 (by decide)).mp hS).symm)), hC, hM0⟩
        · refine gT_n 2 ?_
          exact absurd hj (by omega)
      · refine gT_n 2 ?_
        refine ⟨fun c => absurd c (nI_pos (by omega)), fun _ => ?_⟩
        refine gT_n 5 ?_
        refine ⟨rfl, gTM.use (m_in1 (x := 0) (z := 6) rfl rfl (by decide)) (Nat.le_refl _) (fun r u hq => ?_)⟩
        obtain ⟨rfl, rfl⟩ := hq  -- X12_in[i2l(K2), lN 0, lN 6]
        refine gT_n 1 ?_
        refine ⟨fun _ => ?_, fun c => absurd c (by decide)⟩
        refine gT_n 4 ?_
        refine ⟨rfl, pk_lt j W.2.2.2.2.2.length (fun κ1 => ?_) (fun κ1 => ?_) (rfl) (hE.1) (by omega) (by omega)⟩
        · refine gT_n 2 ?_
          refine ⟨fun c => absurd c (by decide), fun _ => ⟨fun c => absurd c (by decide), fun _ => ⟨fun _ => ?_, fun c => absurd rfl c⟩⟩⟩
          refine gT_n 11 ?_
          refine ⟨rfl, rfl, (pk_in (((3 * j) + 2) - 2) 15 (by omega) (pk_subE (n := ((3 * j) + 2)) (k := 2) (pk_addE (n := (3 * j)) (k := 2) (pk_mulE (n := 3) (k := j) (rfl) (rfl)) (rfl)) (rfl) (by omega))), ?_⟩
          exact ⟨I, J, P, rfl, ri (Eq.trans ((rdI (Eq.trans (pk_subE (n := ((3 * j) + 2)) (k := 2) (pk_addE (n := (3 * j)) (k := 2) (pk_mulE (n := 3) (k := j) (rfl) (rfl)) (rfl)) (rfl) (by omega)) (congrArg nI (show (((3 * j) + 2) - 2) = 3 * j + 0 by omega))) (by omega) (hE.2 j hj).2.2.2.1)) (Eq.trans (Eq.symm rfl) ((fEnt_yes hj h4 (by decide)).mp hS).symm)), hC, hM0⟩
        · refine gT_n 2 ?_
          exact absurd hj (by omega)
      · refine gT_n 2 ?_
        refine ⟨fun c => absurd c (nI_pos (by omega)), fun _ => ?_⟩
        refine gT_n 5 ?_
        refine ⟨rfl, gTM.use (m_in1 (x := 0) (z := 6) rfl rfl (by decide)) (Nat.le_refl _) (fun r u hq => ?_)⟩
        obtain ⟨rfl, rfl⟩ := hq  -- X12_in[i2l(K3), lN 0, lN 6]
        refine gT_n 1 ?_
        refine ⟨fun _ => ?_, fun c => absurd c (by decide)⟩
        refine gT_n 4 ?_
        refine ⟨rfl, pk_lt j W.2.2.2.2.2.length (fun κ1 => ?_) (fun κ1 => ?_) (rfl) (hE.1) (by omega) (by omega)⟩
        · refine gT_n 2 ?_
          refine ⟨fun c => absurd c (by decide), fun _ => ⟨fun c => absurd c (by decide), fun _ => ⟨fun c => absurd c (by decide), fun _ => ⟨fun _ => ?_, fun c => absurd rfl c⟩⟩⟩⟩
          refine gT_n 11 ?_
          refine ⟨rfl, rfl, (pk_in (((3 * j) + 3) - 2) 15 (by omega) (pk_subE (n := ((3 * j) + 3)) (k := 2) (pk_addE (n := (3 * j)) (k := 3) (pk_mulE (n := 3) (k := j) (rfl) (rfl)) (rfl)) (rfl) (by omega))), ?_⟩
          exact ⟨I, J, P, rfl, ri (Eq.trans ((rdI (Eq.trans (pk_subE (n := ((3 * j) + 3)) (k := 2) (pk_addE (n := (3 * j)) (k := 3) (pk_mulE (n := 3) (k := j) (rfl) (rfl)) (rfl)) (rfl) (by omega)) (congrArg nI (show (((3 * j) + 3) - 2) = 3 * j + 1 by omega))) (by omega) (hE.2 j hj).2.2.2.2.1)) (Eq.trans (Eq.symm rfl) ((fEnt_yes hj h4 (by decide)).mp hS).symm)), hC, hM0⟩
        · refine gT_n 2 ?_
          exact absurd hj (by omega)
      · refine gT_n 2 ?_
        refine ⟨fun c => absurd c (nI_pos (by omega)), fun _ => ?_⟩
        refine gT_n 5 ?_
        refine ⟨rfl, gTM.use (m_in1 (x := 0) (z := 6) rfl rfl (by decide)) (Nat.le_refl _) (fun r u hq => ?_)⟩
        obtain ⟨rfl, rfl⟩ := hq  -- X12_in[i2l(K4), lN 0, lN 6]
        refine gT_n 1 ?_
        refine ⟨fun _ => ?_, fun c => absurd c (by decide)⟩
        refine gT_n 4 ?_
        refine ⟨rfl, pk_lt j W.2.2.2.2.2.length (fun κ1 => ?_) (fun κ1 => ?_) (rfl) (hE.1) (by omega) (by omega)⟩
        · refine gT_n 2 ?_
          refine ⟨fun c => absurd c (by decide), fun _ => ⟨fun c => absurd c (by decide), fun _ => ⟨fun c => absurd c (by decide), fun _ => ⟨fun c => absurd c (by decide), fun _ => ⟨fun _ => ?_, fun c => absurd rfl c⟩⟩⟩⟩⟩
          refine gT_n 11 ?_
          refine ⟨rfl, rfl, (pk_in (((3 * j) + 4) - 2) 15 (by omega) (pk_subE (n := ((3 * j) + 4)) (k := 2) (pk_addE (n := (3 * j)) (k := 4) (pk_mulE (n := 3) (k := j) (rfl) (rfl)) (rfl)) (rfl) (by omega))), ?_⟩
          exact ⟨I, J, P, rfl, ri (Eq.trans ((rdI (Eq.trans (pk_subE (n := ((3 * j) + 4)) (k := 2) (pk_addE (n := (3 * j)) (k := 4) (pk_mulE (n := 3) (k := j) (rfl) (rfl)) (rfl)) (rfl) (by omega)) (congrArg nI (show (((3 * j) + 4) - 2) = 3 * j + 2 by omega))) (by omega) (hE.2 j hj).2.2.2.2.2)) (Eq.trans (Eq.symm rfl) ((fEnt_yes hj h4 (by decide)).mp hS).symm)), hC, hM0⟩
        · refine gT_n 2 ?_
          exact absurd hj (by omega)
      · refine gT_n 2 ?_
        refine ⟨fun c => absurd c (nI_pos (by omega)), fun _ => ?_⟩
        refine gT_n 5 ?_
        refine ⟨rfl, gTM.use (m_in1 (x := 0) (z := 6) rfl rfl (by decide)) (Nat.le_refl _) (fun r u hq => ?_)⟩
        obtain ⟨rfl, rfl⟩ := hq  -- X12_in[i2l(K5), lN 0, lN 6]
        refine gT_n 1 ?_
        refine ⟨fun _ => ?_, fun c => absurd c (by decide)⟩
        refine gT_n 4 ?_
        refine ⟨rfl, pk_lt j W.2.2.2.2.2.length (fun κ1 => ?_) (fun κ1 => ?_) (rfl) (hE.1) (by omega) (by omega)⟩
        · refine gT_n 2 ?_
          refine ⟨fun c => absurd c (by decide), fun _ => ⟨fun c => absurd c (by decide), fun _ => ⟨fun c => absurd c (by decide), fun _ => ⟨fun c => absurd c (by decide), fun _ => ⟨fun c => absurd c (by decide), fun _ => ⟨fun _ => ?_, fun c => absurd rfl c⟩⟩⟩⟩⟩⟩
          refine gT_n 9 ?_
          refine ⟨rfl, rfl, rfl, (pk_in j 5 (by omega) (rfl)), pj_ge (X := (W.2.2.2.2.1).toInt64) (Y := (eg W.2.2.2.2.2 j).2.2.2) ((congrArg Int32.toInt64 (jW.2.2.2.2.1))) ((rdJ (rfl) (by omega) (hE.2 j hj).2.2.1)) (fun κ2 => ?_) (fun κ2 => ?_)⟩
          · refine gT_n 2 ?_
            exact ⟨I, J, P, rfl, ri (Eq.trans (rfl) (Eq.trans (Eq.symm (if_neg κ2)) ((fEnt_yes hj h4 (by decide)).mp hS).symm)), hC, hM0⟩
          · refine gT_n 3 ?_
            exact ⟨I, J, P, rfl, ri (Eq.trans (rfl) (Eq.trans (Eq.symm (if_pos κ2)) ((fEnt_yes hj h4 (by decide)).mp hS).symm)), hC, hM0⟩
        · refine gT_n 2 ?_
          exact absurd hj (by omega)
      · refine gT_n 2 ?_
        refine ⟨fun c => absurd c (nI_pos (by omega)), fun _ => ?_⟩
        refine gT_n 5 ?_
        refine ⟨rfl, gTM.use (m_in1 (x := 0) (z := 6) rfl rfl (by decide)) (Nat.le_refl _) (fun r u hq => ?_)⟩
        obtain ⟨rfl, rfl⟩ := hq  -- X12_in[i2l(K6), lN 0, lN 6]
        refine gT_n 1 ?_
        refine ⟨fun _ => ?_, fun c => absurd c (by decide)⟩
        refine gT_n 4 ?_
        refine ⟨rfl, pk_lt j W.2.2.2.2.2.length (fun κ1 => ?_) (fun κ1 => ?_) (rfl) (hE.1) (by omega) (by omega)⟩
        · refine gT_n 2 ?_
          refine ⟨fun c => absurd c (by decide), fun _ => ⟨fun c => absurd c (by decide), fun _ => ⟨fun c => absurd c (by decide), fun _ => ⟨fun c => absurd c (by decide), fun _ => ⟨fun c => absurd c (by decide), fun _ => ⟨fun c => absurd c (by decide), fun _ => ⟨fun _ => ?_, fun c => absurd rfl c⟩⟩⟩⟩⟩⟩⟩
          refine gT_n 9 ?_
          refine ⟨rfl, rfl, rfl, (pk_in j 5 (by omega) (rfl)), pj_ge (X := (W.2.2.2.2.1).toInt64) (Y := (eg W.2.2.2.2.2 j).2.2.2) ((congrArg Int32.toInt64 (jW.2.2.2.2.1))) ((rdJ (rfl) (by omega) (hE.2 j hj).2.2.1)) (fun κ2 => ?_) (fun κ2 => ?_)⟩
          · refine gT_n 2 ?_
            exact ⟨I, J, P, rfl, ri (Eq.trans (rfl) (Eq.trans (Eq.symm (if_neg κ2)) ((fEnt_yes hj h4 (by decide)).mp hS).symm)), hC, hM0⟩
          · refine gT_n 11 ?_
            refine ⟨rfl, rfl, (pk_in j 5 (by omega) (rfl)), rfl, ?_⟩
            exact ⟨I, J, P, rfl, ri (Eq.trans ((congrArg Int64.toInt32 ((k2J (f := fun x y : Int64 => x - y) ((rdJ (rfl) (by omega) (hE.2 j hj).2.2.1)) ((congrArg Int32.toInt64 (jW.2.2.2.2.1))) rfl)))) (Eq.trans (Eq.symm (if_pos κ2)) ((fEnt_yes hj h4 (by decide)).mp hS).symm)), hC, hM0⟩
        · refine gT_n 2 ?_
          exact absurd hj (by omega)
    · refine gT_n 2 ?_
      refine px_lt (X := i) (Y := (0)) (rfl) (rfl) (fun κ1 => ?_) (fun κ1 => ?_)
      · refine gT_n 2 ?_
        exact absurd κ1 hh.1
      · refine gT_n 5 ?_
        refine ⟨rfl, gTM.use (m_inI (x := 0) (z := 6) rfl rfl) (Nat.le_refl _) (fun r u hq => ?_)⟩
        obtain ⟨rfl, ⟨rfl, β2⟩ | ⟨rfl, β2⟩⟩ := hq  -- X12_in[L(w).toInt64, lN 0, lN 6]
        · refine gT_n 1 ?_
          refine ⟨fun _ => ?_, fun c => absurd c (by decide)⟩
          refine gT_n 4 ?_
          refine ⟨rfl, px_lt (X := i) (Y := nI W.2.2.2.2.2.length) (rfl) (jW.2.2.2.2.2.1) (fun κ3 => ?_) (fun κ3 => ?_)⟩
          · exact absurd (inZ_of (by omega) hh.1 (Int32.not_le.mpr κ3)) hj
          · refine gT_n 2 ?_
            exact ⟨I, J, P, rfl, ri ((pif_neg hj).mp ((pif_pos hh).mp hS)).symm, hC, hM0⟩
        · refine gT_n 1 ?_
          refine ⟨fun c => absurd (by decide) c, fun _ => ?_⟩
          refine gT_n 2 ?_
          exact absurd hh.2 β2
  · refine gT_n 2 ?_
    refine px_lt (X := i) (Y := (0)) (rfl) (rfl) (fun κ1 => ?_) (fun κ1 => ?_)
    · refine gT_n 2 ?_
      exact ⟨I, J, P, rfl, ri ((pif_neg hh).mp hS).symm, hC, hM0⟩
    · refine gT_n 5 ?_
      refine ⟨rfl, gTM.use (m_inI (x := 0) (z := 6) rfl rfl) (Nat.le_refl _) (fun r u hq => ?_)⟩
      obtain ⟨rfl, ⟨rfl, β2⟩ | ⟨rfl, β2⟩⟩ := hq  -- X12_in[L(w).toInt64, lN 0, lN 6]
      · refine gT_n 1 ?_
        refine ⟨fun _ => ?_, fun c => absurd c (by decide)⟩
        exact absurd ⟨κ1, β2⟩ hh
      · refine gT_n 1 ?_
        refine ⟨fun c => absurd (by decide) c, fun _ => ?_⟩
        refine gT_n 2 ?_
        exact ⟨I, J, P, rfl, ri ((pif_neg hh).mp hS).symm, hC, hM0⟩
