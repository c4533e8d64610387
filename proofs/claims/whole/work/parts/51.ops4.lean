/-! name -/
def nvF (f : Nat → Nat) (n z a k : Nat) : Nat → Int32
  | 0 => nI (cnt n)
  | 1 => nI z
  | 2 => if k = cnt n then 1 else 0
  | 3 => nI (f n)
  | 4 => if 0 < f n then nI a else -4
  | 5 => nI a
  | _ => nI k
def fNam (s : zS) (w x : Int32) : Prop := pif (0 ≤ w ∧ w ≤ 6) (∃ os a k, oIs os (fG s.2.2.1 s.2.2.2.1.1 (zof s.2.2.1 s.2.2.2.2.1)) ∧ os.length ≤ 28 ∧ isA os s.2.2.2.2.1 a ∧ isC os s.2.2.2.2.1 k ∧ x = nvF (fG s.2.2.1 s.2.2.2.1.1 (zof s.2.2.1 s.2.2.2.2.1)) s.2.2.2.2.1 (zof s.2.2.1 s.2.2.2.2.1) a k w.toNatClampNeg) (x = -1)
theorem isA_ex {l : zO} {f : Nat → Nat} {n : Nat} (h : oIs l f) : ∃ a, isA l n a := by
  have key : ∀ m, m ≤ l.length → (∀ i, m ≤ i → i < l.length → n ≤ (og l i).1) → ∃ a, isA l n a := by
    intro m
    induction m with
    | zero => exact fun h1 h2 => ⟨0, h1, fun i hi => absurd hi (Nat.not_lt_zero i), h2⟩
    | succ m ih =>
      intro h1 h2
      by_cases c : n ≤ (og l m).1
      · exact ih (by omega) (fun i a1 a2 => by
          by_cases g : i = m
          · rw [g]; exact c
          · exact h2 i (by omega) a2)
      · refine ⟨m + 1, h1, fun i hi => ?_, h2⟩
        by_cases g : i = m
        · rw [g]; omega
        · have := h.1 i m (by omega) (by omega); omega
  exact key l.length (Nat.le_refl _) (fun i a1 a2 => absurd a1 (by omega))
/-- an owner's place -/
theorem isA_at {l : zO} {f : Nat → Nat} {n a : Nat} (h : oIs l f) (ha : a < l.length) (e : (og l a).1 = n) : isA l n a := by
  refine ⟨Nat.le_of_lt ha, fun i hi => ?_, fun i h1 h2 => ?_⟩
  · rw [← e]; exact h.1 i a hi ha
  · rw [← e]
    by_cases g : i = a
    · rw [g]; exact Nat.le_refl _
    · exact Nat.le_of_lt (h.1 a i (by omega) h2)
theorem thr_C {t : zT} {l : zR} {os : zO} {n k : Nat} (hz : zOK t) (hr : rOK l) (hn : vn n) (ho : oIs os (fG t l (zof t n))) (hC : isC os n k) : (0 < fG t l (zof t n) n ∨ ∃ i, i < os.length ∧ nab n (og os i).1) ↔ k = cnt n := by
  rw [thr_rch ho hn]
  have hs : nfst n (cnt n) = n := nfst_self hn.1 (Nat.le_refl _) (cnt_le n)
  constructor
  · rintro ⟨i, hi, e⟩
    have h1 := hC.1
    rcases Nat.lt_or_ge k (cnt n) with q | q
    · exact absurd ⟨i, hi, by rw [e, hs]⟩ (hC.2.2 (cnt n) q (Nat.le_refl _))
    · omega
  · intro e
    subst e
    rcases hC.2.1 with q | ⟨i, hi, q⟩
    · obtain ⟨h0, e0⟩ := own_0 hz hr ho
      refine ⟨0, h0, ?_⟩
      rw [q]
      have hv := (ho.2.1 0 h0).2.2.2
      rw [nfst_0 hv.lt]
      rw [q, nfst_0 hn.lt] at hs
      exact hs
    · exact ⟨i, hi, by rw [q, hs]⟩
theorem o_name_c {d : Nat} {s : zS} {I : Nat → Nat → Int32} {J : Nat → Nat → Int64} {P : Nat → Nat} {w : Int32} (hO : sOK s) (hC : RC s I J P) (hM : RM s I J) : gTM (d + 14) 123 [.ref 0, .int w] (gST I J P) (pC s (fun x s' => fNam s w x ∧ s' = s)) := by
  obtain ⟨tp, fn, t, W, nm, pr, ch, i0, i1⟩ := s
  have hO0 := hO
  have hC0 := hC
  have hM0 := hM
  obtain ⟨oTp, oT, oW, oN, oP, oI0, oI1⟩ := hO
  obtain ⟨kTp, kF, kT, kW, kN, kP, kC, kI0, kI1, kB, kPP⟩ := hC
  obtain ⟨jTp, jF, jT, jSp, jW, jN, jP, jC, jI0, jI1, jB, jL⟩ := hM
  dsimp only at oTp oT oW oN oP oI0 oI1 kTp kF kT kW kN kP kC kI0 kI1 jTp jF jT jSp jW jN jP jC jI0 jI1
  try dsimp only
  have hzz := zof_lt oT nm
  by_cases hh : 0 ≤ w ∧ w ≤ 6
  · rcases rngs6 hh with rfl | rfl | rfl | rfl | rfl | rfl | rfl
    · refine gT_n 2 ?_
      refine ⟨fun c => absurd c (by decide), fun _ => ?_⟩
      refine gT_n 3 ?_
      refine ⟨fun _ => ?_, fun c => absurd (by decide) c⟩
      refine gT_n 2 ?_
      refine ⟨fun c => absurd (by decide) c, fun _ => ?_⟩
      refine gT_n 3 ?_
      refine ⟨rfl, rfl, gTM.useA (c_count oN.lt) (Nat.le_refl _) (aL (kN) (rfl)) (fun r u hq => ?_)⟩
      obtain ⟨rfl, rfl⟩ := hq  -- X3_count[lN nm]
      refine gT_n 1 ?_
      obtain ⟨os, hos, h28⟩ := o_ex oT oW.1 hzz
      obtain ⟨a, ha⟩ := isA_ex (n := nm) hos
      obtain ⟨k, hk⟩ := isC_ex (l := os) (n := nm)
      exact ⟨_, _, I, J, P, rfl, rfl, ⟨⟨(pif_pos hh).mpr ⟨os, a, k, hos, h28, ha, hk, rfl⟩, rfl⟩, hO0⟩, hC0, hM0⟩
    · refine gT_n 2 ?_
      refine ⟨fun c => absurd c (by decide), fun _ => ?_⟩
      refine gT_n 3 ?_
      refine ⟨fun _ => ?_, fun c => absurd (by decide) c⟩
      refine gT_n 2 ?_
      refine ⟨fun _ => ?_, fun c => absurd c (by decide)⟩
      refine gT_n 5 ?_
      refine ⟨rfl, rfl, rfl, rfl, gTM.useA (c_zoneOf_12 oT kT.1 oN.lt) (Nat.le_refl _) (aR (aL (kN) (rfl))) (fun r u hq => ?_)⟩
      obtain ⟨rfl, rfl⟩ := hq  -- X8_zoneOf[R12, lN nm]
      refine gT_n 4 ?_
      refine ⟨fun c => absurd (by decide) c, fun _ => ?_⟩
      refine gT_n 2 ?_
      obtain ⟨os, hos, h28⟩ := o_ex oT oW.1 hzz
      obtain ⟨a, ha⟩ := isA_ex (n := nm) hos
      obtain ⟨k, hk⟩ := isC_ex (l := os) (n := nm)
      exact ⟨_, _, I, J, P, rfl, rfl, ⟨⟨(pif_pos hh).mpr ⟨os, a, k, hos, h28, ha, hk, rfl⟩, rfl⟩, hO0⟩, hC0, hM0⟩
    · refine gT_n 2 ?_
      refine ⟨fun c => absurd c (by decide), fun _ => ?_⟩
      refine gT_n 3 ?_
      refine ⟨fun _ => ?_, fun c => absurd (by decide) c⟩
      refine gT_n 2 ?_
      refine ⟨fun _ => ?_, fun c => absurd c (by decide)⟩
      refine gT_n 5 ?_
      refine ⟨rfl, rfl, rfl, rfl, gTM.useA (c_zoneOf_12 oT kT.1 oN.lt) (Nat.le_refl _) (aR (aL (kN) (rfl))) (fun r u hq => ?_)⟩
      obtain ⟨rfl, rfl⟩ := hq  -- X8_zoneOf[R12, lN nm]
      refine gT_n 4 ?_
      refine ⟨fun _ => ?_, fun c => absurd c (by decide)⟩
      refine gT_n 4 ?_
      refine ⟨rfl, rfl, rfl, gTM.use (c_gather oT oW.1 kT kW.1 hzz) (Nat.le_refl _) (fun r u hq => ?_)⟩
      obtain ⟨rfl, c, A, B, os, rfl, hO, hos, h28⟩ := hq  -- X4_gather[R142, nI ((zof t nm))]
      refine gT_n 5 ?_
      refine ⟨rfl, rfl, rfl, rfl, gTM.useA (c_oix hos h28 hO oN.lt) (Nat.le_refl _) (aR (aL (kN) (rfl))) (fun r u hq => ?_)⟩
      obtain ⟨rfl, ⟨a, ha, ea, rfl⟩ | ⟨rfl, hno⟩⟩ := hq  -- X4_indexOf[R142, lN nm]
      · refine gT_n 3 ?_
        refine ⟨fun _ => ?_, fun c => absurd rfl c⟩
        refine gT_n 5 ?_
        refine ⟨rfl, rfl, rfl, rfl, gTM.useA (c_closest hos h28 hO oN) (Nat.le_refl _) (aR (aL (kN) (rfl))) (fun r u hq => ?_)⟩
        obtain ⟨rfl, k, hk, rfl⟩ := hq  -- X4_closestLabels[R142, lN nm]
        refine gT_n 3 ?_
        refine ⟨rfl, rfl, gTM.useA (c_count oN.lt) (Nat.le_refl _) (aL (kN) (rfl)) (fun r u hq => ?_)⟩
        obtain ⟨rfl, rfl⟩ := hq  -- X3_count[lN nm]
        refine gT_n 1 ?_
        refine pk_ne k ((cnt nm)) (fun κ1 => ?_) (fun κ1 => ?_) (rfl) (rfl) (by have := isC_le hk; omega) (by have := cnt_le nm; omega)
        · refine gT_n 2 ?_
          obtain ⟨a2, ha2⟩ := isA_ex (n := nm) hos
          exact ⟨_, _, oMI I c B, oMJ J A, P, rfl, ri (Eq.symm (if_neg κ1)), ⟨⟨(pif_pos hh).mpr ⟨os, a2, k, hos, h28, ha2, hk, rfl⟩, rfl⟩, hO0⟩, hC0, hM0⟩
        · refine gT_n 3 ?_
          obtain ⟨a2, ha2⟩ := isA_ex (n := nm) hos
          exact ⟨_, _, oMI I c B, oMJ J A, P, rfl, ri (Eq.symm (if_pos κ1)), ⟨⟨(pif_pos hh).mpr ⟨os, a2, k, hos, h28, ha2, hk, rfl⟩, rfl⟩, hO0⟩, hC0, hM0⟩
      · refine gT_n 3 ?_
        refine ⟨fun _ => ?_, fun c => absurd rfl c⟩
        refine gT_n 5 ?_
        refine ⟨rfl, rfl, rfl, rfl, gTM.useA (c_closest hos h28 hO oN) (Nat.le_refl _) (aR (aL (kN) (rfl))) (fun r u hq => ?_)⟩
        obtain ⟨rfl, k, hk, rfl⟩ := hq  -- X4_closestLabels[R142, lN nm]
        refine gT_n 3 ?_
        refine ⟨rfl, rfl, gTM.useA (c_count oN.lt) (Nat.le_refl _) (aL (kN) (rfl)) (fun r u hq => ?_)⟩
        obtain ⟨rfl, rfl⟩ := hq  -- X3_count[lN nm]
        refine gT_n 1 ?_
        refine pk_ne k ((cnt nm)) (fun κ2 => ?_) (fun κ2 => ?_) (rfl) (rfl) (by have := isC_le hk; omega) (by have := cnt_le nm; omega)
        · refine gT_n 2 ?_
          obtain ⟨a2, ha2⟩ := isA_ex (n := nm) hos
          exact ⟨_, _, oMI I c B, oMJ J A, P, rfl, ri (Eq.symm (if_neg κ2)), ⟨⟨(pif_pos hh).mpr ⟨os, a2, k, hos, h28, ha2, hk, rfl⟩, rfl⟩, hO0⟩, hC0, hM0⟩
        · refine gT_n 3 ?_
          obtain ⟨a2, ha2⟩ := isA_ex (n := nm) hos
          exact ⟨_, _, oMI I c B, oMJ J A, P, rfl, ri (Eq.symm (if_pos κ2)), ⟨⟨(pif_pos hh).mpr ⟨os, a2, k, hos, h28, ha2, hk, rfl⟩, rfl⟩, hO0⟩, hC0, hM0⟩
    · refine gT_n 2 ?_
      refine ⟨fun c => absurd c (by decide), fun _ => ?_⟩
      refine gT_n 3 ?_
      refine ⟨fun _ => ?_, fun c => absurd (by decide) c⟩
      refine gT_n 2 ?_
      refine ⟨fun _ => ?_, fun c => absurd c (by decide)⟩
      refine gT_n 5 ?_
      refine ⟨rfl, rfl, rfl, rfl, gTM.useA (c_zoneOf_12 oT kT.1 oN.lt) (Nat.le_refl _) (aR (aL (kN) (rfl))) (fun r u hq => ?_)⟩
      obtain ⟨rfl, rfl⟩ := hq  -- X8_zoneOf[R12, lN nm]
      refine gT_n 4 ?_
      refine ⟨fun _ => ?_, fun c => absurd c (by decide)⟩
      refine gT_n 4 ?_
      refine ⟨rfl, rfl, rfl, gTM.use (c_gather oT oW.1 kT kW.1 hzz) (Nat.le_refl _) (fun r u hq => ?_)⟩
      obtain ⟨rfl, c, A, B, os, rfl, hO, hos, h28⟩ := hq  -- X4_gather[R142, nI ((zof t nm))]
      refine gT_n 5 ?_
      refine ⟨rfl, rfl, rfl, rfl, gTM.useA (c_oix hos h28 hO oN.lt) (Nat.le_refl _) (aR (aL (kN) (rfl))) (fun r u hq => ?_)⟩
      obtain ⟨rfl, ⟨a, ha, ea, rfl⟩ | ⟨rfl, hno⟩⟩ := hq  -- X4_indexOf[R142, lN nm]
      · refine gT_n 3 ?_
        refine ⟨fun c => absurd c (by decide), fun _ => ⟨fun _ => ?_, fun c => absurd rfl c⟩⟩
        refine gT_n 2 ?_
        refine ⟨fun _ => ?_, fun c => absurd (nI_pos' (by omega)) c⟩
        refine gT_n 6 ?_
        refine ⟨rfl, rfl, rfl, (pk_in a 28 (by omega) (rfl)), ?_⟩
        obtain ⟨a2, ha2⟩ := isA_ex (n := nm) hos
        obtain ⟨k, hk⟩ := isC_ex (l := os) (n := nm)
        exact ⟨_, _, oMI I c B, oMJ J A, P, rfl, ri (Eq.trans (rdI (rfl) (by omega) (hO.2 a (by omega)).2) (congrArg nI ((hos.2.1 a ha).1.symm.trans (congrArg _ ea)))), ⟨⟨(pif_pos hh).mpr ⟨os, a2, k, hos, h28, ha2, hk, rfl⟩, rfl⟩, hO0⟩, hC0, hM0⟩
      · refine gT_n 3 ?_
        refine ⟨fun c => absurd c (by decide), fun _ => ⟨fun _ => ?_, fun c => absurd rfl c⟩⟩
        refine gT_n 2 ?_
        refine ⟨fun c => absurd c (by decide), fun _ => ?_⟩
        refine gT_n 3 ?_
        obtain ⟨a2, ha2⟩ := isA_ex (n := nm) hos
        obtain ⟨k, hk⟩ := isC_ex (l := os) (n := nm)
        exact ⟨_, _, oMI I c B, oMJ J A, P, rfl, ri (congrArg nI (Nat.eq_zero_of_not_pos (oIs_no hos hno)).symm), ⟨⟨(pif_pos hh).mpr ⟨os, a2, k, hos, h28, ha2, hk, rfl⟩, rfl⟩, hO0⟩, hC0, hM0⟩
    · refine gT_n 2 ?_
      refine ⟨fun c => absurd c (by decide), fun _ => ?_⟩
      refine gT_n 3 ?_
      refine ⟨fun _ => ?_, fun c => absurd (by decide) c⟩
      refine gT_n 2 ?_
      refine ⟨fun _ => ?_, fun c => absurd c (by decide)⟩
      refine gT_n 5 ?_
      refine ⟨rfl, rfl, rfl, rfl, gTM.useA (c_zoneOf_12 oT kT.1 oN.lt) (Nat.le_refl _) (aR (aL (kN) (rfl))) (fun r u hq => ?_)⟩
      obtain ⟨rfl, rfl⟩ := hq  -- X8_zoneOf[R12, lN nm]
      refine gT_n 4 ?_
      refine ⟨fun _ => ?_, fun c => absurd c (by decide)⟩
      refine gT_n 4 ?_
      refine ⟨rfl, rfl, rfl, gTM.use (c_gather oT oW.1 kT kW.1 hzz) (Nat.le_refl _) (fun r u hq => ?_)⟩
      obtain ⟨rfl, c, A, B, os, rfl, hO, hos, h28⟩ := hq  -- X4_gather[R142, nI ((zof t nm))]
      refine gT_n 5 ?_
      refine ⟨rfl, rfl, rfl, rfl, gTM.useA (c_oix hos h28 hO oN.lt) (Nat.le_refl _) (aR (aL (kN) (rfl))) (fun r u hq => ?_)⟩
      obtain ⟨rfl, ⟨a, ha, ea, rfl⟩ | ⟨rfl, hno⟩⟩ := hq  -- X4_indexOf[R142, lN nm]
      · refine gT_n 3 ?_
        refine ⟨fun c => absurd c (by decide), fun _ => ⟨fun c => absurd c (by decide), fun _ => ⟨fun _ => ?_, fun c => absurd rfl c⟩⟩⟩
        refine gT_n 2 ?_
        refine ⟨fun _ => ?_, fun c => absurd (nI_pos' (by omega)) c⟩
        refine gT_n 2 ?_
        obtain ⟨k, hk⟩ := isC_ex (l := os) (n := nm)
        exact ⟨_, _, oMI I c B, oMJ J A, P, rfl, ri (Eq.symm (if_pos (oIs_ye hos ha ea))), ⟨⟨(pif_pos hh).mpr ⟨os, a, k, hos, h28, isA_at hos ha ea, hk, rfl⟩, rfl⟩, hO0⟩, hC0, hM0⟩
      · refine gT_n 3 ?_
        refine ⟨fun c => absurd c (by decide), fun _ => ⟨fun c => absurd c (by decide), fun _ => ⟨fun _ => ?_, fun c => absurd rfl c⟩⟩⟩
        refine gT_n 2 ?_
        refine ⟨fun c => absurd c (by decide), fun _ => ?_⟩
        refine gT_n 3 ?_
        obtain ⟨k, hk⟩ := isC_ex (l := os) (n := nm)
        obtain ⟨a2, ha2⟩ := isA_ex (n := nm) hos
        exact ⟨_, _, oMI I c B, oMJ J A, P, rfl, ri (Eq.symm (if_neg (oIs_no hos hno))), ⟨⟨(pif_pos hh).mpr ⟨os, a2, k, hos, h28, ha2, hk, rfl⟩, rfl⟩, hO0⟩, hC0, hM0⟩
    · refine gT_n 2 ?_
      refine ⟨fun c => absurd c (by decide), fun _ => ?_⟩
      refine gT_n 3 ?_
      refine ⟨fun _ => ?_, fun c => absurd (by decide) c⟩
      refine gT_n 2 ?_
      refine ⟨fun _ => ?_, fun c => absurd c (by decide)⟩
      refine gT_n 5 ?_
      refine ⟨rfl, rfl, rfl, rfl, gTM.useA (c_zoneOf_12 oT kT.1 oN.lt) (Nat.le_refl _) (aR (aL (kN) (rfl))) (fun r u hq => ?_)⟩
      obtain ⟨rfl, rfl⟩ := hq  -- X8_zoneOf[R12, lN nm]
      refine gT_n 4 ?_
      refine ⟨fun _ => ?_, fun c => absurd c (by decide)⟩
      refine gT_n 4 ?_
      refine ⟨rfl, rfl, rfl, gTM.use (c_gather oT oW.1 kT kW.1 hzz) (Nat.le_refl _) (fun r u hq => ?_)⟩
      obtain ⟨rfl, c, A, B, os, rfl, hO, hos, h28⟩ := hq  -- X4_gather[R142, nI ((zof t nm))]
      refine gT_n 5 ?_
      refine ⟨rfl, rfl, rfl, rfl, gTM.useA (c_oix hos h28 hO oN.lt) (Nat.le_refl _) (aR (aL (kN) (rfl))) (fun r u hq => ?_)⟩
      obtain ⟨rfl, ⟨a, ha, ea, rfl⟩ | ⟨rfl, hno⟩⟩ := hq  -- X4_indexOf[R142, lN nm]
      · refine gT_n 3 ?_
        refine ⟨fun c => absurd c (by decide), fun _ => ⟨fun c => absurd c (by decide), fun _ => ⟨fun c => absurd c (by decide), fun _ => ⟨fun _ => ?_, fun c => absurd rfl c⟩⟩⟩⟩
        refine gT_n 5 ?_
        refine ⟨rfl, rfl, rfl, rfl, gTM.useA (c_ahead hos h28 hO oN.lt) (Nat.le_refl _) (aR (aL (kN) (rfl))) (fun r u hq => ?_)⟩
        obtain ⟨rfl, b, hb, rfl⟩ := hq  -- X4_howManyAhead[R142, lN nm]
        refine gT_n 1 ?_
        obtain ⟨k, hk⟩ := isC_ex (l := os) (n := nm)
        exact ⟨_, _, oMI I c B, oMJ J A, P, rfl, ri (rfl), ⟨⟨(pif_pos hh).mpr ⟨os, b, k, hos, h28, hb, hk, rfl⟩, rfl⟩, hO0⟩, hC0, hM0⟩
      · refine gT_n 3 ?_
        refine ⟨fun c => absurd c (by decide), fun _ => ⟨fun c => absurd c (by decide), fun _ => ⟨fun c => absurd c (by decide), fun _ => ⟨fun _ => ?_, fun c => absurd rfl c⟩⟩⟩⟩
        refine gT_n 5 ?_
        refine ⟨rfl, rfl, rfl, rfl, gTM.useA (c_ahead hos h28 hO oN.lt) (Nat.le_refl _) (aR (aL (kN) (rfl))) (fun r u hq => ?_)⟩
        obtain ⟨rfl, b, hb, rfl⟩ := hq  -- X4_howManyAhead[R142, lN nm]
        refine gT_n 1 ?_
        obtain ⟨k, hk⟩ := isC_ex (l := os) (n := nm)
        exact ⟨_, _, oMI I c B, oMJ J A, P, rfl, ri (rfl), ⟨⟨(pif_pos hh).mpr ⟨os, b, k, hos, h28, hb, hk, rfl⟩, rfl⟩, hO0⟩, hC0, hM0⟩
    · refine gT_n 2 ?_
      refine ⟨fun c => absurd c (by decide), fun _ => ?_⟩
      refine gT_n 3 ?_
      refine ⟨fun _ => ?_, fun c => absurd (by decide) c⟩
      refine gT_n 2 ?_
      refine ⟨fun _ => ?_, fun c => absurd c (by decide)⟩
      refine gT_n 5 ?_
      refine ⟨rfl, rfl, rfl, rfl, gTM.useA (c_zoneOf_12 oT kT.1 oN.lt) (Nat.le_refl _) (aR (aL (kN) (rfl))) (fun r u hq => ?_)⟩
      obtain ⟨rfl, rfl⟩ := hq  -- X8_zoneOf[R12, lN nm]
      refine gT_n 4 ?_
      refine ⟨fun _ => ?_, fun c => absurd c (by decide)⟩
      refine gT_n 4 ?_
      refine ⟨rfl, rfl, rfl, gTM.use (c_gather oT oW.1 kT kW.1 hzz) (Nat.le_refl _) (fun r u hq => ?_)⟩
      obtain ⟨rfl, c, A, B, os, rfl, hO, hos, h28⟩ := hq  -- X4_gather[R142, nI ((zof t nm))]
      refine gT_n 5 ?_
      refine ⟨rfl, rfl, rfl, rfl, gTM.useA (c_oix hos h28 hO oN.lt) (Nat.le_refl _) (aR (aL (kN) (rfl))) (fun r u hq => ?_)⟩
      obtain ⟨rfl, ⟨a, ha, ea, rfl⟩ | ⟨rfl, hno⟩⟩ := hq  -- X4_indexOf[R142, lN nm]
      · refine gT_n 3 ?_
        refine ⟨fun c => absurd c (by decide), fun _ => ⟨fun c => absurd c (by decide), fun _ => ⟨fun c => absurd c (by decide), fun _ => ⟨fun c => absurd c (by decide), fun _ => ?_⟩⟩⟩⟩
        refine gT_n 5 ?_
        refine ⟨rfl, rfl, rfl, rfl, gTM.useA (c_closest hos h28 hO oN) (Nat.le_refl _) (aR (aL (kN) (rfl))) (fun r u hq => ?_)⟩
        obtain ⟨rfl, k, hk, rfl⟩ := hq  -- X4_closestLabels[R142, lN nm]
        refine gT_n 1 ?_
        obtain ⟨a2, ha2⟩ := isA_ex (n := nm) hos
        exact ⟨_, _, oMI I c B, oMJ J A, P, rfl, ri (rfl), ⟨⟨(pif_pos hh).mpr ⟨os, a2, k, hos, h28, ha2, hk, rfl⟩, rfl⟩, hO0⟩, hC0, hM0⟩
      · refine gT_n 3 ?_
        refine ⟨fun c => absurd c (by decide), fun _ => ⟨fun c => absurd c (by decide), fun _ => ⟨fun c => absurd c (by decide), fun _ => ⟨fun c => absurd c (by decide), fun _ => ?_⟩⟩⟩⟩
        refine gT_n 5 ?_
        refine ⟨rfl, rfl, rfl, rfl, gTM.useA (c_closest hos h28 hO oN) (Nat.le_refl _) (aR (aL (kN) (rfl))) (fun r u hq => ?_)⟩
        obtain ⟨rfl, k, hk, rfl⟩ := hq  -- X4_closestLabels[R142, lN nm]
        refine gT_n 1 ?_
        obtain ⟨a2, ha2⟩ := isA_ex (n := nm) hos
        exact ⟨_, _, oMI I c B, oMJ J A, P, rfl, ri (rfl), ⟨⟨(pif_pos hh).mpr ⟨os, a2, k, hos, h28, ha2, hk, rfl⟩, rfl⟩, hO0⟩, hC0, hM0⟩
  · refine gT_n 2 ?_
    refine px_lt (X := w) (Y := (0)) (rfl) (rfl) (fun κ1 => ?_) (fun κ1 => ?_)
    · refine gT_n 2 ?_
      exact ⟨_, _, I, J, P, rfl, rfl, ⟨⟨(pif_neg hh).mpr rfl, rfl⟩, hO0⟩, hC0, hM0⟩
    · refine gT_n 3 ?_
      refine px_le (X := w) (Y := (6)) (rfl) (rfl) (fun κ2 => ?_) (fun κ2 => ?_)
      · exact absurd ⟨Int32.not_lt.mp κ1, κ2⟩ hh
      · refine gT_n 2 ?_
        exact ⟨_, _, I, J, P, rfl, rfl, ⟨⟨(pif_neg hh).mpr rfl, rfl⟩, hO0⟩, hC0, hM0⟩
theorem o_name_m {d : Nat} {s s' : zS} {x : Int32} {I : Nat → Nat → Int32} {J : Nat → Nat → Int64} {P : Nat → Nat} {w : Int32} (hO : sOK s) (hS : (fun x s' => fNam s w x ∧ s' = s) x s') (hC : RC s' I J P) (hM : RM s I J) : gTM (d + 14) 204 [.ref 171, .int w] (gST I J P) (pM x s') := by
  obtain ⟨tp, fn, t, W, nm, pr, ch, i0, i1⟩ := s
  have hO0 := hO
  have hM0 := hM
  obtain ⟨oTp, oT, oW, oN, oP, oI0, oI1⟩ := hO
  obtain ⟨jTp, jF, jT, jSp, jW, jN, jP, jC, jI0, jI1, jB, jL⟩ := hM
  dsimp only at oTp oT oW oN oP oI0 oI1 jTp jF jT jSp jW jN jP jC jI0 jI1
  try dsimp only at hS
  have hzz := zof_lt oT nm
  obtain ⟨hS, rfl⟩ := hS
  obtain ⟨lm, hp, hR⟩ := jW.1
  have hr := rOK_perm hp.symm oW.1
  by_cases hh : 0 ≤ w ∧ w ≤ 6
  · have hT := (pif_pos hh).mp hS
    clear hS
    obtain ⟨os, a, k, hos, h28, ha, hk, hS⟩ := hT
    try dsimp only at hos ha hk hS
    have hom : oIs os (fG t lm (zof t nm)) := oIs_ext hos (fun n => fG_perm hp.symm)
    rcases rngs6 hh with rfl | rfl | rfl | rfl | rfl | rfl | rfl
    · refine gT_n 4 ?_
      refine ⟨rfl, rfl, rfl, gTM.useA (m_zoneIn oT jT oN) (Nat.le_refl _) (aR (aL (jN) (rfl))) (fun r u hq => ?_)⟩
      obtain ⟨rfl, rfl⟩ := hq  -- X12_zoneIn[R171, lN nm]
      refine gT_n 3 ?_
      refine ⟨fun _ => ?_, fun c => absurd rfl c⟩
      refine gT_n 3 ?_
      refine ⟨rfl, rfl, gTM.useA (n_labelsOf (n := nm)) (Nat.le_refl _) (aL (jN) (rfl)) (fun r u hq => ?_)⟩
      obtain ⟨rfl, rfl⟩ := hq  -- X12_labelsOf[lN nm]
      refine gT_n 1 ?_
      exact ⟨I, J, P, rfl, ri (Eq.trans (rfl) hS.symm), hC, hM0⟩
    · refine gT_n 4 ?_
      refine ⟨rfl, rfl, rfl, gTM.useA (m_zoneIn oT jT oN) (Nat.le_refl _) (aR (aL (jN) (rfl))) (fun r u hq => ?_)⟩
      obtain ⟨rfl, rfl⟩ := hq  -- X12_zoneIn[R171, lN nm]
      refine gT_n 3 ?_
      refine ⟨fun c => absurd c (by decide), fun _ => ⟨fun _ => ?_, fun c => absurd rfl c⟩⟩
      refine gT_n 2 ?_
      exact ⟨I, J, P, rfl, ri (Eq.trans (rfl) hS.symm), hC, hM0⟩
    · refine gT_n 4 ?_
      refine ⟨rfl, rfl, rfl, gTM.useA (m_zoneIn oT jT oN) (Nat.le_refl _) (aR (aL (jN) (rfl))) (fun r u hq => ?_)⟩
      obtain ⟨rfl, rfl⟩ := hq  -- X12_zoneIn[R171, lN nm]
      refine gT_n 3 ?_
      refine ⟨fun c => absurd c (by decide), fun _ => ⟨fun c => absurd c (by decide), fun _ => ⟨fun _ => ?_, fun c => absurd rfl c⟩⟩⟩
      refine gT_n 5 ?_
      refine ⟨rfl, rfl, rfl, gTM.useA (m_isThere oT jT hr hR hzz hom oN) (Nat.le_refl _) (aR (aI (rfl) (aL (jN) (rfl)))) (fun r u hq => ?_)⟩
      obtain ⟨rfl, ⟨rfl, β1⟩ | ⟨rfl, β1⟩⟩ := hq  -- X12_isThere[R171, nI ((zof t nm)), lN nm]
      · refine gT_n 1 ?_
        refine ⟨fun c => absurd c (by decide), fun _ => ?_⟩
        refine gT_n 3 ?_
        exact ⟨I, J, P, rfl, ri (Eq.trans (Eq.symm (if_pos ((thr_C oT hr oN hom hk).mp (β1.elim Or.inl (fun q => Or.inr q.2))))) hS.symm), hC, hM0⟩
      · refine gT_n 1 ?_
        refine ⟨fun _ => ?_, fun c => absurd (by decide) c⟩
        refine gT_n 2 ?_
        exact ⟨I, J, P, rfl, ri (Eq.trans (Eq.symm (if_neg (fun q => β1 (((thr_C oT hr oN hom hk).mpr q).elim Or.inl (fun q => Or.inr ⟨rfl, q⟩))))) hS.symm), hC, hM0⟩
    · refine gT_n 4 ?_
      refine ⟨rfl, rfl, rfl, gTM.useA (m_zoneIn oT jT oN) (Nat.le_refl _) (aR (aL (jN) (rfl))) (fun r u hq => ?_)⟩
      obtain ⟨rfl, rfl⟩ := hq  -- X12_zoneIn[R171, lN nm]
      refine gT_n 3 ?_
      refine ⟨fun c => absurd c (by decide), fun _ => ⟨fun c => absurd c (by decide), fun _ => ⟨fun c => absurd c (by decide), fun _ => ⟨fun _ => ?_, fun c => absurd rfl c⟩⟩⟩⟩
      refine gT_n 5 ?_
      refine ⟨rfl, rfl, rfl, gTM.useA (m_sortsOf oT jT hr hR hzz oN) (Nat.le_refl _) (aR (aI (rfl) (aL (jN) (rfl)))) (fun r u hq => ?_)⟩
      obtain ⟨rfl, rfl⟩ := hq  -- X12_sortsOf[R171, nI ((zof t nm)), lN nm]
      refine gT_n 1 ?_
      exact ⟨I, J, P, rfl, ri (Eq.trans (congrArg nI (fG_perm hp)) hS.symm), hC, hM0⟩
    · refine gT_n 4 ?_
      refine ⟨rfl, rfl, rfl, gTM.useA (m_zoneIn oT jT oN) (Nat.le_refl _) (aR (aL (jN) (rfl))) (fun r u hq => ?_)⟩
      obtain ⟨rfl, rfl⟩ := hq  -- X12_zoneIn[R171, lN nm]
      refine gT_n 3 ?_
      refine ⟨fun c => absurd c (by decide), fun _ => ⟨fun c => absurd c (by decide), fun _ => ⟨fun c => absurd c (by decide), fun _ => ⟨fun c => absurd c (by decide), fun _ => ⟨fun _ => ?_, fun c => absurd rfl c⟩⟩⟩⟩⟩
      refine gT_n 5 ?_
      refine ⟨rfl, rfl, rfl, gTM.useA (m_isOwner oT jT hr hR hzz oN (fG_64 hr)) (Nat.le_refl _) (aR (aI (rfl) (aL (jN) (rfl)))) (fun r u hq => ?_)⟩
      obtain ⟨rfl, ⟨rfl, β1⟩ | ⟨rfl, β1⟩⟩ := hq  -- X12_isOwner[R171, nI ((zof t nm)), lN nm]
      · refine gT_n 1 ?_
        refine ⟨fun c => absurd c (by decide), fun _ => ?_⟩
        refine gT_n 5 ?_
        refine ⟨rfl, rfl, rfl, gTM.useA (m_ownersAhead oT jT hr hR hzz hom oN) (Nat.le_refl _) (aR (aI (rfl) (aL (jN) (rfl)))) (fun r u hq => ?_)⟩
        obtain ⟨rfl, b, hb, rfl⟩ := hq  -- X12_ownersAhead[R171, nI ((zof t nm)), lN nm]
        refine gT_n 2 ?_
        exact ⟨I, J, P, rfl, ri (Eq.trans (Eq.trans (congrArg nI (isA_one hb ha)) (Eq.symm (if_pos (fG_perm hp ▸ β1)))) hS.symm), hC, hM0⟩
      · refine gT_n 1 ?_
        refine ⟨fun _ => ?_, fun c => absurd (by decide) c⟩
        refine gT_n 2 ?_
        exact ⟨I, J, P, rfl, ri (Eq.trans (Eq.symm (if_neg (fun q => β1 (fG_perm hp.symm ▸ q)))) hS.symm), hC, hM0⟩
    · refine gT_n 4 ?_
      refine ⟨rfl, rfl, rfl, gTM.useA (m_zoneIn oT jT oN) (Nat.le_refl _) (aR (aL (jN) (rfl))) (fun r u hq => ?_)⟩
      obtain ⟨rfl, rfl⟩ := hq  -- X12_zoneIn[R171, lN nm]
      refine gT_n 3 ?_
      refine ⟨fun c => absurd c (by decide), fun _ => ⟨fun c => absurd c (by decide), fun _ => ⟨fun c => absurd c (by decide), fun _ => ⟨fun c => absurd c (by decide), fun _ => ⟨fun c => absurd c (by decide), fun _ => ⟨fun _ => ?_, fun c => absurd rfl c⟩⟩⟩⟩⟩⟩
      refine gT_n 5 ?_
      refine ⟨rfl, rfl, rfl, gTM.useA (m_ownersAhead oT jT hr hR hzz hom oN) (Nat.le_refl _) (aR (aI (rfl) (aL (jN) (rfl)))) (fun r u hq => ?_)⟩
      obtain ⟨rfl, b, hb, rfl⟩ := hq  -- X12_ownersAhead[R171, nI ((zof t nm)), lN nm]
      refine gT_n 1 ?_
      exact ⟨I, J, P, rfl, ri (Eq.trans (congrArg nI (isA_one hb ha)) hS.symm), hC, hM0⟩
    · refine gT_n 4 ?_
      refine ⟨rfl, rfl, rfl, gTM.useA (m_zoneIn oT jT oN) (Nat.le_refl _) (aR (aL (jN) (rfl))) (fun r u hq => ?_)⟩
      obtain ⟨rfl, rfl⟩ := hq  -- X12_zoneIn[R171, lN nm]
      refine gT_n 3 ?_
      refine ⟨fun c => absurd c (by decide), fun _ => ⟨fun c => absurd c (by decide), fun _ => ⟨fun c => absurd c (by decide), fun _ => ⟨fun c => absurd c (by decide), fun _ => ⟨fun c => absurd c (by decide), fun _ => ⟨fun c => absurd c (by decide), fun _ => ⟨fun _ => ?_, fun c => absurd rfl c⟩⟩⟩⟩⟩⟩⟩
      refine gT_n 5 ?_
      refine ⟨rfl, rfl, rfl, gTM.useA (m_closestOf oT jT hr hR hzz hom oN rfl) (Nat.le_refl _) (aR (aI (rfl) (aL (jN) (rfl)))) (fun r u hq => ?_)⟩
      obtain ⟨rfl, k2, hk2, rfl⟩ := hq  -- X12_closestOf[R171, nI ((zof t nm)), lN nm]
      refine gT_n 1 ?_
      refine ⟨rfl, gTM.use (n_labelsOf (n := ((nfst nm k2)))) (Nat.le_refl _) (fun r u hq => ?_)⟩
      obtain ⟨rfl, rfl⟩ := hq  -- X12_labelsOf[lN ((nfst nm k2))]
      refine gT_n 1 ?_
      exact ⟨I, J, P, rfl, ri (Eq.trans (congrArg nI ((cnt_fk oN hk2.1).trans (isC_one hk2 hk))) hS.symm), hC, hM0⟩
  · have e := (pif_neg hh).mp hS
    subst e
    refine gT_n 4 ?_
    refine ⟨rfl, rfl, rfl, gTM.useA (m_zoneIn oT jT oN) (Nat.le_refl _) (aR (aL (jN) (rfl))) (fun r u hq => ?_)⟩
    obtain ⟨rfl, rfl⟩ := hq  -- X12_zoneIn[R171, lN nm]
    refine gT_n 3 ?_
    refine ⟨fun κ1 => ?_, fun _ => ⟨fun κ1 => ?_, fun _ => ⟨fun κ1 => ?_, fun _ => ⟨fun κ1 => ?_, fun _ => ⟨fun κ1 => ?_, fun _ => ⟨fun κ1 => ?_, fun _ => ⟨fun κ1 => ?_, fun _ => ?_⟩⟩⟩⟩⟩⟩⟩
    · exact absurd (by rw [κ1]; decide) hh
    · exact absurd (by rw [κ1]; decide) hh
    · exact absurd (by rw [κ1]; decide) hh
    · exact absurd (by rw [κ1]; decide) hh
    · exact absurd (by rw [κ1]; decide) hh
    · exact absurd (by rw [κ1]; decide) hh
    · exact absurd (by rw [κ1]; decide) hh
    · refine gT_n 2 ?_
      exact ⟨I, J, P, rfl, rfl, hC, hM0⟩
