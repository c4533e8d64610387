/-! the next zone below on the way to a zone -/
theorem c_stepDown {d z w m : Nat} {t : zT} {I : Nat → Nat → Int32} {J : Nat → Nat → Int64} {P : Nat → Nat} (hz : zOK t) (hT : cTr I J t) (hw : w < t.1) (hzz : z < t.1) (hzm : zc t w (m + 1) = z) (hne : ∀ j, j < m → ¬ zc t w (j + 1) = z) (hnz : ∀ j, j ≤ m → ¬ zc t w j = 0) : gTM (d + 1) 90 [.ref 12, .int (nI z), .int (nI w)] (gST I J P) (fun x u => u = gST I J P ∧ x = some (.int (nI (zc t w m)))) := by
  have h4 := hz.2.1
  have hm2 : m ≤ 2 := by
    rcases Nat.lt_or_ge 2 m with g | g
    · exact absurd (zc_ge hz hw m (by omega)) (hnz m (Nat.le_refl _))
    · exact g
  have loop : ∀ k, k ≤ m → gT (d + 1) 90 5 [(4, .int (nI k)), (3, .int (nI ((zc t w k)))), (0, .ref 12), (1, .int (nI z)), (2, .int (nI w))] [] (0, 0) (gST I J P) (fun x u => u = gST I J P ∧ x = some (.int (nI (zc t w m)))) := by
    refine loopU m (fun k hkm ih => ?_)
    have hk := zc_lt hz hw k
    refine gT_n 3 ?_
    refine pk_le 4 k (fun κ1 => ?_) (fun κ1 => ?_) (rfl) (rfl) (by omega) (by omega)
    · refine gT_n 3 ?_
      refine ⟨rfl, rfl, gTM.use (c_has1 hz hT.1 ⟨_, hk, rfl⟩) (Nat.le_refl _) (fun r u hq => ?_)⟩
      obtain ⟨rfl, rfl⟩ := hq  -- X8_has[R12, nI ((zc t w k))]
      refine gT_n 1 ?_
      refine ⟨fun c => absurd c (by decide), fun _ => ?_⟩
      refine gT_n 3 ?_
      exact absurd hm2 (by omega)
    · refine gT_n 3 ?_
      refine ⟨rfl, rfl, gTM.use (c_has1 hz hT.1 ⟨_, hk, rfl⟩) (Nat.le_refl _) (fun r u hq => ?_)⟩
      obtain ⟨rfl, rfl⟩ := hq  -- X8_has[R12, nI ((zc t w k))]
      refine gT_n 1 ?_
      refine ⟨fun c => absurd c (by decide), fun _ => ?_⟩
      refine gT_n 6 ?_
      refine ⟨rfl, rfl, (pk_in ((zc t w k)) 4 (by omega) (rfl)), pk_eq ((zc t w (k + 1))) z (fun κ2 => ?_) (fun κ2 => ?_) ((rdI (rfl) (by omega) (Eq.trans (hT.2.2 _ hk) (if_neg (hnz k (by omega)))))) (rfl) (by have := zc_lt hz hw (k + 1); omega) (by omega)⟩
      · refine gT_n 3 ?_
        refine ⟨rfl, rfl, gTM.use (c_has1 hz hT.1 ⟨_, hk, rfl⟩) (Nat.le_refl _) (fun r u hq => ?_)⟩
        obtain ⟨rfl, rfl⟩ := hq  -- X8_has[R12, nI ((zc t w k))]
        refine gT_n 1 ?_
        refine ⟨fun c => absurd c (by decide), fun _ => ?_⟩
        refine gT_n 3 ?_
        have hkm : k = m := by
          rcases Nat.lt_or_ge k m with g | g
          · exact absurd κ2 (hne k g)
          · omega
        subst hkm
        exact ⟨rfl, rfl⟩
      · refine gT_n 5 ?_
        refine ⟨rfl, rfl, (pk_in ((zc t w k)) 4 (by omega) (rfl)), ?_⟩
        refine gT_k (L := [(3, .int (nI ((zc t w (k + 1))))), (4, .int (nI k)), (0, .ref 12), (1, .int (nI z)), (2, .int (nI w))]) ?_ ⟨(viI ((rdI (rfl) (by omega) (Eq.trans (hT.2.2 _ hk) (if_neg (hnz k (by omega))))))), rfl, rfl, rfl, rfl, trivial⟩ rfl
        refine gT_n 2 ?_
        have hkm : k < m := by
          rcases Nat.lt_or_ge k m with g | g
          · exact g
          · have : k = m := by omega
            subst this
            exact absurd hzm κ2
        have e := ih (k + 1) (by omega) (by omega)
        rw [← nI_1 k] at e
        exact gT_k e ⟨rfl, rfl, rfl, rfl, rfl, trivial⟩ rfl
  refine gT_n 4 ?_
  exact gT_k (loop 0 (by omega)) ⟨rfl, rfl, rfl, rfl, rfl, trivial⟩ rfl
