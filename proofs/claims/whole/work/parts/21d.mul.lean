section GMUL
variable {l : Launch} {E : gEnv} {d y pc : Nat} {L : gL} {cu : Nat × Nat} {w : gW} {Q : Option Value → gW → Prop} {p : Program} {e : Env} {s : State} {m : MethodId} {args : Array Value} {below : List Frame} {meth : Method} {c : Code} {R : Room} {Z : State → Prop} {H : Heap} {locs : List Loc} {ls : Array Slot} {st : List Value}
theorem gmul_o {N K a : Nat} (h : a < w.1.length) : (gmul w N K).2.1 a = w.2.1 a ∧ (gmul w N K).2.2.1 a = w.2.2.1 a ∧ (gmul w N K).2.2.2 a = w.2.2.2 a := by
  have hc : ¬ (w.1.length ≤ a ∧ a ≤ w.1.length + N) := by omega
  exact ⟨if_neg hc, if_neg hc, if_neg hc⟩
theorem gH_mul {N K : Nat} {F : Heap} (hH : gH E w H) (hlen : w.1.length + 1 + N ≤ 1000000) (hz : F.size = H.size + 1 + N) (ho : ∀ q : Nat, q < H.size → F[q]? = H[q]?) (hout : F[H.size]? = some (vp_cell (E.2.1 4) (N, .inr (.inr (.inr (.inr (fun i => if i < N then some (H.size + 1 + i) else none))))))) (hin : ∀ j : Nat, j < N → F[H.size + 1 + j]? = some (vp_cell (E.2.1 0) (K, .inl (fun _ => 0)))) : gH E (gmul w N K) F := by
  have hs := hH.2.1
  refine ⟨fun k x hx => ?_, ?_, ?_⟩
  · obtain ⟨kd, hk, rfl⟩ := gws_inv hx
    have hk' : (w.1 ++ (Sum.inr (4, N) : gK) :: List.replicate N (Sum.inr (0, K) : gK))[k]? = some kd := hk
    by_cases c1 : k < w.1.length
    · rw [List.getElem?_append_left c1] at hk'
      have g := gmul_o (w := w) (N := N) (K := K) c1
      rw [gEl_congr (w' := gmul w N K) (w := w) g.1 g.2.1 g.2.2]
      exact hH.1.kept (fun k x hx => ho x.1 ((hH.1 k x hx).lt)) k _ (gws_at hk')
    · rw [List.getElem?_append_right (by omega)] at hk'
      by_cases c2 : k = w.1.length
      · subst c2
        rw [Nat.sub_self] at hk'
        cases hk'
        show F[E.2.2.1 + w.1.length]? = some (vp_cell (E.2.1 4) (N, garrv E (gmul w N K) w.1.length 4))
        rw [← hs, hout]
        refine congrArg (fun f => some (vp_cell (E.2.1 4) (N, .inr (.inr (.inr (.inr f)))))) (funext fun j => ?_)
        have e1 : (gmul w N K).2.2.2 w.1.length = fun j => if j < N then some (w.1.length + 1 + j) else none := by
          show (if w.1.length ≤ w.1.length ∧ w.1.length ≤ w.1.length + N then _ else _) = _
          rw [if_pos ⟨Nat.le_refl _, by omega⟩, if_pos rfl]
        rw [e1]
        by_cases c3 : j < N
        · simp only [if_pos c3, Option.map_some]
          rw [gad_lo (by omega), hs]; congr 1; omega
        · simp only [if_neg c3, Option.map_none]
      · obtain ⟨j, rfl⟩ : ∃ j, k = w.1.length + 1 + j := ⟨k - w.1.length - 1, by omega⟩
        rw [show w.1.length + 1 + j - w.1.length = j + 1 by omega, List.getElem?_cons_succ, List.getElem?_replicate] at hk'
        by_cases c3 : j < N
        · rw [if_pos c3] at hk'
          cases hk'
          show F[E.2.2.1 + (w.1.length + 1 + j)]? = some (vp_cell (E.2.1 0) (K, .inl ((gmul w N K).2.1 (w.1.length + 1 + j))))
          rw [show E.2.2.1 + (w.1.length + 1 + j) = H.size + 1 + j by omega, hin j c3]
          rw [show (gmul w N K).2.1 (w.1.length + 1 + j) = fun _ => 0 from if_pos ⟨by omega, by omega⟩]
        · rw [if_neg c3] at hk'; cases hk'
  · rw [hz, hs]
    show _ = E.2.2.1 + (w.1 ++ (Sum.inr (4, N) : gK) :: List.replicate N (Sum.inr (0, K) : gK)).length
    rw [List.length_append, List.length_cons, List.length_replicate]; omega
  · show (w.1 ++ (Sum.inr (4, N) : gK) :: List.replicate N (Sum.inr (0, K) : gK)).length ≤ 1000000
    rw [List.length_append, List.length_cons, List.length_replicate]; omega
theorem gSc_mul {N K : Nat} (h : gSc E w) (hlen : w.1.length + 1 + N ≤ 1000000) : gSc E (gmul w N K) := by
  have h1 : (gmul w N K).2.1 2000000 = w.2.1 2000000 := if_neg (by omega)
  have h2 : (gmul w N K).2.1 2000001 = w.2.1 2000001 := if_neg (by omega)
  exact ⟨h1.trans h.1, by rw [h2]; exact h.2⟩
theorem gAt.newm (A : gAt l E d y L cu w Q p e s m args below meth c R Z H locs ls) {ix : Nat} {k n : Int32} {r : List Value} (hk : (g_own y, ix, 4) ∈ g_an) (hover : (Cond.arrayOver (.array .int)).before args s = true) (hdg : decode (g_code y) pc = .ok (.multianewarray ix 2, 4)) (hn : ¬ n < 0 ∧ n.toNatClampNeg ≤ 1000 ∧ ¬ k < 0 ∧ k.toNatClampNeg ≤ 1000) (hr : (Nat.ble (w.1.length + 1 + n.toNatClampNeg) 1000000 && (Nat.ble (cu.1 + (1 + n.toNatClampNeg)) (g_mc y) && Nat.ble (cu.2 + (n.toNatClampNeg + n.toNatClampNeg * k.toNatClampNeg)) (g_ms y))) = true) (h : gSound l E d y (pc + 4) L (.ref w.1.length :: r) (cu.1 + (1 + n.toNatClampNeg), cu.2 + (n.toNatClampNeg + n.toNatClampNeg * k.toNatClampNeg)) (gmul w n.toNatClampNeg k.toNatClampNeg) Q) : W p l e R s m args below meth c H locs cu.1 cu.2 Z (F0 m pc ls (.int k :: .int n :: r.map (gcv E))) := by
  obtain ⟨r1, hr⟩ := gand hr
  obtain ⟨r2, r3⟩ := gand hr
  have r1 := Nat.le_of_ble_eq_true r1
  have r2 := Nat.le_of_ble_eq_true r2
  have r3 := Nat.le_of_ble_eq_true r3
  have hR := A.1.2.2.2.2.2.2.2.2.2.2
  have hw : (Cond.classLink (g_cn (g_own y)) ix ("[" ++ (FieldType.array .int).toString)) ∈ gG := g_an_ok _ hk
  obtain ⟨cI, cA, kA, fC, fA, hkA, hkindA⟩ := mu_over hover
  obtain ⟨cI2, kI, cc, fI, hkI, hkindI⟩ := Cond.arrayClass_spec (A.ts garr_int)
  have hcA : some cA = some (E.2.1 4) := fA.symm.trans (A.K.2 4 _ (gtys_at rfl)).2
  have hcI : some cI = some (E.2.1 0) := fC.symm.trans (A.K.2 0 _ (gtys_at rfl)).2
  have hcI2 : some cI2 = some (E.2.1 0) := fI.symm.trans (A.K.2 0 _ (gtys_at rfl)).2
  cases hcA
  cases hcI
  cases hcI2
  intro T hT Xs
  obtain ⟨vm₁, X', step⟩ := mu_row Xs A.exec A.own (A.ts hw) fA hkA hkindA hkI hkindI (g := F0 m pc ls (.int k :: .int n :: r.map (gcv E))) rfl (by rw [A.code]; exact hdg) rfl hn.1 hn.2.2.1 hn.2.1 hn.2.2.2 (by rw [hR.1]; exact r2) (by rw [hR.2.1]; exact r3)
  generalize hF : mu_S (T.setVm vm₁) (E.2.1 4) (E.2.1 0) n.toNatClampNeg k.toNatClampNeg n.toNatClampNeg = F at X' step
  have hTh : (T.setVm vm₁).heap = H := hT
  obtain ⟨f1, f2, -, -⟩ := mu_f (T.setVm vm₁) (E.2.1 4) (E.2.1 0) n.toNatClampNeg k.toNatClampNeg n.toNatClampNeg
  rw [hF, hTh] at f1 f2
  have hold : ∀ q : Nat, q < H.size → F.heap[q]? = H[q]? := fun q hq => by
    have g := mu_old (T.setVm vm₁) (E.2.1 4) (E.2.1 0) n.toNatClampNeg k.toNatClampNeg (q := q) (by rw [hTh]; exact hq) n.toNatClampNeg
    rw [hF, hTh] at g; exact g
  have hin : ∀ j : Nat, j < n.toNatClampNeg → F.heap[H.size + 1 + j]? = some (vp_cell (E.2.1 0) (k.toNatClampNeg, .inl (fun _ => 0))) := fun j hj => by
    have g := mu_in (T.setVm vm₁) (E.2.1 4) (E.2.1 0) n.toNatClampNeg k.toNatClampNeg n.toNatClampNeg j hj
    rw [hF, hTh] at g
    exact g
  have hgo := A.goW (H' := F.heap) (cu' := (cu.1 + (1 + n.toNatClampNeg), cu.2 + (n.toNatClampNeg + n.toNatClampNeg * k.toNatClampNeg))) (gH_mul A.2.2.1 r1 f1 hold f2 hin) (gSc_mul A.2.2.2.1 r1) ⟨by rw [f1]; have := A.2.2.2.2.1.1; omega, fun x h1 h2 => (hold x (Nat.lt_of_lt_of_le h1 A.2.2.2.2.1.1)).trans (A.2.2.2.2.1.2.1 x h1 h2), A.2.2.2.2.1.2.2⟩ r2 r3 h
  have e0 : (Value.ref w.1.length :: r).map (gcv E) = .ref H.size :: r.map (gcv E) := by rw [A.2.2.1.2.1, ← gad_lo (E := E) (a := w.1.length) (by omega)]; rfl
  rw [e0] at hgo
  obtain ⟨t, a1, b1⟩ := hgo F rfl (by rw [← Nat.add_assoc, ← Nat.add_assoc]; exact X')
  refine ⟨t, step t ?_, b1⟩
  have hT2 : T.heap.size = H.size := by rw [hT]
  rw [hT2]
  exact a1
end GMUL
