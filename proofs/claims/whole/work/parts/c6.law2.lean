/-! THE LAW over the pure memory -/
set_option maxRecDepth 65536 in
theorem law_p : ∀ (n : Nat) (xs : Nat → Int32), n ≤ 2048 → gTM 15 0 [.ref 2000000] (gw0 n xs) (fun r _ => r = some (.int 1)) := by
  intro n xs hn
  let b : Nat → Nat → Int32 := fun a => if a = 2000000 then xs else if a = 2000001 then fun _ => nI n else fun _ => 0
  have hb : ∀ m, m < 1000 → b m = fun _ => 0 := fun m hm => by
    show (if m = 2000000 then xs else if m = 2000001 then fun _ => nI n else fun _ => 0) = _
    rw [if_neg (by omega), if_neg (by omega)]
  have hl : denI b zmi76 2000001 0 = nI n := by
    rw [denI_n (n := 213) (by decide) (by decide +kernel)]
    show (if 2000001 = 2000000 then xs else if 2000001 = 2000001 then fun _ => nI n else fun _ => 0) 0 = _
    rw [if_neg (by decide), if_pos rfl]
  have e0 : gw0 n xs = gD b 0 [] [] [] := rfl
  rw [e0]
  have fin : gT 15 0 18 [(3, .int (nI 0)), (2, .ref 171), (1, .ref 0), (0, .ref 2000000)] [] (213, 2135) (gD b 213 zmi76 zmj77 zmr53) (fun r _ => r = some (.int 1)) :=
    gT_mono _ _ _ _ _ _ _ _ _ (fun r v h => by obtain ⟨_, _, h⟩ := h; exact h) (gT_ex (w_loop hn (n + 1) 0 (by omega) (by omega) s0 _ _ _ (newS_ok D0_ok) (RC_0 hb pP_0) (RM_0 hb) hl) eqM_0)
  refine gT_n 1 ?_
  refine ⟨rfl, ?_⟩
  refine gT_nw (cu := (1, 9)) (n := 0) (b := b) [] [] [] rfl rfl rfl (hb _ (by decide)) rfl (by decide +kernel) ?_
  refine gT_n 2 ?_
  refine ⟨rfl, k_class hb ?_⟩
  refine gT_n 2 ?_
  refine ⟨rfl, ?_⟩
  refine gT_nw (cu := (172, 1226)) (n := 171) (b := b) zci193 zcj194 zcr120 rfl rfl rfl (hb _ (by decide)) rfl (by decide +kernel) ?_
  refine gT_n 2 ?_
  refine ⟨rfl, k_model hb ?_⟩
  refine gT_n 3 ?_
  exact gT_k fin ⟨rfl, rfl, rfl, rfl, trivial⟩ rfl
