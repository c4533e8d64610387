/-! the script is never written -/
def hI (w : gW) : Prop := w.1.length ≤ 1000000
def hF (w u : gW) : Prop := hI u ∧ u.2.1 2000000 = w.2.1 2000000 ∧ u.2.1 2000001 = w.2.1 2000001
theorem hF_T {w u v : gW} (h : hF w u) (g : hF u v) : hF w v := ⟨g.1, g.2.1.trans h.2.1, g.2.2.trans h.2.2⟩
theorem hF_s {w : gW} (h : hI w) : hF w w := ⟨h, rfl, rfl⟩
theorem hF_a {w : gW} {a : Nat} {f : Nat → Int32} {m : (Nat → Nat → Int64) × (Nat → Nat → Option Nat)} (h : hI w) (ha : a < w.1.length) : hF w (w.1, va_up w.2.1 a f, m) := by
  have h : w.1.length ≤ 1000000 := h
  refine ⟨h, ?_, ?_⟩
  · show va_up w.2.1 a f 2000000 = _
    unfold va_up; rw [if_neg (by omega)]
  · show va_up w.2.1 a f 2000001 = _
    unfold va_up; rw [if_neg (by omega)]
theorem hF_o {w : gW} {m : (Nat → Nat → Int64) × (Nat → Nat → Option Nat)} (h : hI w) : hF w (w.1, w.2.1, m) := ⟨h, rfl, rfl⟩
theorem hF_n {y n : Nat} {cu : Nat × Nat} {w : gW} {kd : gK} (h : groom y cu w n = true) : hF w (gnew w kd) := by
  have h1 := Nat.le_of_ble_eq_true (Bool.and_eq_true_iff.mp h).1
  refine ⟨?_, ?_, ?_⟩
  · show (w.1 ++ [kd]).length ≤ 1000000
    rw [List.length_append]; exact h1
  · show va_up w.2.1 w.1.length _ 2000000 = _
    unfold va_up; rw [if_neg (by omega)]
  · show va_up w.2.1 w.1.length _ 2000001 = _
    unfold va_up; rw [if_neg (by omega)]
theorem hF_m {N K : Nat} {w : gW} {B : Bool} (h : (Nat.ble (w.1.length + 1 + N) 1000000 && B) = true) : hF w (gmul w N K) := by
  have h1 := Nat.le_of_ble_eq_true (Bool.and_eq_true_iff.mp h).1
  refine ⟨?_, ?_, ?_⟩
  · show (w.1 ++ (Sum.inr (4, N) : gK) :: List.replicate N (Sum.inr (0, K) : gK)).length ≤ 1000000
    rw [List.length_append, List.length_cons, List.length_replicate]; omega
  · show (if w.1.length ≤ 2000000 ∧ 2000000 ≤ w.1.length + N then _ else _) = _
    rw [if_neg (by omega)]
  · show (if w.1.length ≤ 2000001 ∧ 2000001 ≤ w.1.length + N then _ else _) = _
    rw [if_neg (by omega)]
theorem gsw_mono2 {x : Int32} {d : Nat} {go go' : Nat → Prop} (h : ∀ t, go t → go' t) (l : List (Int32 × Nat)) : gsw x d go l → gsw x d go' l := gsw_mono h l
def gCf (w : gW) (C C' : gCall) : Prop := ∀ y As Q Q', (∀ r u, hF w u → Q r u → Q' r u) → C y As w Q → C' y As w Q'
section
variable {dd y pc : Nat} {L : gL} {st : List Value} {cu : Nat × Nat} {w : gW} {go go' : gGo} {C C' : gCall} {ret ret' : Option Value → gW → Prop}
theorem gcall_fr (hw : hI w) (hg : ∀ pc L st cu u, hF w u → go pc L st cu u → go' pc L st cu u) (hC : gCf w C C') (y2 mode : Nat) : gcall dd y pc L st cu w go C y2 mode → gcall dd y pc L st cu w go' C' y2 mode := by
  unfold gcall
  split
  · exact gpop_mono (fun _ _ => And.imp_right (hC _ _ _ _ fun _ _ => hg _ _ _ _ _)) _ _ _
  · exact gpop_mono (fun _ _ => And.imp_right (hC _ _ _ _ fun _ _ => hg _ _ _ _ _)) _ _ _
  · exact gpop_mono (fun _ _ => gpR_mono fun _ _ => And.imp_right (And.imp_right (hC _ _ _ _ fun _ _ => hg _ _ _ _ _))) _ _ _
  · exact gpop_mono (fun _ _ => gpR_mono fun _ _ => And.imp_right (hC _ _ _ _ fun _ _ => hg _ _ _ _ _)) _ _ _
  · exact gpop_mono (fun _ _ => gpR_mono fun _ _ => And.imp_right (hC _ _ _ _ fun _ _ => hg _ _ _ _ _)) _ _ _
  · exact gpR_mono fun _ _ => And.imp_right (hg _ _ _ _ _ (hF_s hw))
  · exact gpI_mono fun _ _ => gpI_mono fun _ _ => gpR_mono fun _ _ => gpI_mono fun _ _ => gpR_mono fun _ _ h => ⟨h.1, h.2.1, h.2.2.1, h.2.2.2.1, hg _ _ _ _ _ (hF_a hw (gar_lt h.2.2.1)) h.2.2.2.2⟩
  · exact gpR_mono fun _ _ => And.imp_right (And.imp_right (And.imp_right (And.imp_right (hg _ _ _ _ _ (hF_s hw)))))
  · exact gpI_mono fun _ _ => gpR_mono fun _ _ => And.imp_right (And.imp_right (And.imp_right (And.imp_right (And.imp_right (hg _ _ _ _ _ (hF_s hw))))))
  · exact id
theorem gputf_fr (hw : hI w) (hg : ∀ pc L st cu u, hF w u → go pc L st cu u → go' pc L st cu u) (ci k : Nat) : gputf y pc L st cu w go ci k → gputf y pc L st cu w go' ci k := by
  unfold gputf
  split
  · exact gpI_mono fun _ _ => gpR_mono fun _ _ h => ⟨h.1, hg _ _ _ _ _ (hF_a hw (gob_lt h.1)) h.2⟩
  · exact gpJ_mono fun _ _ => gpR_mono fun _ _ h => ⟨h.1, hg _ _ _ _ _ (hF_o hw) h.2⟩
  · exact gpQ_mono fun _ _ => gpR_mono fun _ _ h => ⟨h.1, hg _ _ _ _ _ (hF_o hw) h.2⟩
  · exact gpI_mono fun _ _ => gpR_mono fun _ _ h => ⟨h.1, h.2.1, hg _ _ _ _ _ (hF_a hw (gob_lt h.1)) h.2.2⟩
  · exact id
theorem gret_fr (hr : ∀ r, ret r w → ret' r w) : gret y st w ret → gret y st w ret' := by
  unfold gret
  split
  · split
    · exact hr _
    · exact id
  · split
    · exact And.imp_right (hr _)
    · exact id
  · exact id
set_option maxHeartbeats 4000000 in
theorem gstep_fr {q : gI} (hw : hI w) (hg : ∀ pc L st cu u, hF w u → go pc L st cu u → go' pc L st cu u) (hC : gCf w C C') (hr : ∀ r, ret r w → ret' r w) : gstep dd q y pc L st cu w go C ret → gstep dd q y pc L st cu w go' C' ret' := by
  have hg1 : ∀ pc L st cu, go pc L st cu w → go' pc L st cu w := fun _ _ _ _ => hg _ _ _ _ _ (hF_s hw)
  obtain ⟨i, len, a, b, c, kv, kl, tab⟩ := q
  cases i <;> first
    | exact fun h => False.elim h
    | exact hg1 _ _ _ _
    | exact gpI_mono fun _ _ => hg1 _ _ _ _
    | exact gpJ_mono fun _ _ => hg1 _ _ _ _
    | exact gpR_mono fun _ _ => hg1 _ _ _ _
    | exact gpV_mono fun _ _ => hg1 _ _ _ _
    | exact gpI_mono fun _ _ => gpI_mono fun _ _ => hg1 _ _ _ _
    | exact gpJ_mono fun _ _ => gpJ_mono fun _ _ => hg1 _ _ _ _
    | exact gpI_mono fun _ _ => gpJ_mono fun _ _ => hg1 _ _ _ _
    | exact gpV_mono fun _ _ => gpV_mono fun _ _ => hg1 _ _ _ _
    | exact gpI_mono fun _ _ => gpI_mono fun _ _ => And.imp_right (hg1 _ _ _ _)
    | exact gpR_mono fun _ _ => And.imp_right (hg1 _ _ _ _)
    | exact gpI_mono fun _ _ => gpR_mono fun _ _ => And.imp_right (And.imp_right (hg1 _ _ _ _))
    | exact gpI_mono fun _ _ => gpI_mono fun _ _ => gpR_mono fun _ _ h => ⟨h.1, h.2.1, hg _ _ _ _ _ (hF_a hw (gar_lt h.1)) h.2.2⟩
    | exact gpI_mono fun _ _ => gpI_mono fun _ _ => gpR_mono fun _ _ h => ⟨h.1, h.2.1, h.2.2.1, hg _ _ _ _ _ (hF_a hw (h.1.elim gar_lt gar_lt)) h.2.2.2⟩
    | exact gpJ_mono fun _ _ => gpI_mono fun _ _ => gpR_mono fun _ _ => And.imp_right (And.imp_right (hg _ _ _ _ _ (hF_o hw)))
    | exact gpR_mono fun _ _ => gpI_mono fun _ _ => gpR_mono fun _ _ => And.imp_right (And.imp_right (hg _ _ _ _ _ (hF_o hw)))
    | exact gpI_mono fun _ _ => gpI_mono fun _ _ h => ⟨h.1, h.2.1, hg _ _ _ _ _ (hF_m h.2.1) h.2.2⟩
    | exact gpI_mono fun _ _ h => ⟨h.1, h.2.1, hg _ _ _ _ _ (hF_n h.2.1) h.2.2⟩
    | exact fun h => ⟨h.1, hg _ _ _ _ _ (hF_n h.1) h.2⟩
    | exact gpI_mono fun _ _ => gsw_mono (fun _ => hg1 _ _ _ _) _
    | exact gputf_fr hw hg _ _
    | exact gcall_fr hw hg hC _ _
    | exact gret_fr hr
    | (rename_i cond off; cases cond <;> first
        | exact gpI_mono fun _ _ => And.imp (fun k e => hg1 _ _ _ _ (k e)) (fun k e => hg1 _ _ _ _ (k e))
        | exact gpI_mono fun _ _ => gpI_mono fun _ _ => And.imp (fun k e => hg1 _ _ _ _ (k e)) (fun k e => hg1 _ _ _ _ (k e)))
    | (cases y <;> first
        | exact gpI_mono fun _ _ => gpR_mono fun _ _ => And.imp_right (And.imp_right (hg1 _ _ _ _))
        | exact gpR_mono fun _ _ => And.imp_right (hg1 _ _ _ _))
    | (unfold gstep; dsimp only; exact gpV_mono fun _ _ => hg1 _ _ _ _)
    | (unfold gstep; dsimp only; exact gpV_mono fun _ _ => gpV_mono fun _ _ => hg1 _ _ _ _)
    | (unfold gstep; dsimp only; exact gputf_fr hw hg _ _)
    | (unfold gstep; dsimp only; split <;> first | exact And.imp_right (hr _) | exact id)
end
theorem gT_fr {d y pc : Nat} {L : gL} {st : List Value} {cu : Nat × Nat} {w : gW} {Q : Option Value → gW → Prop} (h : gT d y pc L st cu w Q) (hw : hI w) : gT d y pc L st cu w (fun r u => Q r u ∧ hF w u) := by
  refine h (fun d y pc L st cu w Q => hI w → gT d y pc L st cu w (fun r u => Q r u ∧ hF w u)) (fun d y pc L st cu w Q Q' hq h hw => gT_mono _ _ _ _ _ _ _ _ _ (fun r u k => ⟨hq r u k.1, k.2⟩) (h hw)) ?_ hw
  intro d y pc L st cu w Q hF' hw
  refine gT_fold ?_
  revert hF'
  unfold gF
  cases g_ins y pc with
  | none => exact id
  | some q =>
    refine gstep_fr hw (fun pc' L' st' cu' u hu k => gT_mono _ _ _ _ _ _ _ _ _ (fun r v g => ⟨g.1, hF_T hu g.2⟩) (k hu.1)) ?_ (fun r k => ⟨k, hF_s hw⟩)
    intro y2 As Q1 Q2 hq
    cases d with
    | zero => exact id
    | succ d' => exact fun h => gT_mono _ _ _ _ _ _ _ _ _ (fun r v g => hq r v g.2 g.1) (h hw)
theorem gTM_fr {d y : Nat} {As : List Value} {w : gW} {Q : Option Value → gW → Prop} (h : gTM d y As w Q) (hw : hI w) : gTM d y As w (fun r u => Q r u ∧ hF w u) := gT_fr h hw
