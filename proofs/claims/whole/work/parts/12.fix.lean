theorem gF_imp {P P' C C' : gSt} {d y pc : Nat} {L : gL} {st : List Value} {cu : Nat × Nat} {w : gW} {Q : Option Value → gW → Prop} (hP : ∀ d y pc L st cu w Q, P d y pc L st cu w Q → P' d y pc L st cu w Q) (hC : ∀ d y pc L st cu w Q, C d y pc L st cu w Q → C' d y pc L st cu w Q) (hm : gMono C') : gF P C d y pc L st cu w Q → gF P' C' d y pc L st cu w Q := by
  unfold gF
  cases g_ins y pc with
  | none => exact id
  | some q =>
    refine gstep_mono (Nat.le_refl _) (fun _ _ _ _ _ => hP _ _ _ _ _ _ _ _) ?_ (fun _ _ => id)
    intro y2 As w' Q1 Q2 hq
    cases d with
    | zero => exact id
    | succ d' => exact fun h => hm _ _ _ _ _ _ _ _ _ hq (hC _ _ _ _ _ _ _ _ h)
theorem gT_mono : gMono gT := fun _ _ _ _ _ _ _ _ _ hq h P hm hc => hm _ _ _ _ _ _ _ _ _ hq (h P hm hc)
theorem gT_fold {d y pc : Nat} {L : gL} {st : List Value} {cu : Nat × Nat} {w : gW} {Q : Option Value → gW → Prop} (h : gF gT gT d y pc L st cu w Q) : gT d y pc L st cu w Q :=
  fun P hm hc => hc _ _ _ _ _ _ _ _ (gF_imp (fun _ _ _ _ _ _ _ _ h' => h' P hm hc) (fun _ _ _ _ _ _ _ _ h' => h' P hm hc) hm h)
theorem gT_n : ∀ (n : Nat) {d y pc : Nat} {L : gL} {st : List Value} {cu : Nat × Nat} {w : gW} {Q : Option Value → gW → Prop}, gX n d y pc L st cu w Q → gT d y pc L st cu w Q
  | 0, _, _, _, _, _, _, _, _ => id
  | n + 1, _, _, _, _, _, _, _, _ => fun h => gT_fold (gF_imp (fun _ _ _ _ _ _ _ _ => gT_n n) (fun _ _ _ _ _ _ _ _ => id) gT_mono h)
theorem gT_lift {d y pc : Nat} {L : gL} {st : List Value} {cu : Nat × Nat} {w : gW} {Q : Option Value → gW → Prop} (h : gT d y pc L st cu w Q) {d' : Nat} (hd : d ≤ d') : gT d' y pc L st cu w Q := by
  have key := h (fun d y pc L st cu w Q => ∀ d', d ≤ d' → gT d' y pc L st cu w Q) (fun _ _ _ _ _ _ _ _ _ hq h d' hd => gT_mono _ _ _ _ _ _ _ _ _ hq (h d' hd)) ?_
  · exact key d' hd
  · intro d y pc L st cu w Q hF d' hd
    refine gT_fold ?_
    revert hF
    unfold gF
    cases g_ins y pc with
    | none => exact id
    | some q =>
      refine gstep_mono hd (fun _ _ _ _ _ h => h d' hd) ?_ (fun _ _ => id)
      intro y2 As w' Q1 Q2 hq
      cases d with
      | zero => exact fun h => False.elim h
      | succ d1 =>
        cases d' with
        | zero => exact absurd hd (by omega)
        | succ d2 => exact fun h => gT_mono _ _ _ _ _ _ _ _ _ hq (h d2 (by omega))
/-- a method's contract, where it is called -/
theorem gTM.use {d d' y : Nat} {As : List Value} {w : gW} {Q Q' : Option Value → gW → Prop} (h : gTM d y As w Q) (hd : d ≤ d') (hq : ∀ r u, Q r u → Q' r u) : gT d' y 0 (lv_args 0 As) [] (0, 0) w Q' := gT_mono _ _ _ _ _ _ _ _ _ hq (gT_lift h hd)
