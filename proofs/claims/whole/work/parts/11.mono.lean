theorem gpI_mono {st : List Value} {f g : Int32 → List Value → Prop} (h : ∀ x r, f x r → g x r) : gpI st f → gpI st g := by
  unfold gpI; split
  · exact h _ _
  · exact id
theorem gpJ_mono {st : List Value} {f g : Int64 → List Value → Prop} (h : ∀ x r, f x r → g x r) : gpJ st f → gpJ st g := by
  unfold gpJ; split
  · exact h _ _
  · exact id
theorem gpR_mono {st : List Value} {f g : Nat → List Value → Prop} (h : ∀ x r, f x r → g x r) : gpR st f → gpR st g := by
  unfold gpR; split
  · exact h _ _
  · exact id
theorem gpQ_mono {st : List Value} {f g : Option Nat → List Value → Prop} (h : ∀ x r, f x r → g x r) : gpQ st f → gpQ st g := by
  unfold gpQ; split
  · exact h _ _
  · exact h _ _
  · exact id
theorem gpV_mono {st : List Value} {f g : Value → List Value → Prop} (h : ∀ x r, f x r → g x r) : gpV st f → gpV st g := by
  unfold gpV; split
  · exact h _ _
  · exact h _ _
  · exact h _ _
  · exact id
theorem gpop_mono {f g : List Value → List Value → Prop} (h : ∀ x r, f x r → g x r) : ∀ (n : Nat) (acc st : List Value), gpop n acc st f → gpop n acc st g
  | 0, acc, st => h acc st
  | n + 1, acc, v :: st => gpop_mono h n (v :: acc) st
  | _ + 1, _, [] => id
theorem gsw_mono {x : Int32} {d : Nat} {go go' : Nat → Prop} (h : ∀ t, go t → go' t) : ∀ l : List (Int32 × Nat), gsw x d go l → gsw x d go' l
  | [] => h d
  | q :: r => fun k => ⟨fun e => h _ (k.1 e), fun e => gsw_mono h r (k.2 e)⟩
def gCm (C C' : gCall) : Prop := ∀ y As w Q Q', (∀ r u, Q r u → Q' r u) → C y As w Q → C' y As w Q'
theorem ble_up {a b c : Nat} (h : b ≤ c) (k : Nat.ble a b = true) : Nat.ble a c = true := Nat.ble_eq_true_of_le (Nat.le_trans (Nat.le_of_ble_eq_true k) h)
theorem gcall_mono {dd dd' y pc : Nat} {L : gL} {st : List Value} {cu : Nat × Nat} {w : gW} {go go' : gGo} {C C' : gCall} (hd : dd ≤ dd') (hg : ∀ pc L st cu w, go pc L st cu w → go' pc L st cu w) (hC : gCm C C') (y2 mode : Nat) : gcall dd y pc L st cu w go C y2 mode → gcall dd' y pc L st cu w go' C' y2 mode := by
  unfold gcall
  split
  · exact gpop_mono (fun _ _ => And.imp_right (hC _ _ _ _ _ fun _ _ => hg _ _ _ _ _)) _ _ _
  · exact gpop_mono (fun _ _ => And.imp_right (hC _ _ _ _ _ fun _ _ => hg _ _ _ _ _)) _ _ _
  · exact gpop_mono (fun _ _ => gpR_mono fun _ _ => And.imp_right (And.imp_right (hC _ _ _ _ _ fun _ _ => hg _ _ _ _ _))) _ _ _
  · exact gpop_mono (fun _ _ => gpR_mono fun _ _ => And.imp_right (hC _ _ _ _ _ fun _ _ => hg _ _ _ _ _)) _ _ _
  · exact gpop_mono (fun _ _ => gpR_mono fun _ _ => And.imp_right (hC _ _ _ _ _ fun _ _ => hg _ _ _ _ _)) _ _ _
  · exact gpR_mono fun _ _ => And.imp_right (hg _ _ _ _ _)
  · exact gpI_mono fun _ _ => gpI_mono fun _ _ => gpR_mono fun _ _ => gpI_mono fun _ _ => gpR_mono fun _ _ => And.imp_right (And.imp_right (And.imp_right (And.imp_right (hg _ _ _ _ _))))
  · exact gpR_mono fun _ _ => And.imp (ble_up hd) (And.imp_right (And.imp_right (And.imp_right (hg _ _ _ _ _))))
  · exact gpI_mono fun _ _ => gpR_mono fun _ _ => And.imp (ble_up hd) (And.imp_right (And.imp_right (And.imp_right (And.imp_right (hg _ _ _ _ _)))))
  · exact id
theorem gputf_mono {y pc : Nat} {L : gL} {st : List Value} {cu : Nat × Nat} {w : gW} {go go' : gGo} (hg : ∀ pc L st cu w, go pc L st cu w → go' pc L st cu w) (ci k : Nat) : gputf y pc L st cu w go ci k → gputf y pc L st cu w go' ci k := by
  unfold gputf
  split
  · exact gpI_mono fun _ _ => gpR_mono fun _ _ => And.imp_right (hg _ _ _ _ _)
  · exact gpJ_mono fun _ _ => gpR_mono fun _ _ => And.imp_right (hg _ _ _ _ _)
  · exact gpQ_mono fun _ _ => gpR_mono fun _ _ => And.imp_right (hg _ _ _ _ _)
  · exact gpI_mono fun _ _ => gpR_mono fun _ _ => And.imp_right (And.imp_right (hg _ _ _ _ _))
  · exact id
theorem gret_mono {y : Nat} {st : List Value} {w : gW} {ret ret' : Option Value → gW → Prop} (hr : ∀ r u, ret r u → ret' r u) : gret y st w ret → gret y st w ret' := by
  unfold gret
  split
  · split
    · exact hr _ _
    · exact id
  · split
    · exact And.imp_right (hr _ _)
    · exact id
  · exact id
set_option maxHeartbeats 4000000 in
theorem gstep_mono {dd dd' : Nat} {q : gI} {y pc : Nat} {L : gL} {st : List Value} {cu : Nat × Nat} {w : gW} {go go' : gGo} {C C' : gCall} {ret ret' : Option Value → gW → Prop} (hd : dd ≤ dd') (hg : ∀ pc L st cu w, go pc L st cu w → go' pc L st cu w) (hC : gCm C C') (hr : ∀ r u, ret r u → ret' r u) : gstep dd q y pc L st cu w go C ret → gstep dd' q y pc L st cu w go' C' ret' := by
  obtain ⟨i, len, a, b, c, kv, kl, tab⟩ := q
  cases i <;> first
    | exact fun h => False.elim h
    | exact hg _ _ _ _ _
    | exact gpI_mono fun _ _ => hg _ _ _ _ _
    | exact gpJ_mono fun _ _ => hg _ _ _ _ _
    | exact gpR_mono fun _ _ => hg _ _ _ _ _
    | exact gpV_mono fun _ _ => hg _ _ _ _ _
    | exact gpI_mono fun _ _ => gpI_mono fun _ _ => hg _ _ _ _ _
    | exact gpJ_mono fun _ _ => gpJ_mono fun _ _ => hg _ _ _ _ _
    | exact gpI_mono fun _ _ => gpJ_mono fun _ _ => hg _ _ _ _ _
    | exact gpV_mono fun _ _ => gpV_mono fun _ _ => hg _ _ _ _ _
    | exact gpI_mono fun _ _ => gpI_mono fun _ _ => And.imp_right (hg _ _ _ _ _)
    | exact gpR_mono fun _ _ => And.imp_right (hg _ _ _ _ _)
    | exact gpI_mono fun _ _ => gpR_mono fun _ _ => And.imp_right (And.imp_right (hg _ _ _ _ _))
    | exact gpI_mono fun _ _ => gpI_mono fun _ _ => gpR_mono fun _ _ => And.imp_right (And.imp_right (hg _ _ _ _ _))
    | exact gpI_mono fun _ _ => gpI_mono fun _ _ => gpR_mono fun _ _ => And.imp_right (And.imp_right (And.imp_right (hg _ _ _ _ _)))
    | exact gpJ_mono fun _ _ => gpI_mono fun _ _ => gpR_mono fun _ _ => And.imp_right (And.imp_right (hg _ _ _ _ _))
    | exact gpR_mono fun _ _ => gpI_mono fun _ _ => gpR_mono fun _ _ => And.imp_right (And.imp_right (hg _ _ _ _ _))
    | exact gpI_mono fun _ _ => gpI_mono fun _ _ => And.imp_right (And.imp_right (hg _ _ _ _ _))
    | exact gpI_mono fun _ _ => And.imp_right (And.imp_right (hg _ _ _ _ _))
    | exact And.imp_right (hg _ _ _ _ _)
    | exact gpI_mono fun _ _ => gsw_mono (fun _ => hg _ _ _ _ _) _
    | exact gputf_mono hg _ _
    | exact gcall_mono hd hg hC _ _
    | exact gret_mono hr
    | (rename_i cond off; cases cond <;> first
        | exact gpI_mono fun _ _ => And.imp (fun k e => hg _ _ _ _ _ (k e)) (fun k e => hg _ _ _ _ _ (k e))
        | exact gpI_mono fun _ _ => gpI_mono fun _ _ => And.imp (fun k e => hg _ _ _ _ _ (k e)) (fun k e => hg _ _ _ _ _ (k e)))
    | (cases y <;> first
        | exact gpI_mono fun _ _ => gpR_mono fun _ _ => And.imp_right (And.imp_right (hg _ _ _ _ _))
        | exact gpR_mono fun _ _ => And.imp_right (hg _ _ _ _ _))
    | (unfold gstep; dsimp only; exact gpV_mono fun _ _ => hg _ _ _ _ _)
    | (unfold gstep; dsimp only; exact gpV_mono fun _ _ => gpV_mono fun _ _ => hg _ _ _ _ _)
    | (unfold gstep; dsimp only; exact gputf_mono hg _ _)
    | (unfold gstep; dsimp only; split <;> first | exact And.imp_right (hr _ _) | exact id)
