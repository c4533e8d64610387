/-! references outside of rows do not matter -/
def eqM (w u : gW) : Prop := w.1 = u.1 ∧ w.2.1 = u.2.1 ∧ w.2.2.1 = u.2.2.1 ∧ ∀ a k, (gar w a = none ∨ k < gln w a) → w.2.2.2 a k = u.2.2.2 a k
theorem eqM_ar {w u : gW} (h : eqM w u) (a : Nat) : gar u a = gar w a := by unfold gar; rw [h.1]
theorem eqM_ob {w u : gW} (h : eqM w u) (a : Nat) : gob u a = gob w a := by unfold gob; rw [h.1]
theorem eqM_ln {w u : gW} (h : eqM w u) (a : Nat) : gln u a = gln w a := by unfold gln; rw [h.1]
theorem gob_ar {w : gW} {a c : Nat} (h : gob w a = some c) : gar w a = none := by
  unfold gob at h
  unfold gar
  cases e : w.1[a]? with
  | none => rfl
  | some q =>
    rw [e] at h
    cases q with
    | inl c => rfl
    | inr q => exact absurd h (by simp)
theorem eqM_val {w u : gW} (h : eqM w u) {a ci k : Nat} (ho : gob w a = some ci) : gval u a ci k = gval w a ci k := by
  unfold gval
  rw [h.2.1, h.2.2.1, h.2.2.2 a k (Or.inl (gob_ar ho))]
theorem vp_clamp {j : Int32} {m : Nat} (h : vp_in j m) : j.toNatClampNeg < m := Nat.lt_of_not_le (fun g => h (Or.inr g))
theorem eqM_i {w u : gW} {f : Nat → Nat → Int32} (h : eqM w u) : eqM (w.1, f, w.2.2) (u.1, f, u.2.2) := ⟨h.1, rfl, h.2.2.1, h.2.2.2⟩
theorem eqM_j {w u : gW} {f : Nat → Nat → Int64} (h : eqM w u) : eqM (w.1, w.2.1, f, w.2.2.2) (u.1, u.2.1, f, u.2.2.2) := ⟨h.1, h.2.1, rfl, h.2.2.2⟩
theorem eqM_I {w u : gW} {a k : Nat} {x : Int32} (h : eqM w u) : eqM (w.1, gupI w.2.1 a k x, w.2.2) (u.1, gupI u.2.1 a k x, u.2.2) := by
  rw [← h.2.1]; exact eqM_i h
theorem eqM_J {w u : gW} {a k : Nat} {x : Int64} (h : eqM w u) : eqM (w.1, w.2.1, gupL w.2.2.1 a k x, w.2.2.2) (u.1, u.2.1, gupL u.2.2.1 a k x, u.2.2.2) := by
  rw [← h.2.2.1]; exact eqM_j h
theorem eqM_r {w u : gW} {a k : Nat} {x : Option Nat} (h : eqM w u) : eqM (w.1, w.2.1, w.2.2.1, gupR w.2.2.2 a k x) (u.1, u.2.1, u.2.2.1, gupR u.2.2.2 a k x) := by
  refine ⟨h.1, h.2.1, h.2.2.1, fun a' k' g => ?_⟩
  show va_up w.2.2.2 a (va_up (w.2.2.2 a) k x) a' k' = va_up u.2.2.2 a (va_up (u.2.2.2 a) k x) a' k'
  unfold va_up
  by_cases c : a' = a
  · subst c
    rw [if_pos rfl, if_pos rfl]
    by_cases c2 : k' = k
    · rw [if_pos c2, if_pos c2]
    · rw [if_neg c2, if_neg c2]; exact h.2.2.2 _ _ g
  · rw [if_neg c, if_neg c]; exact h.2.2.2 _ _ g
theorem gar_app {w : gW} {l : List gK} {m : gM} {a : Nat} (ha : a < w.1.length) : gar (w.1 ++ l, m) a = gar w a ∧ gln (w.1 ++ l, m) a = gln w a := by
  unfold gar gln
  show (match (w.1 ++ l)[a]? with | some (.inr q) => some q.1 | _ => none) = _ ∧ (match (w.1 ++ l)[a]? with | some (.inr q) => q.2 | _ => 0) = _
  rw [List.getElem?_append_left ha]
  exact ⟨rfl, rfl⟩
theorem gar_out {w : gW} {a : Nat} (ha : w.1.length ≤ a) : gar w a = none := by
  unfold gar
  rw [List.getElem?_eq_none ha]
theorem eqM_n {w u : gW} {kd : gK} (h : eqM w u) : eqM (gnew w kd) (gnew u kd) := by
  refine ⟨?_, ?_, ?_, fun a k g => ?_⟩
  · show w.1 ++ [kd] = u.1 ++ [kd]; rw [h.1]
  · show va_up w.2.1 w.1.length _ = va_up u.2.1 u.1.length _; rw [h.1, h.2.1]
  · show va_up w.2.2.1 w.1.length _ = va_up u.2.2.1 u.1.length _; rw [h.1, h.2.2.1]
  · show va_up w.2.2.2 w.1.length (fun _ => none) a k = va_up u.2.2.2 u.1.length (fun _ => none) a k
    rw [← h.1]
    unfold va_up
    by_cases c : a = w.1.length
    · rw [if_pos c, if_pos c]
    · rw [if_neg c, if_neg c]
      by_cases c2 : a < w.1.length
      · have e := gar_app (w := w) (l := [kd]) (m := (gnew w kd).2) c2
        exact h.2.2.2 a k (g.imp (fun q => e.1.symm.trans q) (fun q => by rw [← e.2]; exact q))
      · exact h.2.2.2 a k (Or.inl (gar_out (by omega)))
theorem eqM_m {w u : gW} {N K : Nat} (h : eqM w u) : eqM (gmul w N K) (gmul u N K) := by
  refine ⟨?_, ?_, ?_, fun a k g => ?_⟩
  · show w.1 ++ _ = u.1 ++ _; rw [h.1]
  · show (fun a => if w.1.length ≤ a ∧ a ≤ w.1.length + N then _ else w.2.1 a) = (fun a => if u.1.length ≤ a ∧ a ≤ u.1.length + N then _ else u.2.1 a); rw [h.1, h.2.1]
  · show (fun a => if w.1.length ≤ a ∧ a ≤ w.1.length + N then _ else w.2.2.1 a) = (fun a => if u.1.length ≤ a ∧ a ≤ u.1.length + N then _ else u.2.2.1 a); rw [h.1, h.2.2.1]
  · show (if w.1.length ≤ a ∧ a ≤ w.1.length + N then (if a = w.1.length then fun j => if j < N then some (w.1.length + 1 + j) else none else fun _ => none) else w.2.2.2 a) k = (if u.1.length ≤ a ∧ a ≤ u.1.length + N then (if a = u.1.length then fun j => if j < N then some (u.1.length + 1 + j) else none else fun _ => none) else u.2.2.2 a) k
    rw [← h.1]
    by_cases c : w.1.length ≤ a ∧ a ≤ w.1.length + N
    · rw [if_pos c, if_pos c]
    · rw [if_neg c, if_neg c]
      by_cases c2 : a < w.1.length
      · have e := gar_app (w := w) (l := Sum.inr (4, N) :: List.replicate N (Sum.inr (0, K))) (m := (gmul w N K).2) c2
        exact h.2.2.2 a k (g.imp (fun q => e.1.symm.trans q) (fun q => by rw [← e.2]; exact q))
      · exact h.2.2.2 a k (Or.inl (gar_out (by omega)))
theorem eqM_room {w u : gW} (h : eqM w u) {y n : Nat} {cu : Nat × Nat} : groom y cu u n = groom y cu w n := by unfold groom; rw [h.1]
def gCe (w u : gW) (C C' : gCall) : Prop := ∀ y As Q Q', (∀ r v v', eqM v v' → Q r v → Q' r v') → C y As w Q → C' y As u Q'
section
variable {dd y pc : Nat} {L : gL} {st : List Value} {cu : Nat × Nat} {w u : gW} {go go' : gGo} {C C' : gCall} {ret ret' : Option Value → gW → Prop}
theorem gcall_ex (hw : eqM w u) (hg : ∀ pc L st cu v v', eqM v v' → go pc L st cu v → go' pc L st cu v') (hC : gCe w u C C') (y2 mode : Nat) : gcall dd y pc L st cu w go C y2 mode → gcall dd y pc L st cu u go' C' y2 mode := by
  unfold gcall
  split
  · exact gpop_mono (fun _ _ h => ⟨h.1, hC _ _ _ _ (fun _ _ _ e k => hg _ _ _ _ _ _ e k) h.2⟩) _ _ _
  · exact gpop_mono (fun _ _ h => ⟨h.1, hC _ _ _ _ (fun _ _ _ e k => hg _ _ _ _ _ _ e k) h.2⟩) _ _ _
  · exact gpop_mono (fun _ _ => gpR_mono fun _ _ h => ⟨(eqM_ob hw _).trans h.1, h.2.1, hC _ _ _ _ (fun _ _ _ e k => hg _ _ _ _ _ _ e k) h.2.2⟩) _ _ _
  · exact gpop_mono (fun _ _ => gpR_mono fun _ _ h => ⟨h.1, hC _ _ _ _ (fun _ _ _ e k => hg _ _ _ _ _ _ e k) h.2⟩) _ _ _
  · exact gpop_mono (fun _ _ => gpR_mono fun _ _ h => ⟨h.1, hC _ _ _ _ (fun _ _ _ e k => hg _ _ _ _ _ _ e k) h.2⟩) _ _ _
  · exact gpR_mono fun _ _ => And.imp_right (hg _ _ _ _ _ _ hw)
  · refine gpI_mono fun _ _ => gpI_mono fun _ _ => gpR_mono fun _ _ => gpI_mono fun _ _ => gpR_mono fun _ _ h => ⟨h.1, (eqM_ar hw _).trans h.2.1, (eqM_ar hw _).trans h.2.2.1, ?_, ?_⟩
    · rw [eqM_ln hw, eqM_ln hw]; exact h.2.2.2.1
    · refine hg _ _ _ _ _ _ ?_ h.2.2.2.2
      rw [← hw.2.1]
      exact eqM_i hw
  · exact gpR_mono fun _ _ => And.imp_right (And.imp_right (And.imp_right (And.imp_right (hg _ _ _ _ _ _ hw))))
  · exact gpI_mono fun _ _ => gpR_mono fun _ _ => And.imp_right (And.imp_right (And.imp_right (And.imp_right (And.imp_right (hg _ _ _ _ _ _ hw)))))
  · exact id
theorem gputf_ex (hw : eqM w u) (hg : ∀ pc L st cu v v', eqM v v' → go pc L st cu v → go' pc L st cu v') (ci k : Nat) : gputf y pc L st cu w go ci k → gputf y pc L st cu u go' ci k := by
  unfold gputf
  split
  · exact gpI_mono fun _ _ => gpR_mono fun _ _ h => ⟨(eqM_ob hw _).trans h.1, hg _ _ _ _ _ _ (eqM_I hw) h.2⟩
  · exact gpJ_mono fun _ _ => gpR_mono fun _ _ h => ⟨(eqM_ob hw _).trans h.1, hg _ _ _ _ _ _ (eqM_J hw) h.2⟩
  · exact gpQ_mono fun _ _ => gpR_mono fun _ _ h => ⟨(eqM_ob hw _).trans h.1, hg _ _ _ _ _ _ (eqM_r hw) h.2⟩
  · exact gpI_mono fun _ _ => gpR_mono fun _ _ h => ⟨(eqM_ob hw _).trans h.1, h.2.1, hg _ _ _ _ _ _ (eqM_I hw) h.2.2⟩
  · exact id
theorem gret_ex (hr : ∀ r, ret r w → ret' r u) : gret y st w ret → gret y st u ret' := by
  unfold gret
  split
  · split
    · exact hr _
    · exact id
  · split
    · exact And.imp_right (hr _)
    · exact id
  · exact id
theorem vp_lneq {w u : gW} (hw : eqM w u) {j : Int32} {o : Nat} (h : vp_in j (gln w o)) : vp_in j (gln u o) := by rw [eqM_ln hw]; exact h
set_option maxHeartbeats 4000000 in
theorem gstep_ex {q : gI} (hw : eqM w u) (hg : ∀ pc L st cu v v', eqM v v' → go pc L st cu v → go' pc L st cu v') (hC : gCe w u C C') (hr : ∀ r, ret r w → ret' r u) : gstep dd q y pc L st cu w go C ret → gstep dd q y pc L st cu u go' C' ret' := by
  have hg1 : ∀ pc L st cu, go pc L st cu w → go' pc L st cu u := fun _ _ _ _ => hg _ _ _ _ _ _ hw
  obtain ⟨i, len, a, b, c, kv, kl, tab⟩ := q
  cases i <;> first
    | exact fun h => False.elim h
    | exact hg1 _ _ _ _
    | exact gpI_mono fun _ _ => hg1 _ _ _ _
    | exact gpJ_mono fun _ _ => hg1 _ _ _ _
    | exact gpR_mono fun _ _ => hg1 _ _ _ _
    | exact gpV_mono fun _ _ => hg1 _ _ _ _
    | exact gpI_mono fun _ _ => gpI_mono fun _ _ => hg1 _ _ _ _
    | exact gpJ_mono fun _ _ => gpJ_mono fun _ _ => hg1 _ _ _ _
    | exact gpI_mono fun _ _ => gpJ_mono fun _ _ => hg1 _ _ _ _
    | exact gpV_mono fun _ _ => gpV_mono fun _ _ => hg1 _ _ _ _
    | exact gpI_mono fun _ _ => gpI_mono fun _ _ => And.imp_right (hg1 _ _ _ _)
    | exact gpI_mono fun _ _ => gsw_mono (fun _ => hg1 _ _ _ _) _
    | exact gputf_ex hw hg _ _
    | exact gcall_ex hw hg hC _ _
    | exact gret_ex hr
    | exact gpR_mono fun _ _ h => ⟨(eqM_ob hw _).trans h.1, by rw [eqM_val hw h.1]; exact hg1 _ _ _ _ h.2⟩
    | exact gpI_mono fun _ _ => gpI_mono fun _ _ => gpR_mono fun _ _ h => ⟨(eqM_ar hw _).trans h.1, vp_lneq hw h.2.1, hg _ _ _ _ _ _ (eqM_I hw) h.2.2⟩
    | exact gpI_mono fun _ _ => gpI_mono fun _ _ => gpR_mono fun o _ h => ⟨by rw [eqM_ar hw]; exact h.1, vp_lneq hw h.2.1, by rw [eqM_ar hw]; exact h.2.2.1, hg _ _ _ _ _ _ (eqM_I hw) h.2.2.2⟩
    | exact gpJ_mono fun _ _ => gpI_mono fun _ _ => gpR_mono fun _ _ h => ⟨(eqM_ar hw _).trans h.1, vp_lneq hw h.2.1, hg _ _ _ _ _ _ (eqM_J hw) h.2.2⟩
    | exact gpR_mono fun x _ => gpI_mono fun _ _ => gpR_mono fun o _ h => ⟨by rw [eqM_ar hw, eqM_ob hw]; exact h.1, vp_lneq hw h.2.1, hg _ _ _ _ _ _ (eqM_r hw) h.2.2⟩
    | exact gpI_mono fun _ _ => gpR_mono fun _ _ h => ⟨(eqM_ar hw _).trans h.1, vp_lneq hw h.2.1, by rw [← hw.2.2.1]; exact hg1 _ _ _ _ h.2.2⟩
    | exact gpI_mono fun _ _ => gpR_mono fun _ _ h => ⟨by rw [eqM_ar hw]; exact h.1, vp_lneq hw h.2.1, by rw [← hw.2.1]; exact hg1 _ _ _ _ h.2.2⟩
    | exact gpI_mono fun j _ => gpR_mono fun o _ h => ⟨by rw [eqM_ar hw]; exact h.1, vp_lneq hw h.2.1, by rw [← hw.2.2.2 o _ (Or.inr (vp_clamp h.2.1))]; exact hg1 _ _ _ _ h.2.2⟩
    | (cases y <;> first
        | exact gpI_mono fun _ _ => gpR_mono fun _ _ h => ⟨h.1, by rw [← hw.2.1]; exact h.2.1, by rw [← hw.2.1]; exact hg1 _ _ _ _ h.2.2⟩
        | exact gpI_mono fun _ _ => gpR_mono fun _ _ h => ⟨(eqM_ar hw _).trans h.1, vp_lneq hw h.2.1, by rw [← hw.2.1]; exact hg1 _ _ _ _ h.2.2⟩
        | exact gpR_mono fun _ _ h => ⟨h.1, by rw [← hw.2.1]; exact hg1 _ _ _ _ h.2⟩
        | exact gpR_mono fun _ _ h => ⟨by rw [eqM_ar hw]; exact h.1, by rw [eqM_ln hw]; exact hg1 _ _ _ _ h.2⟩)
    | (rename_i cond off; cases cond <;> first
        | exact gpI_mono fun _ _ => And.imp (fun k e => hg1 _ _ _ _ (k e)) (fun k e => hg1 _ _ _ _ (k e))
        | exact gpI_mono fun _ _ => gpI_mono fun _ _ => And.imp (fun k e => hg1 _ _ _ _ (k e)) (fun k e => hg1 _ _ _ _ (k e)))
    | (unfold gstep; dsimp only; exact gpV_mono fun _ _ => hg1 _ _ _ _)
    | (unfold gstep; dsimp only; exact gpV_mono fun _ _ => gpV_mono fun _ _ => hg1 _ _ _ _)
    | (unfold gstep; dsimp only; exact gputf_ex hw hg _ _)
    | (unfold gstep; dsimp only; split <;> first | exact And.imp_right (hr _) | exact id)
    | (show groom _ _ _ _ = true ∧ _ → groom _ _ _ _ = true ∧ _
       exact fun h => ⟨by rw [eqM_room hw]; exact h.1, by rw [← hw.1]; exact hg _ _ _ _ _ _ (eqM_n hw) h.2⟩)
    | exact gpI_mono fun _ _ h => ⟨h.1, by rw [eqM_room hw]; exact h.2.1, by rw [← hw.1]; exact hg _ _ _ _ _ _ (eqM_n hw) h.2.2⟩
    | exact gpI_mono fun _ _ => gpI_mono fun _ _ h => ⟨h.1, by rw [← hw.1]; exact h.2.1, by rw [← hw.1]; exact hg _ _ _ _ _ _ (eqM_m hw) h.2.2⟩
end
theorem gT_ex {d y pc : Nat} {L : gL} {st : List Value} {cu : Nat × Nat} {w u : gW} {Q : Option Value → gW → Prop} (h : gT d y pc L st cu w Q) (hw : eqM w u) : gT d y pc L st cu u (fun r v' => ∃ v, eqM v v' ∧ Q r v) := by
  refine h (fun d y pc L st cu w Q => ∀ u, eqM w u → gT d y pc L st cu u (fun r v' => ∃ v, eqM v v' ∧ Q r v)) (fun d y pc L st cu w Q Q' hq h u hu => gT_mono _ _ _ _ _ _ _ _ _ (fun r v' k => by obtain ⟨v, k1, k2⟩ := k; exact ⟨v, k1, hq r v k2⟩) (h u hu)) ?_ u hw
  intro d y pc L st cu w Q hF' u hw
  refine gT_fold ?_
  revert hF'
  unfold gF
  cases g_ins y pc with
  | none => exact id
  | some q =>
    refine gstep_ex hw (fun pc' L' st' cu' v v' hv k => k v' hv) ?_ (fun r k => ⟨w, hw, k⟩)
    intro y2 As Q1 Q2 hq
    cases d with
    | zero => exact id
    | succ d' => exact fun h => gT_mono _ _ _ _ _ _ _ _ _ (fun r v' g => by obtain ⟨v, g1, g2⟩ := g; exact hq r v v' g1 g2) (h u hw)
