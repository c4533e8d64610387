/-! MORE LOCALS, or the same in another order, do no harm -/
def gSub (L L' : gL) : Prop := (∀ q ∈ L, q ∈ L') ∧ (L'.map Prod.fst).Nodup
theorem glk_mem : ∀ {L : gL} {i : Nat} {v : Value}, (L.map Prod.fst).Nodup → (i, v) ∈ L → glk L i = some v
  | [], _, _, _, h => by cases h
  | (j, x) :: l, i, v, hn, h => by
    rw [List.map_cons, List.nodup_cons] at hn
    rcases List.mem_cons.mp h with e | h
    · cases e
      unfold glk
      rw [Nat.beq_refl]
    · have hne : j ≠ i := fun e => hn.1 (by rw [e]; exact List.mem_map.mpr ⟨(i, v), h, rfl⟩)
      unfold glk
      have hb : Nat.beq j i = false := by
        cases hb : Nat.beq j i with
        | false => rfl
        | true => exact absurd (Nat.eq_of_beq_eq_true hb) hne
      rw [hb]
      exact glk_mem hn.2 h
theorem gSub.lk {L L' : gL} (h : gSub L L') {i : Nat} {v : Value} (e : glk L i = some v) : glk L' i = some v := glk_mem h.2 (h.1 _ (glk_in e))
theorem gSub.cons {L L' : gL} {p : Nat × Value → Bool} (h : gSub L L') {i : Nat} {v : Value} (hp : ∀ q, p q = true → q.1 ≠ i) : gSub ((i, v) :: L.filter p) ((i, v) :: L'.filter p) := by
  refine ⟨fun q hq => ?_, ?_⟩
  · rcases List.mem_cons.mp hq with e | hq
    · rw [e]; exact List.mem_cons_self
    · have := List.mem_filter.mp hq
      exact List.mem_cons_of_mem _ (List.mem_filter.mpr ⟨h.1 q this.1, this.2⟩)
  · rw [List.map_cons, List.nodup_cons]
    refine ⟨fun hm => ?_, (List.filter_sublist.map Prod.fst).nodup h.2⟩
    obtain ⟨q, hq, e⟩ := List.mem_map.mp hm
    exact hp q (List.mem_filter.mp hq).2 e
theorem gSub.st1 {L L' : gL} (h : gSub L L') {i : Nat} {v : Value} : gSub (gst1 L i v) (gst1 L' i v) := h.cons (fun q hq e => by rw [e] at hq; simp at hq)
theorem gSub.st2 {L L' : gL} (h : gSub L L') {i : Nat} {v : Value} : gSub (gst2 L i v) (gst2 L' i v) := h.cons (fun q hq e => by rw [e] at hq; simp at hq)
theorem gpI_ld {L L' : gL} (hL : gSub L L') {a : Nat} {f g : Int32 → List Value → Prop} (h : ∀ x r, f x r → g x r) : gpI (glk L a).toList f → gpI (glk L' a).toList g := by
  cases e : glk L a with
  | none => exact fun k => False.elim k
  | some v => rw [hL.lk e]; exact gpI_mono h
theorem gpJ_ld {L L' : gL} (hL : gSub L L') {a : Nat} {f g : Int64 → List Value → Prop} (h : ∀ x r, f x r → g x r) : gpJ (glk L a).toList f → gpJ (glk L' a).toList g := by
  cases e : glk L a with
  | none => exact fun k => False.elim k
  | some v => rw [hL.lk e]; exact gpJ_mono h
theorem gpR_ld {L L' : gL} (hL : gSub L L') {a : Nat} {f g : Nat → List Value → Prop} (h : ∀ x r, f x r → g x r) : gpR (glk L a).toList f → gpR (glk L' a).toList g := by
  cases e : glk L a with
  | none => exact fun k => False.elim k
  | some v => rw [hL.lk e]; exact gpR_mono h
set_option maxHeartbeats 4000000 in
theorem gstep_sub {dd : Nat} {q : gI} {y pc : Nat} {L L' : gL} {st : List Value} {cu : Nat × Nat} {w : gW} {go go' : gGo} {C C' : gCall} {ret : Option Value → gW → Prop} (hL : gSub L L') (hg : ∀ pc L L' st cu w, gSub L L' → go pc L st cu w → go' pc L' st cu w) (hC : gCm C C') : gstep dd q y pc L st cu w go C ret → gstep dd q y pc L' st cu w go' C' ret := by
  have key : gstep dd q y pc L st cu w (fun pc _ st cu w => go pc L st cu w) C ret → gstep dd q y pc L st cu w (fun pc _ st cu w => go' pc L' st cu w) C' ret := gstep_mono (Nat.le_refl _) (fun _ _ _ _ _ => hg _ _ _ _ _ _ hL) hC (fun _ _ => id)
  obtain ⟨i, len, a, b, c, kv, kl, tab⟩ := q
  cases i <;> first
    | exact key
    | exact gpI_ld hL fun _ _ => hg _ _ _ _ _ _ hL
    | exact gpJ_ld hL fun _ _ => hg _ _ _ _ _ _ hL
    | exact gpR_ld hL fun _ _ => hg _ _ _ _ _ _ hL
    | exact gpI_mono fun _ _ => hg _ _ _ _ _ _ hL.st1
    | exact gpR_mono fun _ _ => hg _ _ _ _ _ _ hL.st1
    | exact gpJ_mono fun _ _ => hg _ _ _ _ _ _ hL.st2
    | exact gpI_ld hL fun _ _ => hg _ _ _ _ _ _ hL.st1
    | (rename_i cond off; cases cond <;> exact key)
    | (cases y <;> exact key)
theorem lv_args_nd : ∀ (As : List Value) (k : Nat), ((lv_args k As).map Prod.fst).Nodup ∧ ∀ q ∈ lv_args k As, k ≤ q.1
  | [], _ => ⟨List.nodup_nil, fun _ h => by cases h⟩
  | v :: As, k => by
    have hc : k + 1 ≤ (if v.category = 2 then k + 2 else k + 1) := by split <;> omega
    obtain ⟨h1, h2⟩ := lv_args_nd As (if v.category = 2 then k + 2 else k + 1)
    refine ⟨?_, fun q hq => ?_⟩
    · show ((k, v).1 :: (lv_args (if v.category = 2 then k + 2 else k + 1) As).map Prod.fst).Nodup
      rw [List.nodup_cons]
      refine ⟨fun hm => ?_, h1⟩
      obtain ⟨q, hq, e⟩ := List.mem_map.mp hm
      have := h2 q hq
      omega
    · rcases List.mem_cons.mp hq with e | hq
      · rw [e]; exact Nat.le_refl _
      · have := h2 q hq
        omega
/-- more locals do no harm -/
theorem gT_sub {d y pc : Nat} {L L' : gL} {st : List Value} {cu : Nat × Nat} {w : gW} {Q : Option Value → gW → Prop} (h : gT d y pc L st cu w Q) (hL : gSub L L') : gT d y pc L' st cu w Q := by
  have key := h (fun d y pc L st cu w Q => ∀ L', gSub L L' → gT d y pc L' st cu w Q) (fun _ _ _ _ _ _ _ _ _ hq h L' hL => gT_mono _ _ _ _ _ _ _ _ _ hq (h L' hL)) ?_
  · exact key L' hL
  · intro d y pc L st cu w Q hF L' hL
    refine gT_fold ?_
    revert hF
    unfold gF
    cases g_ins y pc with
    | none => exact id
    | some q =>
      refine gstep_sub hL (fun _ _ _ _ _ _ hS h => h _ hS) ?_
      intro y2 As w' Q1 Q2 hq
      cases d with
      | zero => exact fun h => False.elim h
      | succ d1 => exact fun h => gT_mono _ _ _ _ _ _ _ _ _ hq (h _ ⟨fun _ h => h, (lv_args_nd As 0).1⟩)
theorem gT_w {d y pc : Nat} {L L' : gL} {st : List Value} {cu : Nat × Nat} {w : gW} {Q : Option Value → gW → Prop} (h : gT d y pc L st cu w Q) (h1 : ∀ q ∈ L, q ∈ L') (h2 : (L'.map Prod.fst).Nodup) : gT d y pc L' st cu w Q := gT_sub h ⟨h1, h2⟩
theorem aL {x y : Int64} {l l' : List Value} (h : x = y) (t : l = l') : Value.long x :: l = Value.long y :: l' := by rw [h, t]
theorem aI {x y : Int32} {l l' : List Value} (h : x = y) (t : l = l') : Value.int x :: l = Value.int y :: l' := by rw [h, t]
theorem aR {a : Nat} {l l' : List Value} (t : l = l') : Value.ref a :: l = Value.ref a :: l' := by rw [t]
theorem gTM.useA {d d' y : Nat} {As As' : List Value} {w : gW} {Q Q' : Option Value → gW → Prop} (h : gTM d y As w Q) (hd : d ≤ d') (e : As' = As) (hq : ∀ r u, Q r u → Q' r u) : gT d' y 0 (lv_args 0 As') [] (0, 0) w Q' := by
  rw [e]; exact gTM.use h hd hq
def gAll (L' : gL) : gL → Prop
  | [] => True
  | q :: r => glk L' q.1 = some q.2 ∧ gAll L' r
def hasK (i : Nat) : gL → Bool
  | [] => false
  | q :: r => Nat.beq q.1 i || hasK i r
def ndB : gL → Bool
  | [] => true
  | q :: r => !hasK q.1 r && ndB r
theorem hasK_in {i : Nat} : ∀ {L : gL}, i ∈ L.map Prod.fst → hasK i L = true
  | [], h => by cases h
  | q :: r, h => by
    rw [List.map_cons] at h
    unfold hasK
    rcases List.mem_cons.mp h with e | h
    · rw [e, Nat.beq_refl]; rfl
    · rw [hasK_in h, Bool.or_true]
theorem ndB_nd : ∀ {L : gL}, ndB L = true → (L.map Prod.fst).Nodup
  | [], _ => List.nodup_nil
  | q :: r, h => by
    unfold ndB at h
    obtain ⟨h1, h2⟩ := gand h
    rw [List.map_cons, List.nodup_cons]
    refine ⟨fun hm => ?_, ndB_nd h2⟩
    rw [hasK_in hm] at h1
    cases h1
theorem gAll_in {L' : gL} : ∀ {L : gL}, gAll L' L → ∀ q ∈ L, q ∈ L'
  | [], _, _, h => by cases h
  | x :: r, h, q, hq => by
    rcases List.mem_cons.mp hq with e | hq
    · rw [e]; exact glk_in h.1
    · exact gAll_in h.2 q hq
/-- where the locals that matter are as told -/
theorem gT_k {d y pc : Nat} {L L' : gL} {st : List Value} {cu : Nat × Nat} {w : gW} {Q : Option Value → gW → Prop} (h : gT d y pc L st cu w Q) (h1 : gAll L' L) (h2 : ndB L' = true) : gT d y pc L' st cu w Q := gT_sub h ⟨gAll_in h1, ndB_nd h2⟩
