def gCtx (E : gEnv) (d y : Nat) (p : Program) (s : State) (m : MethodId) (args : Array Value) (meth : Method) (c : Code) (R : Room) : Prop :=
  p.tables.exec = Jvm.exec ∧ c.code = g_code y ∧ meth.sig.returnType = g_rt y ∧ c.maxLocals = g_mL y ∧ s.vm.findClass (g_cn (g_own y)) = some m.cls ∧ (∀ w ∈ gG, w.before args s = true) ∧ meth.locks = false ∧ (g_md y = 2 → meth.name = "<init>") ∧ E.2.2.1 ≤ s.heap.size ∧ gS E s ∧ (R.cells = g_mc y ∧ R.slots = g_ms y ∧ d + 2 ≤ R.frames ∧ 42 * (d + 2) ≤ R.locals)
def gRet (y : Nat) (i : Instr) (r : Option Value) : Prop := (i = .ireturn ∧ ∃ x, r = some (.int x) ∧ (g_rt y = some .int ∨ (g_rt y = some .boolean ∧ (x = 0 ∨ x = 1)))) ∨ (i = .lreturn ∧ ∃ x, r = some (.long x) ∧ g_rt y = some .long) ∨ (i = .areturn ∧ ∃ x n, r = some (.ref x) ∧ g_rt y = some (.object n)) ∨ (i = .return_ ∧ r = none ∧ g_rt y = none)
/-- what a method's end is worth to the walk that stands around it -/
def gEnd (l : Launch) (E : gEnv) (y : Nat) (Q : Option Value → gW → Prop) (p : Program) (e : Env) (s : State) (m : MethodId) (args : Array Value) (below : List Frame) (meth : Method) (c : Code) (R : Room) (Z : State → Prop) : Prop :=
  ∀ (r : Option Value) (w' : gW) (H' : Heap) (locs' : List Loc) (ls' : Array Slot) (cu' : Nat × Nat) (pc' : Nat) (i : Instr), decode (g_code y) pc' = .ok (i, 1) → gRet y i r → Q r w' → gH E w' H' → gSc E w' → va_S (gA E) s.heap H' locs' → cu'.1 ≤ g_mc y → cu'.2 ≤ g_ms y → W p l e R s m args below meth c H' locs' cu'.1 cu'.2 Z (F0 m pc' ls' ((r.map (gcv E)).toList))
/-- what the pure machine's gT is worth on the machine -/
def gSound (l : Launch) (E : gEnv) : gSt := fun d y pc L st cu w Q =>
  ∀ (p : Program) (e : Env) (s : State) (m : MethodId) (args : Array Value) (below : List Frame) (meth : Method) (c : Code) (R : Room) (Z : State → Prop) (H : Heap) (locs : List Loc) (ls : Array Slot),
    gCtx E d y p s m args meth c R → gEnd l E y Q p e s m args below meth c R Z → gH E w H → gSc E w → va_S (gA E) s.heap H locs → lv_has ls (g_mL y) (gcL E L) → cu.1 ≤ g_mc y → cu.2 ≤ g_ms y →
    W p l e R s m args below meth c H locs cu.1 cu.2 Z (F0 m pc ls (st.map (gcv E)))
theorem gSound_mono (l : Launch) (E : gEnv) : gMono (gSound l E) :=
  fun _ _ _ _ _ _ _ _ _ hq h p e s m args below meth c R Z H locs ls h1 h2 => h p e s m args below meth c R Z H locs ls h1 (fun r w' H' locs' ls' cu' pc' i k1 k2 k3 => h2 r w' H' locs' ls' cu' pc' i k1 k2 (hq _ _ k3))
def gPc (E : gEnv) (As : List Value) (w : gW) : Array Value → State → Prop := va_Pc (As.map (gcv E)) (fun U => E.2.2.1 ≤ U.heap.size ∧ gH E w U.heap ∧ gSc E w ∧ gS E U)
def gQc (E : gEnv) (Q : Option Value → gW → Prop) : Array Value → State → Outcome → State → Prop := fun _ st o t => (∃ r w', o = .returned (r.map (gcv E)) ∧ Q r w' ∧ gH E w' t.heap ∧ gSc E w') ∧ va_F (gA E) st t
theorem gargs (E : gEnv) : ∀ (vs : List Value) (i : Nat), lv_args i (vs.map (gcv E)) = gcL E (lv_args i vs)
  | [], _ => rfl
  | v :: vs, i => by
    show (i, gcv E v) :: lv_args (if (gcv E v).category = 2 then i + 2 else i + 1) (vs.map (gcv E)) = (i, gcv E v) :: gcL E (lv_args (if v.category = 2 then i + 2 else i + 1) vs)
    rw [gcv_cat, gargs E vs]
theorem gsl_len : ∀ vs : List Value, (lg_sl vs).length = gcat vs
  | [] => rfl
  | v :: vs => by
    have ih := gsl_len vs
    rcases lv_cat v with h | h
    · simp [lg_sl, gcat, h] at ih ⊢
      omega
    · simp [lg_sl, gcat, h] at ih ⊢
      omega
theorem gcat_cv (E : gEnv) (vs : List Value) : gcat (vs.map (gcv E)) = gcat vs := by
  simp only [gcat, List.map_map, Function.comp_def, gcv_cat]
abbrev gWS (y : Nat) : List Cond := Cond.code (g_nm y) (g_code y) (g_mL y) (g_rt y) :: gG
abbrev grm (d y : Nat) : Room := { frames := d + 2, cells := g_mc y, slots := g_ms y, locals := 42 * (d + 2) }
set_option maxHeartbeats 1000000 in
theorem gMet {l : Launch} {E : gEnv} {d y : Nat} {As : List Value} {w : gW} {Q : Option Value → gW → Prop} (hy0 : 0 < y) (hy : y < 277) (hcat : gcat As ≤ g_mL y) (h : gSound l E d y 0 (lv_args 0 As) [] (0, 0) w Q) :
    Met l (g_nm y) (gWS y) (grm d y) (gPc E As w) (gQc E Q) (g_mc y) (g_ms y) (gA E) := by
  obtain ⟨-, -, hmd, hcls, hpl, -, -⟩ := gmok_ok y hy0 hy
  refine Met.ofW (cc := g_code y) (maxL := g_mL y) (ret := g_rt y) hpl rfl ?_
  intro p e s m args below meth c s₁ B hml hv
  obtain ⟨rfl, hB, hH, hSc, hS⟩ := hv
  have hts0 := atoms_spec (ws := gWS y) B.pre
  have hinit : g_md y = 2 → meth.name = "<init>" := by
    intro e2
    rw [e2] at hmd
    rw [(name_of_methodNamed B.named B.method).1]
    exact hmd.2
  rw [lg_entry_eq]
  have hl := lv_entry (As.map (gcv E)) (n := g_mL y) (by rw [gsl_len, gcat_cv]; exact hcat)
  rw [gargs] at hl
  refine h p e s m _ below meth c _ _ s.heap [] _ ⟨B.exec, B.bytes, B.returns, hml, ?_, fun w hw => hts0 w (List.mem_cons_of_mem _ hw), B.notSynchronized, hinit, hB, hS, rfl, rfl, Nat.le_refl _, Nat.le_refl _⟩ ?_ hH hSc va_S.rf hl (Nat.zero_le _) (Nat.zero_le _)
  · rw [← hcls]
    exact findClass_of_methodNamed B.named
  · intro r w' H' locs' ls' cu' pc' i hdg hret hq hH' hSc' hS' h1 h2
    refine W.widen h1 h2 ?_
    have hr := B.returns
    have hlocks := B.notSynchronized
    rcases hret with ⟨rfl, x, rfl, hrt | ⟨hrt, hx⟩⟩ | ⟨rfl, x, rfl, hrt⟩ | ⟨rfl, x, n, rfl, hrt⟩ | ⟨rfl, rfl, hrt⟩
    · exact W.iret B.exec B.bytes (hr.trans hrt) (fun t ht hW => ⟨⟨some (.int x), w', rfl, hq, by rw [ht]; exact hH', hSc'⟩, hS'.F ht⟩) hS'.2.2 hdg
    · exact W.zret (ty := .boolean) B.exec B.bytes (hr.trans hrt) (by rcases hx with rfl | rfl <;> rfl) (fun t ht hW => ⟨⟨some (.int x), w', rfl, hq, by rw [ht]; exact hH', hSc'⟩, hS'.F ht⟩) hS'.2.2 hdg
    · exact W.lret B.exec B.bytes (hr.trans hrt) (fun t ht hW => ⟨⟨some (.long x), w', rfl, hq, by rw [ht]; exact hH', hSc'⟩, hS'.F ht⟩) hS'.2.2 hdg
    · exact W.aret (v := .ref (gad E x)) B.exec B.bytes (hr.trans hrt) (Or.inl ⟨n, rfl⟩) (Or.inr ⟨_, rfl⟩) (fun t ht hW => ⟨⟨some (.ref x), w', rfl, hq, by rw [ht]; exact hH', hSc'⟩, hS'.F ht⟩) hS'.2.2 hdg
    · exact W.vret B.exec B.bytes (hr.trans hrt) (fun t ht hW => ⟨⟨none, w', rfl, hq, by rw [ht]; exact hH', hSc'⟩, hS'.F ht⟩) hS'.2.2 hdg
theorem gCall_go {p : Program} {l : Launch} {e : Env} {R : Room} {s : State} {m : MethodId} {args : Array Value} {below : List Frame} {meth : Method} {c : Code} {H : Heap} {locs : List Loc} {cells slots mc ms pc : Nat} {Z : State → Prop} {ls : Array Slot} {st0 rest : List Value} {a : Array Value} {E : gEnv} {Q : Option Value → gW → Prop}
    (hr : va_Run p l e R s m args below meth c H locs cells slots mc ms (F0 m pc ls st0) rest (gQc E Q a) (gA E)) (hS : va_S (gA E) s.heap H locs)
    (kk : ∀ (r : Option Value) (w' : gW) (H1 : Heap) (locs1 : List Loc), Q r w' → gH E w' H1 → gSc E w' → va_S (gA E) s.heap H1 locs1 → W p l e R s m args below meth c H1 locs1 (cells + mc) (slots + ms) Z (F0 m (pc + 3) ls ((r.map (gcv E)).toList ++ rest))) : W p l e R s m args below meth c H locs cells slots Z (F0 m pc ls st0) := by
  intro T hT X
  obtain ⟨v, st₀, t, T', L, h0, X', hL, e1, e2, ⟨⟨r, w', hv, hq, hH, hSc⟩, hz, hk⟩, st⟩ := hr T hT X
  cases hv
  rw [h0] at hz hk
  obtain ⟨t2, a1, b1⟩ := kk r w' T'.heap (locs ++ L) hq (by rw [e1]; exact hH) hSc
    ⟨Nat.le_trans hS.1 (by rw [e1]; exact hz), fun q h1 h2 => by rw [e1, hk q (Nat.lt_of_lt_of_le h1 hS.1) h2]; exact hS.2.1 q h1 h2, fun q hq => by
      rcases List.mem_append.mp hq with h | h
      · exact hS.2.2 q h
      · exact hL q h⟩ T' rfl X'
  exact ⟨t2, st t2 a1, b1⟩
theorem gPc_blind (E : gEnv) (As : List Value) (w : gW) : FrameBlind (gPc E As w) := fun a U g mk q => ⟨q.1, q.2.1, q.2.2.1, q.2.2.2.1, gS_calling g mk a q.2.2.2.2⟩
theorem gPc_at {E : gEnv} {As : List Value} {w : gW} {s : State} {H : Heap} {locs : List Loc} (hB : E.2.2.1 ≤ s.heap.size) (hS : va_S (gA E) s.heap H locs) (hH : gH E w H) (hSc : gSc E w) (hG : gS E s) : ∀ U : State, U.heap = H → s.WarmedH U.vm → gPc E As w (As.map (gcv E)).toArray U :=
  fun U hU hW => ⟨rfl, by rw [hU]; exact Nat.le_trans hB hS.1, by rw [hU]; exact hH, hSc, gS_moved hB hS hU hW hG⟩
theorem gCB {y2 d' y idx n : Nat} {R : Room} {s : State} {args : Array Value} (hy0 : 0 < y2) (hy : y2 < 277) (hts : ∀ w ∈ gG, w.before args s = true) (hl : (Cond.methodLink (g_cn (g_own y)) idx (g_nm y2)) ∈ gG) (hn : g_na y2 - (if g_md y2 = 0 then 0 else 1) = n) (hf : d' + 1 + 2 ≤ R.frames) (hlo : 42 * (d' + 1 + 2) ≤ R.locals) :
    CallB R s args (g_cn (g_own y)) idx (g_nm y2) (g_code y2) (g_mL y2) (g_rt y2) (gWS y2) (grm d' y2) (g_mc y2) (g_ms y2) n := by
  obtain ⟨hcode, hini, -, -, -, hd, hm, -⟩ := gmok_ok y2 hy0 hy
  refine callB_of (Ts := gG) n hts ?_ rfl rfl rfl (hts _ hini) (hts _ hl) ⟨hd.1, hd.2.1, by rw [← hn]; exact hd.2.2⟩ ⟨by show d' + 2 + 1 ≤ R.frames; omega, ?_⟩
  · intro w hw
    rcases List.mem_cons.mp hw with rfl | hw
    · exact ⟨hcode, good_of_word (List.mem_filter.mp hcode).2⟩
    · exact gG_good (fun _ h => h) w hw
  · show 8 + (g_mL y2 + 11) + 42 * (d' + 2) ≤ R.locals
    omega
theorem gCN {y2 d' y idx n : Nat} {R : Room} {s : State} {args : Array Value} (hy0 : 0 < y2) (hy : y2 < 277) (hts : ∀ w ∈ gG, w.before args s = true) (hl : va_Nw (.methodLinkNest (g_cn (g_own y)) idx (g_nm y2) "GapProofs") s) (hn : g_na y2 - (if g_md y2 = 0 then 0 else 1) = n) (hf : d' + 1 + 2 ≤ R.frames) (hlo : 42 * (d' + 1 + 2) ≤ R.locals) :
    va_CN R s args (g_cn (g_own y)) idx (g_nm y2) "GapProofs" (g_code y2) (g_mL y2) (g_rt y2) (gWS y2) (grm d' y2) (g_mc y2) (g_ms y2) n := by
  obtain ⟨hcode, hini, -, -, -, hd, hm, -⟩ := gmok_ok y2 hy0 hy
  refine va_cnB (Ts := gG) n hts ?_ rfl rfl rfl hl (hts _ hini) ⟨hd.1, hd.2.1, by rw [← hn]; exact hd.2.2⟩ ⟨by show d' + 2 + 1 ≤ R.frames; omega, ?_⟩
  · intro w hw
    rcases List.mem_cons.mp hw with rfl | hw
    · exact ⟨hcode, good_of_word (List.mem_filter.mp hcode).2⟩
    · exact gG_good (fun _ h => h) w hw
  · show 8 + (g_mL y2 + 11) + 42 * (d' + 2) ≤ R.locals
    omega
