/-! String.length and String.charAt of a constant, walked -/
abbrev jrm (f : Nat) : Room := { frames := f, cells := 0, slots := 0, locals := 42 * f }
def jPc (E : gEnv) (As : List Value) : Array Value → State → Prop := va_Pc As (fun U => E.2.2.1 ≤ U.heap.size ∧ gS E U)
def jQc (r : Option Value) : Array Value → State → Outcome → State → Prop := fun _ st o t => o = .returned r ∧ t.heap = st.heap
def jC (E : gEnv) (y : MethodName) (cc : ByteArray) (ml : Nat) (rt : Option FieldType) (p : Program) (s : State) (m : MethodId) (args : Array Value) (meth : Method) (c : Code) : Prop :=
  p.tables.exec = Jvm.exec ∧ c.code = cc ∧ meth.sig.returnType = rt ∧ c.maxLocals = ml ∧ s.vm.findClass y.cls = some m.cls ∧ (∀ w ∈ gG, w.before args s = true) ∧ meth.locks = false ∧ E.2.2.1 ≤ s.heap.size ∧ gS E s
theorem jMet {l : Launch} {E : gEnv} {y : MethodName} {cc : ByteArray} {ml : Nat} {rt : Option FieldType} {f : Nat} {As : List Value} {r : Option Value} (hpl : plainName y.cls = true) (hcat : gcat As ≤ ml)
    (body : ∀ (p : Program) (e : Env) (s : State) (m : MethodId) (below : List Frame) (meth : Method) (c : Code) (ls : Array Slot), jC E y cc ml rt p s m As.toArray meth c → lv_has ls ml (lv_args 0 As) → W p l e (jrm f) s m As.toArray below meth c s.heap [] 0 0 (MQ below (jQc r) As.toArray s 0 0 (fun _ => False)) (F0 m 0 ls [])) :
    Met l y (Cond.code y cc ml rt :: gG) (jrm f) (jPc E As) (jQc r) 0 0 (fun _ => False) := by
  refine Met.ofW (cc := cc) (maxL := ml) (ret := rt) hpl rfl ?_
  intro p e s m args below meth c s₁ B hml hv
  obtain ⟨rfl, hB, hS⟩ := hv
  have hts0 := atoms_spec (ws := Cond.code y cc ml rt :: gG) B.pre
  rw [lg_entry_eq]
  exact body p e s m below meth c _ ⟨B.exec, B.bytes, B.returns, hml, findClass_of_methodNamed B.named, fun w hw => hts0 w (List.mem_cons_of_mem _ hw), B.notSynchronized, hB, hS⟩ (lv_entry As (by rw [gsl_len]; exact hcat))
theorem jcall {p : Program} {l : Launch} {e : Env} {R : Room} {s : State} {m : MethodId} {args : Array Value} {below : List Frame} {meth : Method} {c : Code} {H : Heap} {locs : List Loc} {cells slots pc : Nat} {Q : State → Prop} {ls : Array Slot} {st0 rest : List Value} {a : Array Value} {r : Option Value}
    (hr : va_Run p l e R s m args below meth c H locs cells slots 0 0 (F0 m pc ls st0) rest (jQc r a) (fun _ => False)) (kk : W p l e R s m args below meth c H locs cells slots Q (F0 m (pc + 3) ls (r.toList ++ rest))) : W p l e R s m args below meth c H locs cells slots Q (F0 m pc ls st0) := by
  intro T hT X
  obtain ⟨v, st₀, t, T', L, h0, X', hL, e1, e2, ⟨hv, hh⟩, st⟩ := hr T hT X
  cases hv
  have hLn : L = [] := by
    cases L with
    | nil => rfl
    | cons q L => exact (hL q List.mem_cons_self).elim
  subst hLn
  rw [List.append_nil] at X'
  obtain ⟨t2, a1, b1⟩ := kk T' (by rw [e1, hh, h0]) X'
  exact ⟨t2, st t2 a1, b1⟩
theorem jCB {y : MethodName} {cc : ByteArray} {ml f idx n : Nat} {rt : Option FieldType} {own : String} {R : Room} {s : State} {args : Array Value} (hts : ∀ w ∈ gG, w.before args s = true) (hcode : (Cond.code y cc ml rt) ∈ gG) (hini : (Cond.initialized y.cls) ∈ gG) (hl : (Cond.methodLink own idx y) ∈ gG) (hd : y.cls ≠ "java/lang/invoke/MethodHandle" ∧ y.cls ≠ "java/lang/invoke/VarHandle" ∧ (parseMethodDescriptor y.desc).map (fun d => d.parameters.length) = some n) (hf : f + 1 ≤ R.frames) (hlo : 8 + (ml + 11) + 42 * f ≤ R.locals) :
    CallB R s args own idx y cc ml rt (Cond.code y cc ml rt :: gG) (jrm f) 0 0 n := by
  refine callB_of (Ts := gG) n hts ?_ rfl rfl rfl (hts _ hini) (hts _ hl) hd ⟨hf, hlo⟩
  intro w hw
  rcases List.mem_cons.mp hw with rfl | hw
  · exact ⟨hcode, good_of_word (List.mem_filter.mp hcode).2⟩
  · exact gG_good (fun _ h => h) w hw
theorem jPc_blind (E : gEnv) (As : List Value) : FrameBlind (jPc E As) := fun a U g mk q => ⟨q.1, q.2.1, gS_calling g mk a q.2.2⟩
theorem jPc_at {E : gEnv} {As : List Value} {s : State} {H : Heap} {locs : List Loc} (hB : E.2.2.1 ≤ s.heap.size) (hS : va_S (gA E) s.heap H locs) (hG : gS E s) : ∀ U : State, U.heap = H → s.WarmedH U.vm → jPc E As As.toArray U :=
  fun U hU hW => ⟨rfl, by rw [hU]; exact Nat.le_trans hB hS.1, gS_moved hB hS hU hW hG⟩
theorem gS.str {E : gEnv} {s : State} (h : gS E s) : vk_S 7 (g_strc.map List.length) g_strc E.2.2.2.1 E.2.2.2.2.1 (gA E) s s.heap := h.2.2.2.2.2.2.1
theorem gS.cmp {E : gEnv} {s : State} (h : gS E s) : va_Z "java/lang/String" "COMPACT_STRINGS" "Z" (.int 1) (gA E) s s.heap := h.2.2.2.2.2.2.2.2.1
theorem gS.fmt {E : gEnv} {s : State} (h : gS E s) : va_Zq "jdk/internal/util/Preconditions" "SIOOBE_FORMATTER" "Ljava/util/function/BiFunction;" (gA E) s s.heap := h.2.2.2.2.2.2.2.2.2
theorem gstr_len {j : Nat} : (g_strc.map List.length).getD j 0 = (g_str j).length := by
  unfold g_str
  rw [List.getD_eq_getElem?_getD, List.getD_eq_getElem?_getD, List.getElem?_map]
  cases g_strc[j]? <;> rfl
/-- coder() -/
theorem j_coder {l : Launch} {E : gEnv} {j : Nat} (hj : j < 7) : Met l yJ0_coder_7d493 (Cond.code yJ0_coder_7d493 cJ0_coder_7d493 1 (some .byte) :: gG) (jrm 0) (jPc E [.ref (E.2.2.2.1 j)]) (jQc (some (.int 0))) 0 0 (fun _ => False) := by
  refine jMet (by decide +kernel) (Nat.le_of_ble_eq_true rfl) ?_
  intro p e s m below meth c ls ⟨hx, hb, hr, hml, hown, hts, hlocks, hB, hG⟩ hl
  have hs := (hG.str.1 j hj).2.1
  refine va_gets hx hb hG.cmp va_S.rf hown (hts _ jw_fl_cmp) (fun _ h => h) dJ0_coder_7d493_0 ?_
  refine lv_if_eq (tgt := 13) hx hb dJ0_coder_7d493_3 (by decide) (fun c => absurd c (by decide)) (fun _ => ?_)
  refine lv_aload_n hx hb dJ0_coder_7d493_6 rfl (lv_at hl 0 rfl) ?_
  refine vk_getf hx hb hs va_S.rf hown (hts _ jw_fl_coder) (fun _ h => h) dJ0_coder_7d493_7 ?_
  refine lv_goto (tgt := 14) hx hb dJ0_coder_7d493_10 (by decide) ?_
  exact W.zret (ty := .byte) hx hb hr rfl (fun t ht _ => ⟨rfl, ht⟩) (fun q h => by cases h) dJ0_coder_7d493_14
/-- isLatin1() -/
theorem j_latin {l : Launch} {E : gEnv} {j : Nat} (hj : j < 7) : Met l yJ0_isLatin1_aae02 (Cond.code yJ0_isLatin1_aae02 cJ0_isLatin1_aae02 1 (some .boolean) :: gG) (jrm 0) (jPc E [.ref (E.2.2.2.1 j)]) (jQc (some (.int 1))) 0 0 (fun _ => False) := by
  refine jMet (by decide +kernel) (Nat.le_of_ble_eq_true rfl) ?_
  intro p e s m below meth c ls ⟨hx, hb, hr, hml, hown, hts, hlocks, hB, hG⟩ hl
  have hs := (hG.str.1 j hj).2.1
  refine va_gets hx hb hG.cmp va_S.rf hown (hts _ jw_fl_cmp) (fun _ h => h) dJ0_isLatin1_aae02_0 ?_
  refine lv_if_eq (tgt := 17) hx hb dJ0_isLatin1_aae02_3 (by decide) (fun c => absurd c (by decide)) (fun _ => ?_)
  refine lv_aload_n hx hb dJ0_isLatin1_aae02_6 rfl (lv_at hl 0 rfl) ?_
  refine vk_getf hx hb hs va_S.rf hown (hts _ jw_fl_coder) (fun _ h => h) dJ0_isLatin1_aae02_7 ?_
  refine lv_if_ne (tgt := 17) hx hb dJ0_isLatin1_aae02_10 (by decide) (fun c => absurd rfl c) (fun _ => ?_)
  refine lv_iconst (v := 1) hx hb dJ0_isLatin1_aae02_13 (by decide) ?_
  refine lv_goto (tgt := 18) hx hb dJ0_isLatin1_aae02_14 (by decide) ?_
  exact W.zret (ty := .boolean) hx hb hr rfl (fun t ht _ => ⟨rfl, ht⟩) (fun q h => by cases h) dJ0_isLatin1_aae02_18
/-- Preconditions.checkIndex of an index that is in -/
theorem j_pre {l : Launch} {E : gEnv} {i n : Int32} {v : Value} (hv : v.category = 1) (h0 : ¬ i < 0) (h1 : i < n) : Met l yJ3_checkIndex_8e157 (Cond.code yJ3_checkIndex_8e157 cJ3_checkIndex_8e157 3 (some .int) :: gG) (jrm 0) (jPc E [.int i, .int n, v]) (jQc (some (.int i))) 0 0 (fun _ => False) := by
  refine jMet (by decide +kernel) (show 1 + (1 + (v.category + 0)) ≤ 3 by rw [hv]; decide) ?_
  intro p e s m below meth c ls ⟨hx, hb, hr, hml, hown, hts, hlocks, hB, hG⟩ hl
  refine lv_iload_n hx hb dJ3_checkIndex_8e157_0 rfl (lv_at hl 0 rfl) ?_
  refine lv_if_lt (tgt := 9) hx hb dJ3_checkIndex_8e157_1 (by decide) (fun c => absurd c h0) (fun _ => ?_)
  refine lv_iload_n hx hb dJ3_checkIndex_8e157_4 rfl (lv_at hl 0 rfl) ?_
  refine lv_iload_n hx hb dJ3_checkIndex_8e157_5 rfl (lv_at hl 1 rfl) ?_
  refine lv_icmp_lt (tgt := 16) hx hb dJ3_checkIndex_8e157_6 (by decide) (fun _ => ?_) (fun c => absurd h1 c)
  refine lv_iload_n hx hb dJ3_checkIndex_8e157_16 rfl (lv_at hl 0 rfl) ?_
  exact W.iret hx hb hr (fun t ht _ => ⟨rfl, ht⟩) (fun q h => by cases h) dJ3_checkIndex_8e157_17
/-- String.checkIndex of an index that is in -/
theorem j_chk {l : Launch} {E : gEnv} {i n : Int32} (h0 : ¬ i < 0) (h1 : i < n) : Met l yJ0_checkIndex_df160 (Cond.code yJ0_checkIndex_df160 cJ0_checkIndex_df160 2 none :: gG) (jrm 1) (jPc E [.int i, .int n]) (jQc none) 0 0 (fun _ => False) := by
  refine jMet (by decide +kernel) (Nat.le_of_ble_eq_true rfl) ?_
  intro p e s m below meth c ls ⟨hx, hb, hr, hml, hown, hts, hlocks, hB, hG⟩ hl
  refine lv_iload_n hx hb dJ0_checkIndex_df160_0 rfl (lv_at hl 0 rfl) ?_
  refine lv_iload_n hx hb dJ0_checkIndex_df160_1 rfl (lv_at hl 1 rfl) ?_
  have fin : ∀ v : Value, v.category = 1 → va_Z "jdk/internal/util/Preconditions" "SIOOBE_FORMATTER" "Ljava/util/function/BiFunction;" v (gA E) s s.heap → W p l e (jrm 1) s m #[.int i, .int n] below meth c s.heap [] 0 0 (MQ below (jQc none) #[.int i, .int n] s 0 0 (fun _ => False)) (F0 m 2 ls [.int n, .int i]) := by
    intro v hv hZ
    refine va_gets hx hb hZ va_S.rf hown (hts _ jw_fl_fmt) (fun _ h => h) dJ0_checkIndex_df160_2 ?_
    refine jcall (va_runS (As := [.int i, .int n, v]) (rest := []) ⟨hx, hb, hml, hown, hts⟩ (j_pre (E := E) hv h0 h1) ⟨jCB (n := 3) hts jw_code_pre jw_ini_J3 jw_ml_pre ⟨by decide +kernel, by decide +kernel, by decide +kernel⟩ (Nat.le_refl _) (by decide), hts _ jw_st_pre⟩ ⟨jPc_blind E _, jPc_at hB va_S.rf hG⟩ rfl rfl hl.1 rfl (lv_room (by decide)) dJ0_checkIndex_df160_5 ⟨Nat.le_refl _, Nat.le_refl _⟩) ?_
    refine lv_pop hx hb dJ0_checkIndex_df160_8 rfl ?_
    exact W.vret hx hb hr (fun t ht _ => ⟨rfl, ht⟩) (fun q h => by cases h) dJ0_checkIndex_df160_9
  rcases hG.fmt with hZ | ⟨t, hZ⟩
  · exact fin _ rfl hZ
  · exact fin _ rfl hZ

theorem jchr : ∀ j, j < 7 → (g_str j).length ≤ 5 ∧ ∀ k, k < (g_str j).length → ((((g_str j).getD k 0) &&& 255).toUInt32 % 65536).toInt32 = (g_str j).getD k 0 ∧ ((g_str j).getD k 0).toUInt32.toUInt16.toUInt32.toInt32 = (g_str j).getD k 0 := by decide +kernel
theorem jlt {i : Int32} {n : Nat} (h0 : ¬ i < 0) (h : i.toNatClampNeg < n) (hn : n ≤ 5) : i < Int32.ofNat n := by
  have e1 := nI_toInt (n := n) (by omega)
  have h0' : ¬ i.toInt < (0 : Int32).toInt := fun q => h0 (Int32.lt_iff_toInt_lt.mpr q)
  have e0 : (0 : Int32).toInt = 0 := rfl
  have e2 : i.toInt.toNat = i.toNatClampNeg := rfl
  refine Int32.lt_iff_toInt_lt.mpr ?_
  show i.toInt < (nI n).toInt
  rw [e1]
  omega
/-- StringLatin1.charAt -/
theorem j_lch {l : Launch} {E : gEnv} {j : Nat} {i : Int32} (hj : j < 7) (hi : vp_in i (g_str j).length) : Met l yJ1_charAt_3b067 (Cond.code yJ1_charAt_3b067 cJ1_charAt_3b067 2 (some .char) :: gG) (jrm 2) (jPc E [.ref (E.2.2.2.2.1 j), .int i]) (jQc (some (.int ((g_str j).getD i.toNatClampNeg 0)))) 0 0 (fun _ => False) := by
  refine jMet (by decide +kernel) (Nat.le_of_ble_eq_true rfl) ?_
  intro p e s m below meth c ls ⟨hx, hb, hr, hml, hown, hts, hlocks, hB, hG⟩ hl
  have hT := (hG.str.1 j hj).2.2.2
  rw [gstr_len] at hT
  have hlt : i.toNatClampNeg < (g_str j).length := Nat.not_le.mp fun q => hi (Or.inr q)
  have h0 : ¬ i < 0 := fun q => hi (Or.inl q)
  obtain ⟨c1, c2⟩ := jchr j hj
  obtain ⟨c3, c4⟩ := c2 _ hlt
  refine lv_iload_n hx hb dJ1_charAt_3b067_0 rfl (lv_at hl 1 rfl) ?_
  refine lv_aload_n hx hb dJ1_charAt_3b067_1 rfl (lv_at hl 0 rfl) ?_
  refine va_tlen hx hb hT va_S.rf rfl dJ1_charAt_3b067_2 ?_
  refine jcall (va_runS (As := [.int i, .int (Int32.ofNat (g_str j).length)]) (rest := []) ⟨hx, hb, hml, hown, hts⟩ (j_chk (E := E) h0 (jlt h0 hlt c1)) ⟨jCB (n := 2) hts jw_code_chk jw_ini_J0 jw_ml_chk ⟨by decide +kernel, by decide +kernel, by decide +kernel⟩ (Nat.le_refl _) (by decide), hts _ jw_st_chk⟩ ⟨jPc_blind E _, jPc_at hB va_S.rf hG⟩ rfl rfl hl.1 rfl (lv_room (by decide)) dJ1_charAt_3b067_3 ⟨Nat.le_refl _, Nat.le_refl _⟩) ?_
  refine lv_aload_n hx hb dJ1_charAt_3b067_6 rfl (lv_at hl 0 rfl) ?_
  refine lv_iload_n hx hb dJ1_charAt_3b067_7 rfl (lv_at hl 1 rfl) ?_
  refine va_tb hx hb hT va_S.rf hi rfl dJ1_charAt_3b067_8 ?_
  refine lv_sipush (v := 255) hx hb dJ1_charAt_3b067_9 (by decide) ?_
  refine lv_iand hx hb dJ1_charAt_3b067_12 ?_
  refine lv_i2c hx hb dJ1_charAt_3b067_13 c3 ?_
  exact W.zret (ty := .char) hx hb hr (congrArg Value.int c4) (fun t ht _ => ⟨rfl, ht⟩) (fun q h => by cases h) dJ1_charAt_3b067_14
/-- String.charAt -/
theorem j_chr {l : Launch} {E : gEnv} {j : Nat} {i : Int32} (hj : j < 7) (hi : vp_in i (g_str j).length) : Met l yJ0_charAt_5068e (Cond.code yJ0_charAt_5068e cJ0_charAt_5068e 2 (some .char) :: gG) (jrm 3) (jPc E [.ref (E.2.2.2.1 j), .int i]) (jQc (some (.int ((g_str j).getD i.toNatClampNeg 0)))) 0 0 (fun _ => False) := by
  refine jMet (by decide +kernel) (Nat.le_of_ble_eq_true rfl) ?_
  intro p e s m below meth c ls ⟨hx, hb, hr, hml, hown, hts, hlocks, hB, hG⟩ hl
  have hlt : i.toNatClampNeg < (g_str j).length := Nat.not_le.mp fun q => hi (Or.inr q)
  obtain ⟨c1, c2⟩ := jchr j hj
  obtain ⟨c3, c4⟩ := c2 _ hlt
  refine lv_aload_n hx hb dJ0_charAt_5068e_0 rfl (lv_at hl 0 rfl) ?_
  refine jcall (va_runV (As := []) (C := "java/lang/String") (rest := []) ⟨hx, hb, hml, hown, hts⟩ (j_latin (E := E) hj) ⟨jCB (n := 0) hts jw_code_lat jw_ini_J0 jw_ml_lat ⟨by decide +kernel, by decide +kernel, by decide +kernel⟩ (by show 0 + 1 ≤ 3; decide) (by show 8 + (1 + 11) + 42 * 0 ≤ 42 * 3; decide), hts _ jw_im_lat, hts _ jw_se_lat⟩ ⟨jPc_blind E _, vk_recv hG.str hj va_S.rf, jPc_at hB va_S.rf hG⟩ rfl rfl hl.1 rfl (lv_room (by decide)) dJ0_charAt_5068e_1 ⟨Nat.le_refl _, Nat.le_refl _⟩) ?_
  refine lv_if_eq (tgt := 16) hx hb dJ0_charAt_5068e_4 (by decide) (fun c => absurd c (by decide)) (fun _ => ?_)
  refine lv_aload_n hx hb dJ0_charAt_5068e_7 rfl (lv_at hl 0 rfl) ?_
  refine vk_getf hx hb (hG.str.1 j hj).2.2.1 va_S.rf hown (hts _ jw_fl_val) (fun _ h => h) dJ0_charAt_5068e_8 ?_
  refine lv_iload_n hx hb dJ0_charAt_5068e_11 rfl (lv_at hl 1 rfl) ?_
  refine jcall (va_runS (As := [.ref (E.2.2.2.2.1 j), .int i]) (rest := []) ⟨hx, hb, hml, hown, hts⟩ (j_lch (E := E) hj hi) ⟨jCB (n := 2) hts jw_code_lch jw_ini_J1 jw_ml_lch ⟨by decide +kernel, by decide +kernel, by decide +kernel⟩ (Nat.le_refl _) (by decide), hts _ jw_st_lch⟩ ⟨jPc_blind E _, jPc_at hB va_S.rf hG⟩ rfl rfl hl.1 rfl (lv_room (by decide)) dJ0_charAt_5068e_12 ⟨Nat.le_refl _, Nat.le_refl _⟩) ?_
  exact W.zret (ty := .char) hx hb hr (congrArg Value.int c4) (fun t ht _ => ⟨rfl, ht⟩) (fun q h => by cases h) dJ0_charAt_5068e_15
/-- String.length -/
theorem j_len {l : Launch} {E : gEnv} {j : Nat} (hj : j < 7) : Met l yJ0_length_8abf5 (Cond.code yJ0_length_8abf5 cJ0_length_8abf5 1 (some .int) :: gG) (jrm 1) (jPc E [.ref (E.2.2.2.1 j)]) (jQc (some (.int (nI (g_str j).length)))) 0 0 (fun _ => False) := by
  refine jMet (by decide +kernel) (Nat.le_of_ble_eq_true rfl) ?_
  intro p e s m below meth c ls ⟨hx, hb, hr, hml, hown, hts, hlocks, hB, hG⟩ hl
  have hT := (hG.str.1 j hj).2.2.2
  rw [gstr_len] at hT
  refine lv_aload_n hx hb dJ0_length_8abf5_0 rfl (lv_at hl 0 rfl) ?_
  refine vk_getf hx hb (hG.str.1 j hj).2.2.1 va_S.rf hown (hts _ jw_fl_val) (fun _ h => h) dJ0_length_8abf5_1 ?_
  refine va_tlen hx hb hT va_S.rf (v := nI (g_str j).length) rfl dJ0_length_8abf5_4 ?_
  refine lv_aload_n hx hb dJ0_length_8abf5_5 rfl (lv_at hl 0 rfl) ?_
  refine jcall (va_runV (As := []) (C := "java/lang/String") (rest := [.int (nI (g_str j).length)]) ⟨hx, hb, hml, hown, hts⟩ (j_coder (E := E) hj) ⟨jCB (n := 0) hts jw_code_cod jw_ini_J0 jw_ml_cod ⟨by decide +kernel, by decide +kernel, by decide +kernel⟩ (Nat.le_refl _) (by decide), hts _ jw_im_cod, hts _ jw_se_cod⟩ ⟨jPc_blind E _, vk_recv hG.str hj va_S.rf, jPc_at hB va_S.rf hG⟩ rfl rfl hl.1 rfl (lv_room (Nat.le_of_ble_eq_true rfl)) dJ0_length_8abf5_6 ⟨Nat.le_refl _, Nat.le_refl _⟩) ?_
  refine lv_ishr hx hb dJ0_length_8abf5_9 ?_
  have e0 : ∀ j, j < 7 → nI (g_str j).length >>> ((0 : Int32) &&& 31) = nI (g_str j).length := by decide +kernel
  rw [e0 j hj]
  exact W.iret hx hb hr (fun t ht _ => ⟨rfl, ht⟩) (fun q h => by cases h) dJ0_length_8abf5_10
