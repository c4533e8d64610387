section GSTEPS
variable {l : Launch} {E : gEnv} {d y pc : Nat} {L : gL} {cu : Nat × Nat} {w : gW} {Q : Option Value → gW → Prop} {p : Program} {e : Env} {s : State} {m : MethodId} {args : Array Value} {below : List Frame} {meth : Method} {c : Code} {R : Room} {Z : State → Prop} {H : Heap} {locs : List Loc} {ls : Array Slot} {st : List Value} {len a b cw : Nat} {kv : Int32} {kl : Int64} {tab : List (Int32 × Nat)}
theorem gAt.end_ (A : gAt l E d y L cu w Q p e s m args below meth c R Z H locs ls) {i : Instr} {r : Option Value} (hdg : decode (g_code y) pc = .ok (i, 1)) (hr : gRet y i r) (hq : Q r w) : W p l e R s m args below meth c H locs cu.1 cu.2 Z (F0 m pc ls (r.toList.map (gcv E))) := by
  have h := A.2.1 r w H locs ls cu pc i hdg hr hq A.2.2.1 A.2.2.2.1 A.2.2.2.2.1 A.2.2.2.2.2.2.1 A.2.2.2.2.2.2.2
  have e0 : (r.map (gcv E)).toList = r.toList.map (gcv E) := by cases r <;> rfl
  rw [e0] at h
  exact h
theorem gAt.storeI (A : gAt l E d y L cu w Q p e s m args below meth c R Z H locs ls) {v : Value} {r : List Value} {i : Nat} {ls' : Array Slot} (h : gSound l E d y pc (gst1 L i v) r cu w Q) (hl : lv_has ls' (g_mL y) ((i, gcv E v) :: (gcL E L).filter (fun q => !(q.1 == i) && !(q.1 + 1 == i && q.2.category == 2)))) : W p l e R s m args below meth c H locs cu.1 cu.2 Z (F0 m pc ls' (r.map (gcv E))) := A.goL (by rw [gcL_st1]; exact hl) h
theorem gAt.storeJ (A : gAt l E d y L cu w Q p e s m args below meth c R Z H locs ls) {v : Value} {r : List Value} {i : Nat} {ls' : Array Slot} (h : gSound l E d y pc (gst2 L i v) r cu w Q) (hl : lv_has ls' (g_mL y) ((i, gcv E v) :: (gcL E L).filter (fun q => !(q.1 == i) && (!(q.1 == i + 1) && !(q.1 + 1 == i && q.2.category == 2))))) : W p l e R s m args below meth c H locs cu.1 cu.2 Z (F0 m pc ls' (r.map (gcv E))) := A.goL (by rw [gcL_st2]; exact hl) h
theorem grt_init : ∀ y, y < 277 → g_md y = 2 → g_rt y = none := by decide +kernel
theorem gAt.rm (A : gAt l E d y L cu w Q p e s m args below meth c R Z H locs ls) : 2 ≤ R.frames ∧ 84 ≤ R.locals := by
  have h := A.1.2.2.2.2.2.2.2.2.2.2
  omega
theorem gAt.rm5 (A : gAt l E d y L cu w Q p e s m args below meth c R Z H locs ls) (hd : Nat.ble 3 d = true) : 5 ≤ R.frames ∧ 210 ≤ R.locals := by
  have h := A.1.2.2.2.2.2.2.2.2.2.2
  have h3 := Nat.le_of_ble_eq_true hd
  omega
theorem gAt.strLen (A : gAt l E d y L cu w Q p e s m args below meth c R Z H locs ls) {n : Nat} (hk : (g_own y, n) ∈ g_slen) (hdg : decode (g_code y) pc = .ok (.invokevirtual n, 3)) (h : gcall d y pc L st cu w (gGs l E d y Q) (gCs l E d) a 22) : W p l e R s m args below meth c H locs cu.1 cu.2 Z (F0 m pc ls (st.map (gcv E))) := by
  obtain ⟨o, r, rfl, h7, h8, h1, h2, hg⟩ := gpR_inv h
  obtain ⟨hy, hn⟩ : g_own y = 5 ∧ n = 80 := by
    have := List.mem_singleton.mp hk
    exact ⟨congrArg Prod.fst this, congrArg Prod.snd this⟩
  subst hn
  obtain ⟨j, rfl⟩ := Nat.exists_eq_add_of_le h1
  have hj : j < 7 := by
    have : g_strs.length = 7 := rfl
    omega
  have e1 : gad E (1000000 + j) = E.2.2.2.1 j := by
    unfold gad
    rw [if_neg (by omega), if_pos (by omega), Nat.add_sub_cancel_left]
  have hG := A.1.2.2.2.2.2.2.2.2.2.1
  have hB := A.1.2.2.2.2.2.2.2.2.1
  obtain ⟨r1, r2, -⟩ := A.1.2.2.2.2.2.2.2.2.2.2
  obtain ⟨f1, f2⟩ := A.rm5 h7
  rw [Nat.add_sub_cancel_left] at hg
  show W p l e R s m args below meth c H locs cu.1 cu.2 Z (F0 m pc ls (.ref (gad E (1000000 + j)) :: r.map (gcv E)))
  rw [e1]
  exact jcall (va_runV (As := []) (C := "java/lang/String") (rest := r.map (gcv E)) A.fix (j_len (E := E) hj) ⟨jCB (n := 0) A.fix.2.2.2.2 jw_code_len jw_ini_J0 (by rw [hy]; exact jw_ml_len) ⟨by decide +kernel, by decide +kernel, by decide +kernel⟩ (by omega) (by omega), A.ts jw_im_len, A.ts jw_se_len⟩ ⟨jPc_blind E _, vk_recv hG.str hj A.2.2.2.2.1, jPc_at hB A.2.2.2.2.1 hG⟩ rfl rfl A.2.2.2.2.2.1.1 rfl (lv_room (by show gcat _ ≤ 8; rw [gcat_cv]; exact Nat.le_of_ble_eq_true h8)) hdg ⟨by rw [r1]; exact A.2.2.2.2.2.2.1, by rw [r2]; exact A.2.2.2.2.2.2.2⟩) (A.go hg)
theorem gAt.strChr (A : gAt l E d y L cu w Q p e s m args below meth c R Z H locs ls) {n : Nat} (hk : (g_own y, n) ∈ g_schr) (hdg : decode (g_code y) pc = .ok (.invokevirtual n, 3)) (h : gcall d y pc L st cu w (gGs l E d y Q) (gCs l E d) a 23) : W p l e R s m args below meth c H locs cu.1 cu.2 Z (F0 m pc ls (st.map (gcv E))) := by
  obtain ⟨i, r0, rfl, h9⟩ := gpI_inv h
  obtain ⟨o, r, rfl, h7, h8, h1, h2, hi, hg⟩ := gpR_inv h9
  obtain ⟨hy, hn⟩ : g_own y = 5 ∧ n = 85 := by
    have := List.mem_singleton.mp hk
    exact ⟨congrArg Prod.fst this, congrArg Prod.snd this⟩
  subst hn
  obtain ⟨j, rfl⟩ := Nat.exists_eq_add_of_le h1
  have hj : j < 7 := by
    have : g_strs.length = 7 := rfl
    omega
  have e1 : gad E (1000000 + j) = E.2.2.2.1 j := by
    unfold gad
    rw [if_neg (by omega), if_pos (by omega), Nat.add_sub_cancel_left]
  have hG := A.1.2.2.2.2.2.2.2.2.2.1
  have hB := A.1.2.2.2.2.2.2.2.2.1
  obtain ⟨r1, r2, -⟩ := A.1.2.2.2.2.2.2.2.2.2.2
  obtain ⟨f1, f2⟩ := A.rm5 h7
  rw [Nat.add_sub_cancel_left] at hg hi
  show W p l e R s m args below meth c H locs cu.1 cu.2 Z (F0 m pc ls (.int i :: .ref (gad E (1000000 + j)) :: r.map (gcv E)))
  rw [e1]
  exact jcall (va_runV (As := [.int i]) (C := "java/lang/String") (rest := r.map (gcv E)) A.fix (j_chr (E := E) hj hi) ⟨jCB (n := 1) A.fix.2.2.2.2 jw_code_chr jw_ini_J0 (by rw [hy]; exact jw_ml_chr) ⟨by decide +kernel, by decide +kernel, by decide +kernel⟩ (by omega) (by omega), A.ts jw_im_chr, A.ts jw_se_chr⟩ ⟨jPc_blind E _, vk_recv hG.str hj A.2.2.2.2.1, jPc_at hB A.2.2.2.2.1 hG⟩ rfl rfl A.2.2.2.2.2.1.1 rfl (lv_room (by show gcat _ ≤ 8; rw [gcat_cv]; exact Nat.le_of_ble_eq_true h8)) hdg ⟨by rw [r1]; exact A.2.2.2.2.2.2.1, by rw [r2]; exact A.2.2.2.2.2.2.2⟩) (A.go hg)
set_option maxHeartbeats 4000000 in
set_option maxRecDepth 20000 in
theorem gOne (A : gAt l E d y L cu w Q p e s m args below meth c R Z H locs ls) {i : Instr} (hdg : decode (g_code y) pc = .ok (i, len)) (hck : gchk y pc (i, len, a, b, cw, kv, kl, tab) = true) (h : gstep d (i, len, a, b, cw, kv, kl, tab) y pc L st cu w (gGs l E d y Q) (gCs l E d) Q) : W p l e R s m args below meth c H locs cu.1 cu.2 Z (F0 m pc ls (st.map (gcv E))) := by
  cases i <;> first | exact False.elim h | skip
  case iconst n =>
    obtain ⟨k1, k2⟩ := gand hck
    cases glen1 k1
    exact lv_iconst A.exec A.code hdg (of_decide_eq_true k2) (A.go h)
  case bipush n =>
    obtain ⟨k1, k2⟩ := gand hck
    cases glen1 k1
    exact lv_bipush A.exec A.code hdg (of_decide_eq_true k2) (A.go h)
  case sipush n =>
    obtain ⟨k1, k2⟩ := gand hck
    cases glen1 k1
    exact lv_sipush A.exec A.code hdg (of_decide_eq_true k2) (A.go h)
  case lconst n =>
    obtain ⟨k1, k2⟩ := gand hck
    cases glen1 k1
    exact lv_lconst A.exec A.code hdg (of_decide_eq_true k2) (A.go h)
  case ldc n =>
    obtain ⟨k1, k2⟩ := gand hck
    cases glen1 k1
    have hk : (g_own y, n, a) ∈ g_sr := of_decide_eq_true k2
    have hR := A.1.2.2.2.2.2.2.2.2.2.1.2.2.2.2.2.2.2.1 _ hk
    have ha : a < 7 := (by decide : ∀ q ∈ g_sr, q.2.2 < 7) _ hk
    have hgo := A.go h
    have e0 : (Value.ref (1000000 + a) :: st).map (gcv E) = .ref (E.2.2.2.1 a) :: st.map (gcv E) := by
      have e1 : gad E (1000000 + a) = E.2.2.2.1 a := by
        unfold gad
        rw [if_neg (by omega), if_pos (by omega), Nat.add_sub_cancel_left]
      rw [← e1]
      rfl
    rw [e0] at hgo
    exact va_ldcS A.exec A.code A.own hR hdg hgo
  case ldc_w n =>
    obtain ⟨k1, k2⟩ := gand hck
    cases glen1 k1
    have hw := g_ki_ok _ (of_decide_eq_true k2)
    have hgo := A.go h
    intro T hT X
    obtain ⟨t, a1, b1⟩ := hgo T hT X
    exact ⟨t, va_ldcwI X A.exec A.own (A.ts hw) (g := F0 m pc ls (st.map (gcv E))) rfl (by rw [A.code]; exact hdg) t a1, b1⟩
  case ldc2_w n =>
    obtain ⟨k1, k2⟩ := gand hck
    cases glen1 k1
    exact lv_ldc2 A.exec A.code A.own (A.ts (g_kl_ok _ (of_decide_eq_true k2))) hdg (A.go h)
  case iload_n n =>
    obtain ⟨k1, k2⟩ := gand hck
    cases glen1 k1
    obtain ⟨x, h1, h2⟩ := gldI h
    exact lv_iload_n A.exec A.code hdg (eq_of_beq k2) (A.lv h1) (A.go h2)
  case iload n =>
    obtain ⟨k1, k2⟩ := gand hck
    cases glen1 k1
    cases eq_of_beq k2
    obtain ⟨x, h1, h2⟩ := gldI h
    exact lv_iload A.exec A.code hdg (A.lv h1) (A.go h2)
  case lload_n n =>
    obtain ⟨k1, k2⟩ := gand hck
    cases glen1 k1
    obtain ⟨x, h1, h2⟩ := gldJ h
    exact lv_lload_n A.exec A.code hdg (eq_of_beq k2) (A.lv h1) (A.go h2)
  case lload n =>
    obtain ⟨k1, k2⟩ := gand hck
    cases glen1 k1
    cases eq_of_beq k2
    obtain ⟨x, h1, h2⟩ := gldJ h
    exact lv_lload A.exec A.code hdg (A.lv h1) (A.go h2)
  case aload_n n =>
    obtain ⟨k1, k2⟩ := gand hck
    cases glen1 k1
    obtain ⟨x, h1, h2⟩ := gldR h
    exact lv_aload_n A.exec A.code hdg (eq_of_beq k2) (A.lv h1) (A.go h2)
  case aload n =>
    obtain ⟨k1, k2⟩ := gand hck
    cases glen1 k1
    cases eq_of_beq k2
    obtain ⟨x, h1, h2⟩ := gldR h
    exact lv_aload A.exec A.code hdg (A.lv h1) (A.go h2)
  case istore_n n =>
    obtain ⟨k1, k2⟩ := gand hck
    obtain ⟨k2, k3⟩ := gand k2
    cases glen1 k1
    obtain ⟨x, r, rfl, h2⟩ := gpI_inv h
    exact lv_istore_n A.exec A.code hdg (eq_of_beq k2) A.2.2.2.2.2.1 (Nat.le_of_ble_eq_true k3) rfl (fun ls' hl => A.storeI h2 hl)
  case istore n =>
    obtain ⟨k1, k2⟩ := gand hck
    obtain ⟨k2, k3⟩ := gand k2
    cases glen1 k1
    cases eq_of_beq k2
    obtain ⟨x, r, rfl, h2⟩ := gpI_inv h
    exact lv_istore A.exec A.code hdg A.2.2.2.2.2.1 (Nat.le_of_ble_eq_true k3) rfl (fun ls' hl => A.storeI h2 hl)
  case lstore_n n =>
    obtain ⟨k1, k2⟩ := gand hck
    obtain ⟨k2, k3⟩ := gand k2
    cases glen1 k1
    obtain ⟨x, r, rfl, h2⟩ := gpJ_inv h
    exact lv_lstore_n A.exec A.code hdg (eq_of_beq k2) A.2.2.2.2.2.1 (Nat.le_of_ble_eq_true k3) rfl (fun ls' hl => A.storeJ h2 hl)
  case lstore n =>
    obtain ⟨k1, k2⟩ := gand hck
    obtain ⟨k2, k3⟩ := gand k2
    cases glen1 k1
    cases eq_of_beq k2
    obtain ⟨x, r, rfl, h2⟩ := gpJ_inv h
    exact lv_lstore A.exec A.code hdg A.2.2.2.2.2.1 (Nat.le_of_ble_eq_true k3) rfl (fun ls' hl => A.storeJ h2 hl)
  case astore_n n =>
    obtain ⟨k1, k2⟩ := gand hck
    obtain ⟨k2, k3⟩ := gand k2
    cases glen1 k1
    obtain ⟨x, r, rfl, h2⟩ := gpR_inv h
    exact lv_astore_n A.exec A.code hdg (eq_of_beq k2) A.2.2.2.2.2.1 (Nat.le_of_ble_eq_true k3) rfl (fun ls' hl => A.storeI h2 hl)
  case astore n =>
    obtain ⟨k1, k2⟩ := gand hck
    obtain ⟨k2, k3⟩ := gand k2
    cases glen1 k1
    cases eq_of_beq k2
    obtain ⟨x, r, rfl, h2⟩ := gpR_inv h
    exact lv_astore A.exec A.code hdg A.2.2.2.2.2.1 (Nat.le_of_ble_eq_true k3) rfl (fun ls' hl => A.storeI h2 hl)
  case iinc n z =>
    obtain ⟨k1, k2⟩ := gand hck
    obtain ⟨k2, k3⟩ := gand k2
    obtain ⟨k3, k4⟩ := gand k3
    cases glen1 k1
    cases eq_of_beq k2
    obtain ⟨x, h1, h2⟩ := gldI h
    obtain ⟨k, hk⟩ := List.getElem?_of_mem (show (a, gcv E (.int x)) ∈ gcL E L from List.mem_map.mpr ⟨(a, .int x), glk_in h1, rfl⟩)
    exact lv_iinc A.exec A.code hdg A.2.2.2.2.2.1 (k := k) hk (by rw [of_decide_eq_true k3]) (Nat.le_of_ble_eq_true k4) rfl (fun ls' hl => A.storeI h2 hl)
  case iadd =>
    cases glen1 hck
    obtain ⟨x, r, rfl, h1⟩ := gpI_inv h
    obtain ⟨z, r, rfl, h2⟩ := gpI_inv h1
    exact lv_iadd A.exec A.code hdg (A.go h2)
  case isub =>
    cases glen1 hck
    obtain ⟨x, r, rfl, h1⟩ := gpI_inv h
    obtain ⟨z, r, rfl, h2⟩ := gpI_inv h1
    exact lv_isub A.exec A.code hdg (A.go h2)
  case imul =>
    cases glen1 hck
    obtain ⟨x, r, rfl, h1⟩ := gpI_inv h
    obtain ⟨z, r, rfl, h2⟩ := gpI_inv h1
    exact lv_imul A.exec A.code hdg (A.go h2)
  case idiv =>
    cases glen1 hck
    obtain ⟨x, r, rfl, h1⟩ := gpI_inv h
    obtain ⟨z, r, rfl, h2, h3⟩ := gpI_inv h1
    exact lv_idiv A.exec A.code hdg h2 (A.go h3)
  case irem =>
    cases glen1 hck
    obtain ⟨x, r, rfl, h1⟩ := gpI_inv h
    obtain ⟨z, r, rfl, h2, h3⟩ := gpI_inv h1
    exact lv_irem A.exec A.code hdg h2 (A.go h3)
  case iand =>
    cases glen1 hck
    obtain ⟨x, r, rfl, h1⟩ := gpI_inv h
    obtain ⟨z, r, rfl, h2⟩ := gpI_inv h1
    exact lv_iand A.exec A.code hdg (A.go h2)
  case ior =>
    cases glen1 hck
    obtain ⟨x, r, rfl, h1⟩ := gpI_inv h
    obtain ⟨z, r, rfl, h2⟩ := gpI_inv h1
    exact lv_ior A.exec A.code hdg (A.go h2)
  case ishl =>
    cases glen1 hck
    obtain ⟨x, r, rfl, h1⟩ := gpI_inv h
    obtain ⟨z, r, rfl, h2⟩ := gpI_inv h1
    exact lv_ishl A.exec A.code hdg (A.go h2)
  case ishr =>
    cases glen1 hck
    obtain ⟨x, r, rfl, h1⟩ := gpI_inv h
    obtain ⟨z, r, rfl, h2⟩ := gpI_inv h1
    exact lv_ishr A.exec A.code hdg (A.go h2)
  case ladd =>
    cases glen1 hck
    obtain ⟨x, r, rfl, h1⟩ := gpJ_inv h
    obtain ⟨z, r, rfl, h2⟩ := gpJ_inv h1
    exact lv_ladd A.exec A.code hdg (A.go h2)
  case lsub =>
    cases glen1 hck
    obtain ⟨x, r, rfl, h1⟩ := gpJ_inv h
    obtain ⟨z, r, rfl, h2⟩ := gpJ_inv h1
    exact lv_lsub A.exec A.code hdg (A.go h2)
  case land =>
    cases glen1 hck
    obtain ⟨x, r, rfl, h1⟩ := gpJ_inv h
    obtain ⟨z, r, rfl, h2⟩ := gpJ_inv h1
    exact lv_land A.exec A.code hdg (A.go h2)
  case lor =>
    cases glen1 hck
    obtain ⟨x, r, rfl, h1⟩ := gpJ_inv h
    obtain ⟨z, r, rfl, h2⟩ := gpJ_inv h1
    exact lv_lor A.exec A.code hdg (A.go h2)
  case lshl =>
    cases glen1 hck
    obtain ⟨x, r, rfl, h1⟩ := gpI_inv h
    obtain ⟨z, r, rfl, h2⟩ := gpJ_inv h1
    exact lv_lshl A.exec A.code hdg rfl (A.go h2)
  case lshr =>
    cases glen1 hck
    obtain ⟨x, r, rfl, h1⟩ := gpI_inv h
    obtain ⟨z, r, rfl, h2⟩ := gpJ_inv h1
    exact lv_lshr A.exec A.code hdg rfl (A.go h2)
  case i2l =>
    cases glen1 hck
    obtain ⟨x, r, rfl, h1⟩ := gpI_inv h
    exact lv_i2l A.exec A.code hdg rfl (A.go h1)
  case l2i =>
    cases glen1 hck
    obtain ⟨x, r, rfl, h1⟩ := gpJ_inv h
    exact lv_l2i A.exec A.code hdg rfl (A.go h1)
  case i2b =>
    cases glen1 hck
    obtain ⟨x, r, rfl, h1⟩ := gpI_inv h
    exact lv_i2b A.exec A.code hdg rfl (A.go h1)
  case lcmp =>
    cases glen1 hck
    obtain ⟨x, r, rfl, h1⟩ := gpJ_inv h
    obtain ⟨z, r, rfl, h2⟩ := gpJ_inv h1
    exact W.lcmp A.exec A.code hdg (A.go h2)
  case dup =>
    cases glen1 hck
    have h : gpV st (fun v r => gSound l E d y (pc + 1) L (v :: v :: r) cu w Q) := h
    obtain ⟨v, r, rfl, h1, h2⟩ := gpV_inv h
    exact lv_dup A.exec A.code hdg ((gcv_cat E v).trans h1) (A.go h2)
  case pop =>
    cases glen1 hck
    have h : gpV st (fun _ r => gSound l E d y (pc + 1) L r cu w Q) := h
    obtain ⟨v, r, rfl, h1, h2⟩ := gpV_inv h
    exact lv_pop A.exec A.code hdg ((gcv_cat E v).trans h1) (A.go h2)
  case dup2 =>
    cases glen1 hck
    have h : gpV st (fun v r => gpV r fun u r => gSound l E d y (pc + 1) L (v :: u :: v :: u :: r) cu w Q) := h
    obtain ⟨v, r, rfl, h1, h2⟩ := gpV_inv h
    obtain ⟨u, r, rfl, h3, h4⟩ := gpV_inv h2
    exact lv_dup2_11 A.exec A.code hdg ((gcv_cat E v).trans h1) ((gcv_cat E u).trans h3) (A.go h4)
  case ifCond cond off =>
    obtain ⟨k1, k2⟩ := gand hck
    cases glen1 k1
    have ht := of_decide_eq_true k2
    cases cond
    · obtain ⟨x, r, rfl, h1, h2⟩ := gpI_inv h
      exact lv_if_eq A.exec A.code hdg ht (fun z => A.go (h1 z)) (fun z => A.go (h2 z))
    · obtain ⟨x, r, rfl, h1, h2⟩ := gpI_inv h
      exact lv_if_ne A.exec A.code hdg ht (fun z => A.go (h1 z)) (fun z => A.go (h2 z))
    · obtain ⟨x, r, rfl, h1, h2⟩ := gpI_inv h
      exact lv_if_lt A.exec A.code hdg ht (fun z => A.go (h1 z)) (fun z => A.go (h2 z))
    · obtain ⟨x, r, rfl, h1, h2⟩ := gpI_inv h
      exact lv_if_ge A.exec A.code hdg ht (fun z => A.go (h1 z)) (fun z => A.go (h2 z))
    · obtain ⟨x, r, rfl, h1, h2⟩ := gpI_inv h
      exact lv_if_gt A.exec A.code hdg ht (fun z => A.go (h1 z)) (fun z => A.go (h2 z))
    · obtain ⟨x, r, rfl, h1, h2⟩ := gpI_inv h
      exact lv_if_le A.exec A.code hdg ht (fun z => A.go (h1 z)) (fun z => A.go (h2 z))
  case if_icmp cond off =>
    obtain ⟨k1, k2⟩ := gand hck
    cases glen1 k1
    have ht := of_decide_eq_true k2
    cases cond
    · obtain ⟨x, r, rfl, h0⟩ := gpI_inv h
      obtain ⟨z, r, rfl, h1, h2⟩ := gpI_inv h0
      exact lv_icmp_eq A.exec A.code hdg ht (fun z => A.go (h1 z)) (fun z => A.go (h2 z))
    · obtain ⟨x, r, rfl, h0⟩ := gpI_inv h
      obtain ⟨z, r, rfl, h1, h2⟩ := gpI_inv h0
      exact lv_icmp_ne A.exec A.code hdg ht (fun z => A.go (h1 z)) (fun z => A.go (h2 z))
    · obtain ⟨x, r, rfl, h0⟩ := gpI_inv h
      obtain ⟨z, r, rfl, h1, h2⟩ := gpI_inv h0
      exact lv_icmp_lt A.exec A.code hdg ht (fun z => A.go (h1 z)) (fun z => A.go (h2 z))
    · obtain ⟨x, r, rfl, h0⟩ := gpI_inv h
      obtain ⟨z, r, rfl, h1, h2⟩ := gpI_inv h0
      exact lv_icmp_ge A.exec A.code hdg ht (fun z => A.go (h1 z)) (fun z => A.go (h2 z))
    · obtain ⟨x, r, rfl, h0⟩ := gpI_inv h
      obtain ⟨z, r, rfl, h1, h2⟩ := gpI_inv h0
      exact lv_icmp_gt A.exec A.code hdg ht (fun z => A.go (h1 z)) (fun z => A.go (h2 z))
    · obtain ⟨x, r, rfl, h0⟩ := gpI_inv h
      obtain ⟨z, r, rfl, h1, h2⟩ := gpI_inv h0
      exact lv_icmp_le A.exec A.code hdg ht (fun z => A.go (h1 z)) (fun z => A.go (h2 z))
  case goto off =>
    obtain ⟨k1, k2⟩ := gand hck
    cases glen1 k1
    exact lv_goto A.exec A.code hdg (of_decide_eq_true k2) (A.go h)
  case tableswitch dflt lo hi offs =>
    obtain ⟨k1, k2⟩ := gand hck
    obtain ⟨k2, k3⟩ := gand k2
    obtain ⟨x, r, rfl, h1⟩ := gpI_inv h
    exact A.table hdg (of_decide_eq_true k1) (of_decide_eq_true k2) (of_decide_eq_true k3) h1
  case lookupswitch dflt ps =>
    obtain ⟨k1, k2⟩ := gand hck
    obtain ⟨k2, k3⟩ := gand k2
    obtain ⟨x, r, rfl, h1⟩ := gpI_inv h
    exact A.lookup hdg (of_decide_eq_true k1) (of_decide_eq_true k2) k3 h1
  case getfield n =>
    obtain ⟨k1, k2⟩ := gand hck
    cases glen1 k1
    obtain ⟨o, r, rfl, h1, h2⟩ := gpR_inv h
    have hgo := A.go h2
    have e0 : (Value.ref o :: r).map (gcv E) = .ref (E.2.2.1 + o) :: r.map (gcv E) := by rw [← A.ad (gob_lt h1)]; rfl
    rw [e0]
    exact A.get (of_decide_eq_true k2) h1 hdg hgo
  case putfield n =>
    exact A.putk hck hdg h
  case iaload =>
    cases glen1 hck
    cases y with
    | zero =>
      obtain ⟨j, r, rfl, h1⟩ := gpI_inv h
      obtain ⟨o, r, rfl, h2, h3, h4⟩ := gpR_inv h1
      subst h2
      have hgo := A.go h4
      obtain ⟨-, -, -, hbs, hn31, hX, -⟩ := A.1.2.2.2.2.2.2.2.2.2.1
      obtain ⟨s1, s2⟩ := A.2.2.2.1
      rw [s2, nI_clamp hn31] at h3
      have e0 : (Value.int j :: Value.ref 2000000 :: r).map (gcv E) = .int j :: .ref E.2.2.2.2.2.1 :: r.map (gcv E) := by rw [← gad_S]; rfl
      rw [e0]
      have e1 : (Value.int (w.2.1 2000000 j.toNatClampNeg) :: r).map (gcv E) = .int (E.2.2.2.2.2.2.2 j.toNatClampNeg) :: r.map (gcv E) := by rw [s1]; rfl
      rw [e1] at hgo
      exact va_sld A.exec A.code hX (Nat.lt_of_lt_of_le hbs A.1.2.2.2.2.2.2.2.2.1) (fun z => absurd (show E.2.2.1 ≤ E.2.2.2.2.2.1 from z) (by omega)) A.2.2.2.2.1 h3 hdg hgo
    | succ y' =>
      obtain ⟨j, r, rfl, h1⟩ := gpI_inv h
      obtain ⟨o, r, rfl, h2, h3, h4⟩ := gpR_inv h1
      have e0 : (Value.int j :: Value.ref o :: r).map (gcv E) = .int j :: .ref (E.2.2.1 + o) :: r.map (gcv E) := by rw [← A.ad (gar_lt h2)]; rfl
      rw [e0]
      exact A.iald h2 h3 hdg h4
  case baload =>
    cases glen1 hck
    obtain ⟨j, r, rfl, h1⟩ := gpI_inv h
    obtain ⟨o, r, rfl, h2, h3, h4⟩ := gpR_inv h1
    have hlt : o < w.1.length := by rcases h2 with h | h <;> exact gar_lt h
    have e0 : (Value.int j :: Value.ref o :: r).map (gcv E) = .int j :: .ref (E.2.2.1 + o) :: r.map (gcv E) := by rw [← A.ad hlt]; rfl
    rw [e0]
    exact A.bald h2 h3 hdg h4
  case laload =>
    cases glen1 hck
    obtain ⟨j, r, rfl, h1⟩ := gpI_inv h
    obtain ⟨o, r, rfl, h2, h3, h4⟩ := gpR_inv h1
    have e0 : (Value.int j :: Value.ref o :: r).map (gcv E) = .int j :: .ref (E.2.2.1 + o) :: r.map (gcv E) := by rw [← A.ad (gar_lt h2)]; rfl
    rw [e0]
    exact A.lald h2 h3 hdg h4
  case aaload =>
    cases glen1 hck
    obtain ⟨j, r, rfl, h1⟩ := gpI_inv h
    obtain ⟨o, r, rfl, h2, h3, h4⟩ := gpR_inv h1
    obtain ⟨z1, z2⟩ := gand h2
    cases hg : gar w o with
    | none => rw [hg] at z1; exact absurd z1 (by decide)
    | some t =>
      rw [hg] at z1 z2
      have e0 : (Value.int j :: Value.ref o :: r).map (gcv E) = .int j :: .ref (E.2.2.1 + o) :: r.map (gcv E) := by rw [← A.ad (gar_lt hg)]; rfl
      rw [e0]
      exact A.aald hg (Nat.le_of_ble_eq_true z1) (Nat.le_of_ble_eq_true z2) h3 hdg h4
  case iastore =>
    cases glen1 hck
    obtain ⟨x, r, rfl, h0⟩ := gpI_inv h
    obtain ⟨j, r, rfl, h1⟩ := gpI_inv h0
    obtain ⟨o, r, rfl, h2, h3, h4⟩ := gpR_inv h1
    have e0 : (Value.int x :: Value.int j :: Value.ref o :: r).map (gcv E) = .int x :: .int j :: .ref (E.2.2.1 + o) :: r.map (gcv E) := by rw [← A.ad (gar_lt h2)]; rfl
    rw [e0]
    exact A.iast h2 h3 hdg h4
  case bastore =>
    cases glen1 hck
    obtain ⟨x, r, rfl, h0⟩ := gpI_inv h
    obtain ⟨j, r, rfl, h1⟩ := gpI_inv h0
    obtain ⟨o, r, rfl, h2, h3, h4, h5⟩ := gpR_inv h1
    have hlt : o < w.1.length := by rcases h2 with h | h <;> exact gar_lt h
    have e0 : (Value.int x :: Value.int j :: Value.ref o :: r).map (gcv E) = .int x :: .int j :: .ref (E.2.2.1 + o) :: r.map (gcv E) := by rw [← A.ad hlt]; rfl
    rw [e0]
    exact A.bast h3 h4 hdg h5
  case lastore =>
    cases glen1 hck
    obtain ⟨x, r, rfl, h0⟩ := gpJ_inv h
    obtain ⟨j, r, rfl, h1⟩ := gpI_inv h0
    obtain ⟨o, r, rfl, h2, h3, h4⟩ := gpR_inv h1
    have e0 : (Value.long x :: Value.int j :: Value.ref o :: r).map (gcv E) = .long x :: .int j :: .ref (E.2.2.1 + o) :: r.map (gcv E) := by rw [← A.ad (gar_lt h2)]; rfl
    rw [e0]
    exact A.last h2 h3 hdg h4
  case aastore =>
    cases glen1 hck
    obtain ⟨x, r, rfl, h0⟩ := gpR_inv h
    obtain ⟨j, r, rfl, h1⟩ := gpI_inv h0
    obtain ⟨o, r, rfl, ⟨t, ci, h2, h2b, h2c⟩, h3, h4⟩ := gpR_inv h1
    have e0 : (Value.ref x :: Value.int j :: Value.ref o :: r).map (gcv E) = .ref (gad E x) :: .int j :: .ref (E.2.2.1 + o) :: r.map (gcv E) := by rw [← A.ad (gar_lt h2)]; rfl
    rw [e0]
    exact A.aast h2 h2b h2c h3 hdg h4
  case arraylength =>
    cases glen1 hck
    cases y with
    | zero =>
      obtain ⟨o, r, rfl, h2, h4⟩ := gpR_inv h
      subst h2
      have hgo := A.go h4
      obtain ⟨-, -, -, hbs, hn31, hX, -⟩ := A.1.2.2.2.2.2.2.2.2.2.1
      obtain ⟨s1, s2⟩ := A.2.2.2.1
      have e0 : (Value.ref 2000000 :: r).map (gcv E) = .ref E.2.2.2.2.2.1 :: r.map (gcv E) := by rw [← gad_S]; rfl
      rw [e0]
      have e1 : (Value.int (w.2.1 2000001 0) :: r).map (gcv E) = .int (nI E.2.2.2.2.2.2.1) :: r.map (gcv E) := by rw [s2]; rfl
      rw [e1] at hgo
      exact va_slen A.exec A.code hX (Nat.lt_of_lt_of_le hbs A.1.2.2.2.2.2.2.2.2.1) (fun z => absurd (show E.2.2.1 ≤ E.2.2.2.2.2.1 from z) (by omega)) A.2.2.2.2.1 hdg hgo
    | succ y' =>
      obtain ⟨o, r, rfl, h2, h4⟩ := gpR_inv h
      cases hg : gar w o with
      | none => rw [hg] at h2; exact absurd h2 (by decide)
      | some t =>
        rw [hg] at h2
        have ht7 : t ≤ 7 := Nat.le_of_ble_eq_true h2
        have e0 : (Value.ref o :: r).map (gcv E) = .ref (E.2.2.1 + o) :: r.map (gcv E) := by rw [← A.ad (gar_lt hg)]; rfl
        rw [e0]
        have hlen : t < g_ty.length := by show t < 8; omega
        exact va_alen A.exec A.code A.K A.2.2.1.1 o t (gws_at (gar_at hg)) (gtys_at (List.getElem?_eq_getElem hlen)) rfl hdg (A.go h4)
  case new n =>
    obtain ⟨k1, k2⟩ := gand hck
    cases glen1 k1
    exact A.newo (of_decide_eq_true k2) hdg h.1 h.2
  case newarray t =>
    obtain ⟨k1, k2⟩ := gand hck
    cases glen1 k1
    obtain ⟨n, r, rfl, h1, h2, h3⟩ := gpI_inv h
    exact A.newa k2 hdg h1.1 h1.2 h2 h3
  case anewarray n =>
    obtain ⟨k1, k2⟩ := gand hck
    obtain ⟨k2, k3⟩ := gand k2
    cases glen1 k1
    obtain ⟨z, r, rfl, h1, h2, h3⟩ := gpI_inv h
    obtain ⟨o1, o2, o3, -⟩ := A.1.2.2.2.2.2.2.2.2.2.1.2.2.1
    have hk := of_decide_eq_true k2
    simp only [Bool.or_eq_true, beq_iff_eq] at k3
    rcases k3 with rfl | rfl | rfl
    · exact A.newq hk (by omega) rfl rfl o1 hdg h1.1 h1.2 h2 h3
    · exact A.newq hk (by omega) rfl rfl o2 hdg h1.1 h1.2 h2 h3
    · exact A.newq hk (by omega) rfl rfl o3 hdg h1.1 h1.2 h2 h3
  case multianewarray n k =>
    obtain ⟨k1, q2⟩ := gand hck
    obtain ⟨q3, q4⟩ := gand q2
    obtain ⟨q5, q6⟩ := gand q4
    cases glen1 k1
    cases eq_of_beq q5
    cases eq_of_beq q6
    obtain ⟨kk, r1, rfl, h⟩ := gpI_inv h
    obtain ⟨nn, r, rfl, h1, h2, h3⟩ := gpI_inv h
    obtain ⟨-, -, -, o4⟩ := A.1.2.2.2.2.2.2.2.2.2.1.2.2.1
    exact A.newm (of_decide_eq_true q3) o4 hdg h1 h2 h3
  case invokevirtual n =>
    obtain ⟨k1, k2⟩ := gand hck
    cases glen1 k1
    replace h : gcall d y pc L st cu w (gGs l E d y Q) (gCs l E d) a b := h
    split at k2
    · obtain ⟨k3, k4⟩ := gand k2
      exact A.callV (of_decide_eq_true k3) (eq_of_beq k4) hdg h
    · exact A.strLen (of_decide_eq_true k2) hdg h
    · exact A.strChr (of_decide_eq_true k2) hdg h
    · cases k2
  case invokespecial n =>
    obtain ⟨k1, k2⟩ := gand hck
    cases glen1 k1
    replace h : gcall d y pc L st cu w (gGs l E d y Q) (gCs l E d) a b := h
    split at k2
    · obtain ⟨k3, k4⟩ := gand k2
      have hm := of_decide_eq_true k3
      exact A.callI hm (eq_of_beq k4) (grt_init a (g_ml_ok _ hm).2.2 (eq_of_beq k4)) hdg h
    · obtain ⟨k3, k4⟩ := gand k2
      have hm : (g_own y, n, a) ∈ g_nst := of_decide_eq_true k3
      exact A.callIN hm (eq_of_beq k4) (grt_init a ((by decide : ∀ q ∈ g_nst, q.2.2 < 277) _ hm) (eq_of_beq k4)) hdg h
    · obtain ⟨o, r, rfl, h1, h2⟩ := gpR_inv h
      exact W.objInit A.exec A.code A.own (A.ts (g_oi_ok _ (of_decide_eq_true k2))) (A.ts goi_inst) (A.ts goi_code) rfl (A.2.2.2.2.2.1.1.trans A.1.2.2.2.1.symm) rfl hdg (by have := A.rm; omega) (by have := A.rm; have h3 := Nat.le_of_ble_eq_true h1; show 2 * 0 + gcat (r.map (gcv E)) + 12 ≤ R.locals; rw [gcat_cv]; omega) (A.go h2)
    · cases k2
  case invokestatic n =>
    obtain ⟨k1, k2⟩ := gand hck
    cases glen1 k1
    replace h : gcall d y pc L st cu w (gGs l E d y Q) (gCs l E d) a b := h
    split at k2
    · obtain ⟨k3, k4⟩ := gand k2
      exact A.callS (of_decide_eq_true k3) (eq_of_beq k4) hdg h
    · obtain ⟨k3, k4⟩ := gand k2
      exact A.callSN (of_decide_eq_true k3) (eq_of_beq k4) hdg h
    · exact A.copy (of_decide_eq_true k2) hdg h
    · cases k2
  case ireturn =>
    cases glen1 hck
    replace h : gret y st w Q := h
    unfold gret at h
    split at h
    · rename_i hrt
      split at h
      · rename_i x
        exact A.end_ hdg (Or.inl ⟨rfl, x, rfl, Or.inl hrt⟩) h
      · exact h.elim
    · rename_i hrt
      split at h
      · rename_i x
        exact A.end_ hdg (Or.inl ⟨rfl, x, rfl, Or.inr ⟨hrt, h.1⟩⟩) h.2
      · exact h.elim
    · exact h.elim
  case lreturn =>
    cases glen1 hck
    unfold gstep at h
    dsimp only at h
    split at h
    · rename_i x
      exact A.end_ hdg (Or.inr (Or.inl ⟨rfl, x, rfl, h.1⟩)) h.2
    · exact h.elim
  case areturn =>
    cases glen1 hck
    unfold gstep at h
    dsimp only at h
    split at h
    · rename_i x
      obtain ⟨⟨nm, h1⟩, h2⟩ := h
      exact A.end_ hdg (Or.inr (Or.inr (Or.inl ⟨rfl, x, nm, rfl, h1⟩))) h2
    · exact h.elim
  case return_ =>
    cases glen1 hck
    unfold gstep at h
    dsimp only at h
    split at h
    · exact A.end_ hdg (Or.inr (Or.inr (Or.inr ⟨rfl, rfl, h.1⟩))) h.2
    · exact h.elim
end GSTEPS
