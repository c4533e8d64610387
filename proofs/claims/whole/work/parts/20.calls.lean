section GCALLS
variable {l : Launch} {E : gEnv} {d y pc : Nat} {L : gL} {cu : Nat × Nat} {w : gW} {Q : Option Value → gW → Prop} {p : Program} {e : Env} {s : State} {m : MethodId} {args : Array Value} {below : List Frame} {meth : Method} {c : Code} {R : Room} {Z : State → Prop} {H : Heap} {locs : List Loc} {ls : Array Slot} {st : List Value} {y2 idx : Nat}
/-- what is known of a callee -/
abbrev gCs (l : Launch) (E : gEnv) (d : Nat) : gCall := fun y2 As w' Q' => match d with
  | 0 => False
  | d' + 1 => gSound l E d' y2 0 (lv_args 0 As) [] (0, 0) w' Q'
abbrev gGs (l : Launch) (E : gEnv) (d y : Nat) (Q : Option Value → gW → Prop) : gGo := fun pc' L' st' cu' w' => gSound l E d y pc' L' st' cu' w' Q
theorem gfit_inv {As r : List Value} (h : gfit y y2 cu As r = true) : gcat r ≤ 8 ∧ gcat As ≤ g_mL y2 ∧ cu.1 + g_mc y2 ≤ g_mc y ∧ cu.2 + g_ms y2 ≤ g_ms y := by
  unfold gfit at h
  obtain ⟨h1, h⟩ := gand h
  obtain ⟨h2, h⟩ := gand h
  obtain ⟨h3, h4⟩ := gand h
  exact ⟨Nat.le_of_ble_eq_true h1, Nat.le_of_ble_eq_true h2, Nat.le_of_ble_eq_true h3, Nat.le_of_ble_eq_true h4⟩
theorem gfit1_inv {As r : List Value} (h : gfit1 y y2 cu As r = true) : gcat r + g_mL y2 ≤ 31 ∧ gcat As ≤ g_mL y2 ∧ cu.1 + g_mc y2 ≤ g_mc y ∧ cu.2 + g_ms y2 ≤ g_ms y := by
  unfold gfit1 at h
  obtain ⟨h1, h⟩ := gand h
  obtain ⟨h2, h⟩ := gand h
  obtain ⟨h3, h4⟩ := gand h
  exact ⟨Nat.le_of_ble_eq_true h1, Nat.le_of_ble_eq_true h2, Nat.le_of_ble_eq_true h3, Nat.le_of_ble_eq_true h4⟩
/-- a call of an instance method with W words below on the stack -/
theorem gRunV {nm : MethodName} {bytes cc : ByteArray} {maxL nL mc ms n index K : Nat} {ret : Option FieldType} {ws : List Cond} {rm : Room} {Pc : Array Value → State → Prop} {Qc : Array Value → State → Outcome → State → Prop} {free : Addr → Prop} {Ts : List Cond} {own C : String} {b : Addr} {As rest : List Value} {g : JFrame} {cells slots : Nat}
    (S : CallFix p m c cc nL s args Ts own) (hM : Met l nm ws rm Pc Qc mc ms free) (cw : CallW R s args own C index nm bytes maxL ret ws rm mc ms n) (hK : K + (maxL + 11) + rm.locals ≤ R.locals) (hp : PreV s H C b Pc As) (hg : g.method = m) (hn : As.length = n) (hz : g.locals.size = nL) (hst : g.stack = As.reverse ++ .ref b :: rest) (hw : 2 * g.monitorRoom + (rest.map fun v => v.category).sum ≤ K) (hdg : decode cc g.pc = .ok (.invokevirtual index, 3)) (hf : cells + mc ≤ R.cells ∧ slots + ms ≤ R.slots) :
    va_Run p l e R s m args below meth c H locs cells slots mc ms g rest (Qc (Value.ref b :: As).toArray) (free) := by
  intro T hT X
  have hB : Back l R p e below s args nm 3 K (PreOf R mc ms Pc) (PostOf Qc mc ms free) := back_of hM hp.1 cw.1.1 cw.1.2.1 cw.1.2.2.1 hK cw.1.2.2.2.2.1 cw.1.2.2.2.2.2.1 (fun a' U hW => word_at hW (Or.inl rfl) cw.1.2.2.2.2.2.2.2.1)
  have hc := cw.1.2.2.2.2.2.2
  obtain ⟨k, k1, k2, k3⟩ := hp.2.1
  obtain ⟨v, vm, ⟨U, l2, c2, s2⟩, hv, X2, ⟨g2, mk, t, L, e1, e2, hq, h1, hL, h2, h3⟩, goes⟩ := callV X S.1 (C := C) (bytes := bytes) (maxL := maxL) (ret := ret) S.2.2.2.1 hc.2.2.2.2 cw.2.1 cw.2.2 hc.1 hc.2.2.1 hB (by rw [hT]; exact k1) k2 k3 hg (hz.trans S.2.2.1.symm) (argsL := As) (rest := rest) (fun sig h => hn.trans (hc.2.2.2.1 sig h)) hst hw (by rw [S.2.1]; exact hdg) (fun vm hv => ⟨hf.1, hf.2, hp.2.2 (T.setVm vm) hT hv⟩)
  dsimp only [Pt.U, Pt.locs, Pt.cells, Pt.slots] at X2 e1 e2 h1 h2 h3 goes
  subst h1; subst h2; subst h3
  exact ⟨v, (T.setVm vm).calling g2 mk (Value.ref b :: As).toArray, t, U, L, hT, X2, hL, e1, e2, hq, goes⟩
theorem gtoL (v : Option Value) (r : List Value) : (v.toList ++ r).map (gcv E) = (v.map (gcv E)).toList ++ r.map (gcv E) := by
  cases v <;> rfl
theorem gAt.behind (A : gAt l E (d + 1) y L cu w Q p e s m args below meth c R Z H locs ls) {a : Array Value} {r st0 : List Value} (hf3 : cu.1 + g_mc y2 ≤ g_mc y) (hf4 : cu.2 + g_ms y2 ≤ g_ms y)
    (hr : va_Run p l e R s m args below meth c H locs cu.1 cu.2 (g_mc y2) (g_ms y2) (F0 m pc ls st0) (r.map (gcv E)) (gQc E (fun v w' => gSound l E (d + 1) y (pc + 3) L (v.toList ++ r) (cu.1 + g_mc y2, cu.2 + g_ms y2) w' Q) a) (gA E)) : W p l e R s m args below meth c H locs cu.1 cu.2 Z (F0 m pc ls st0) := by
  refine gCall_go hr A.2.2.2.2.1 (fun v w' H1 locs1 hq hH hSc hS1 => ?_)
  have hgo := A.goW (cu' := (cu.1 + g_mc y2, cu.2 + g_ms y2)) hH hSc hS1 hf3 hf4 hq
  rw [gtoL] at hgo
  exact hgo
theorem gAt.rooms (A : gAt l E (d + 1) y L cu w Q p e s m args below meth c R Z H locs ls) : R.cells = g_mc y ∧ R.slots = g_ms y ∧ d + 1 + 2 ≤ R.frames ∧ 42 * (d + 1 + 2) ≤ R.locals := A.1.2.2.2.2.2.2.2.2.2.2
theorem gAt.fix (A : gAt l E d y L cu w Q p e s m args below meth c R Z H locs ls) : CallFix p m c (g_code y) (g_mL y) s args gG (g_cn (g_own y)) := ⟨A.exec, A.code, A.1.2.2.2.1, A.own, A.1.2.2.2.2.2.1⟩
theorem gAt.pre (A : gAt l E d y L cu w Q p e s m args below meth c R Z H locs ls) (As : List Value) : PreS s H (gPc E As w) (As.map (gcv E)) := ⟨gPc_blind E As w, gPc_at A.1.2.2.2.2.2.2.2.2.1 A.2.2.2.2.1 A.2.2.1 A.2.2.2.1 A.1.2.2.2.2.2.2.2.2.2.1⟩
theorem gAt.callS (A : gAt l E d y L cu w Q p e s m args below meth c R Z H locs ls) (hlk : (g_own y, idx, y2) ∈ g_ml) (hmd : g_md y2 = 0) (hdg : decode (g_code y) pc = .ok (.invokestatic idx, 3)) (h : gpop (g_na y2) [] st fun As r => gfit y y2 cu As r = true ∧ gCs l E d y2 As w (fun v w' => gGs l E d y Q (pc + 3) L (v.toList ++ r) (cu.1 + g_mc y2, cu.2 + g_ms y2) w')) : W p l e R s m args below meth c H locs cu.1 cu.2 Z (F0 m pc ls (st.map (gcv E))) := by
  obtain ⟨hlw, hy0, hy⟩ := g_ml_ok _ hlk
  obtain ⟨As, r, hn, rfl, hfit, hc⟩ := gpop_inv _ _ _ h
  rw [List.append_nil] at hfit hc
  obtain ⟨f1, f2, f3, f4⟩ := gfit_inv hfit
  cases d with
  | zero => exact hc.elim
  | succ d' =>
    obtain ⟨r1, r2, r3, r4⟩ := A.rooms
    have hk := (gmok_ok y2 hy0 hy).2.2.1
    rw [hmd] at hk
    refine A.behind f3 f4 (va_runS (As := As.map (gcv E)) (n := As.length) A.fix (gMet hy0 hy f2 hc) ⟨gCB hy0 hy A.fix.2.2.2.2 hlw (by rw [hmd, hn]; rfl) r3 r4, A.ts hk⟩ (A.pre As) rfl (by simp) A.2.2.2.2.2.1.1 (by simp) (lv_room (by show gcat _ ≤ 8; rw [gcat_cv]; exact f1)) hdg ⟨by rw [r1]; exact f3, by rw [r2]; exact f4⟩)
theorem gAt.callSN (A : gAt l E d y L cu w Q p e s m args below meth c R Z H locs ls) (hlk : (g_own y, idx, y2) ∈ g_nst) (hmd : g_md y2 = 0) (hdg : decode (g_code y) pc = .ok (.invokestatic idx, 3)) (h : gpop (g_na y2) [] st fun As r => gfit y y2 cu As r = true ∧ gCs l E d y2 As w (fun v w' => gGs l E d y Q (pc + 3) L (v.toList ++ r) (cu.1 + g_mc y2, cu.2 + g_ms y2) w')) : W p l e R s m args below meth c H locs cu.1 cu.2 Z (F0 m pc ls (st.map (gcv E))) := by
  have hlw := A.1.2.2.2.2.2.2.2.2.2.1.2.1 _ hlk
  obtain ⟨hy0, hy⟩ : 0 < y2 ∧ y2 < 277 := (by decide : ∀ q ∈ g_nst, 0 < q.2.2 ∧ q.2.2 < 277) _ hlk
  obtain ⟨As, r, hn, rfl, hfit, hc⟩ := gpop_inv _ _ _ h
  rw [List.append_nil] at hfit hc
  obtain ⟨f1, f2, f3, f4⟩ := gfit_inv hfit
  cases d with
  | zero => exact hc.elim
  | succ d' =>
    obtain ⟨r1, r2, r3, r4⟩ := A.rooms
    have hk := (gmok_ok y2 hy0 hy).2.2.1
    rw [hmd] at hk
    refine A.behind f3 f4 (va_runSN (As := As.map (gcv E)) (n := As.length) A.fix (gMet hy0 hy f2 hc) ⟨gCN hy0 hy A.fix.2.2.2.2 hlw (by rw [hmd, hn]; rfl) r3 r4, A.ts hk, trivial⟩ (A.pre As) rfl (by simp) A.2.2.2.2.2.1.1 (by simp) (lv_room (by show gcat _ ≤ 8; rw [gcat_cv]; exact f1)) hdg ⟨by rw [r1]; exact f3, by rw [r2]; exact f4⟩)
theorem gAt.callI (A : gAt l E d y L cu w Q p e s m args below meth c R Z H locs ls) (hlk : (g_own y, idx, y2) ∈ g_ml) (hmd : g_md y2 = 2) (hrt : g_rt y2 = none) (hdg : decode (g_code y) pc = .ok (.invokespecial idx, 3)) (h : gpop (g_na y2) [] st fun As r => gpR As fun _ _ => gfit y y2 cu As r = true ∧ gCs l E d y2 As w (fun v w' => gGs l E d y Q (pc + 3) L (v.toList ++ r) (cu.1 + g_mc y2, cu.2 + g_ms y2) w')) : W p l e R s m args below meth c H locs cu.1 cu.2 Z (F0 m pc ls (st.map (gcv E))) := by
  obtain ⟨hlw, hy0, hy⟩ := g_ml_ok _ hlk
  obtain ⟨As, r, hn, rfl, h9⟩ := gpop_inv _ _ _ h
  rw [List.append_nil] at h9
  obtain ⟨b, As', rfl, hfit, hc⟩ := gpR_inv h9
  obtain ⟨f1, f2, f3, f4⟩ := gfit_inv hfit
  cases d with
  | zero => exact hc.elim
  | succ d' =>
    obtain ⟨r1, r2, r3, r4⟩ := A.rooms
    have hk := (gmok_ok y2 hy0 hy).2.2.1
    rw [hmd] at hk
    have hB := gCB (y := y) (idx := idx) (n := As'.length) (R := R) hy0 hy A.fix.2.2.2.2 hlw (by rw [hmd, ← hn]; rfl) r3 r4
    have hM := gMet hy0 hy f2 hc
    rw [hrt] at hB
    refine A.behind f3 f4 (va_runI (As := As'.map (gcv E)) (b := gad E b) (n := As'.length) A.fix hM ⟨hB, hk.2, A.ts hk.1⟩ (A.pre (.ref b :: As')) rfl (by simp) A.2.2.2.2.2.1.1 (by simp [gcv]) (lv_room (by show gcat _ ≤ 8; rw [gcat_cv]; exact f1)) hdg ⟨by rw [r1]; exact f3, by rw [r2]; exact f4⟩)
theorem gAt.callIN (A : gAt l E d y L cu w Q p e s m args below meth c R Z H locs ls) (hlk : (g_own y, idx, y2) ∈ g_nst) (hmd : g_md y2 = 2) (hrt : g_rt y2 = none) (hdg : decode (g_code y) pc = .ok (.invokespecial idx, 3)) (h : gpop (g_na y2) [] st fun As r => gpR As fun _ _ => gfit y y2 cu As r = true ∧ gCs l E d y2 As w (fun v w' => gGs l E d y Q (pc + 3) L (v.toList ++ r) (cu.1 + g_mc y2, cu.2 + g_ms y2) w')) : W p l e R s m args below meth c H locs cu.1 cu.2 Z (F0 m pc ls (st.map (gcv E))) := by
  have hlw := A.1.2.2.2.2.2.2.2.2.2.1.2.1 _ hlk
  obtain ⟨hy0, hy⟩ : 0 < y2 ∧ y2 < 277 := (by decide : ∀ q ∈ g_nst, 0 < q.2.2 ∧ q.2.2 < 277) _ hlk
  obtain ⟨As, r, hn, rfl, h9⟩ := gpop_inv _ _ _ h
  rw [List.append_nil] at h9
  obtain ⟨b, As', rfl, hfit, hc⟩ := gpR_inv h9
  obtain ⟨f1, f2, f3, f4⟩ := gfit_inv hfit
  cases d with
  | zero => exact hc.elim
  | succ d' =>
    obtain ⟨r1, r2, r3, r4⟩ := A.rooms
    have hk := (gmok_ok y2 hy0 hy).2.2.1
    rw [hmd] at hk
    have hB := gCN (y := y) (idx := idx) (n := As'.length) (R := R) hy0 hy A.fix.2.2.2.2 hlw (by rw [hmd, ← hn]; rfl) r3 r4
    have hM := gMet hy0 hy f2 hc
    rw [hrt] at hB
    refine A.behind f3 f4 (va_runIN (As := As'.map (gcv E)) (b := gad E b) (n := As'.length) A.fix hM ⟨hB, hk.2, A.ts hk.1⟩ (A.pre (.ref b :: As')) rfl (by simp) A.2.2.2.2.2.1.1 (by simp [gcv]) (lv_room (by show gcat _ ≤ 8; rw [gcat_cv]; exact f1)) hdg ⟨by rw [r1]; exact f3, by rw [r2]; exact f4⟩)
theorem gAt.callV (A : gAt l E d y L cu w Q p e s m args below meth c R Z H locs ls) (hlk : (g_own y, idx, y2) ∈ g_ml) (hmd : g_md y2 = 1) (hdg : decode (g_code y) pc = .ok (.invokevirtual idx, 3)) (h : gpop (g_na y2) [] st fun As r => gpR As fun a _ => gob w a = some (g_own y2) ∧ gfit1 y y2 cu As r = true ∧ gCs l E d y2 As w (fun v w' => gGs l E d y Q (pc + 3) L (v.toList ++ r) (cu.1 + g_mc y2, cu.2 + g_ms y2) w')) : W p l e R s m args below meth c H locs cu.1 cu.2 Z (F0 m pc ls (st.map (gcv E))) := by
  obtain ⟨hlw, hy0, hy⟩ := g_ml_ok _ hlk
  obtain ⟨As, r, hn, rfl, h9⟩ := gpop_inv _ _ _ h
  rw [List.append_nil] at h9
  obtain ⟨b, As', rfl, hob, hfit, hc⟩ := gpR_inv h9
  obtain ⟨f1, f2, f3, f4⟩ := gfit1_inv hfit
  cases d with
  | zero => exact hc.elim
  | succ d' =>
    obtain ⟨r1, r2, r3, r4⟩ := A.rooms
    obtain ⟨-, -, hk, hcls, -⟩ := gmok_ok y2 hy0 hy
    rw [hmd] at hk
    have hB := gCB (y := y) (idx := idx) (n := As'.length) (R := R) hy0 hy A.fix.2.2.2.2 hlw (by rw [hmd, ← hn]; rfl) r3 r4
    have hM := gMet hy0 hy f2 hc
    have hat := gws_at (E := E) (gob_at hob)
    obtain ⟨q, hq, -⟩ := A.2.2.1.1 b _ hat
    have hlt : g_own y2 < 12 := (List.getElem?_eq_some_iff.mp hq).1
    have hrecv := va_recv A.K A.2.2.1.1 (gC_at hlt) hat
    have hnm : (g_nm y2).cls = (g_C (g_own y2)).1 := hcls.trans (gdecl _ hlt).1
    rw [← A.ad (gob_lt hob)] at hrecv
    refine A.behind f3 f4 (gRunV (K := 31 - g_mL y2) (C := (g_nm y2).cls) (As := As'.map (gcv E)) (b := gad E b) (n := As'.length) A.fix hM ⟨hB, A.ts hk.1, A.ts hk.2⟩ (by show 31 - g_mL y2 + (g_mL y2 + 11) + 42 * (d' + 2) ≤ R.locals; omega) ⟨(A.pre (.ref b :: As')).1, by rw [hnm]; exact hrecv, (A.pre (.ref b :: As')).2⟩ rfl (by simp) A.2.2.2.2.2.1.1 (by simp [gcv]) (by show 2 * 0 + gcat _ ≤ 31 - g_mL y2; rw [gcat_cv]; omega) hdg ⟨by rw [r1]; exact f3, by rw [r2]; exact f4⟩)
end GCALLS
