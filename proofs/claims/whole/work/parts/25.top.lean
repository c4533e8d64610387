theorem gSound_closed (l : Launch) (E : gEnv) : ∀ d y pc L st cu w Q, gF (gSound l E) (gSound l E) d y pc L st cu w Q → gSound l E d y pc L st cu w Q := by
  intro d y pc L st cu w Q h p e s m args below meth c R Z H locs ls h1 h2 h3 h4 h5 h6 h7 h8
  unfold gF at h
  cases hi : g_ins y pc with
  | none => rw [hi] at h; exact h.elim
  | some q =>
    rw [hi] at h
    dsimp only at h
    obtain ⟨hdg, hck, hy⟩ := g_ins_ok hi
    obtain ⟨i, len, a, b, cw, kv, kl, tab⟩ := q
    exact gOne ⟨h1, h2, h3, h4, h5, h6, h7, h8⟩ hdg hck h
/-- what the pure machine shows, the machine does -/
theorem gT_sound (l : Launch) (E : gEnv) {d y pc : Nat} {L : gL} {st : List Value} {cu : Nat × Nat} {w : gW} {Q : Option Value → gW → Prop} (h : gT d y pc L st cu w Q) : gSound l E d y pc L st cu w Q := h _ (gSound_mono l E) (gSound_closed l E)
theorem gPrim {s : State} {args : Array Value} {ty : FieldType} (hv : va_RA s = fun cA t => va_RA s cA t) (hty : ∀ C, ty ≠ .object C) (h : (Cond.arrayClass ty).before args s = true) : ∃ c, ArrOfT s c ty ∧ va_RA s c ty := by
  obtain ⟨c, k, comp, h1, h2, h3⟩ := Cond.arrayClass_spec h
  refine ⟨c, fun n z => ⟨fun q h => (by cases h), k, h2, comp, h3⟩, ?_⟩
  cases ty <;> first | exact h1 | exact absurd rfl (hty _)
theorem gOver {s : State} {C : String} (h : va_AO C s) : ∃ c, ArrOfT s c (.object C) ∧ va_RA s c (.object C) := by
  obtain ⟨comp, c, k, h1, h2, h3, h4, h5⟩ := Cond.arrayOver_spec h
  exact ⟨c, fun n z => ⟨fun q h => (by cases h), k, h3, comp, h4⟩, k, comp, h3, h4, h1, h5⟩
theorem gOverA {s : State} {args : Array Value} {t : FieldType} (h : (Cond.arrayOver (.array t)).before args s = true) : ∃ c, ArrOfT s c (.array t) ∧ va_RA s c (.array t) := by
  obtain ⟨comp, c, k, h1, h2, h3, h4, h5⟩ := arrayOverA_spec h
  exact ⟨c, fun n z => ⟨fun q h => (by cases h), k, h3, comp, h4⟩, h5⟩
set_option maxRecDepth 20000 in
/-- the start: where things lie -/
theorem gStart {p : Program} {s : State} {m : MethodId} {meth : Method} {c : Code} {b L : Nat} {xs : Nat → Int32} (hL : L ≤ 2048) (C0 : lw_At p s m meth c b L xs) : ∃ (D : va_G) (cA adK adV : Nat → Nat), gS (D, cA, s.heap.size, adK, adV, b, L, xs) s := by
  obtain ⟨hx, hb, hr, hml, hown, hts0, hX, hbl, hlocks, hgv⟩ := C0
  have hts : ∀ w ∈ gG, w.before #[Value.ref b] s = true := fun w hw => hts0 w (List.mem_filter.mp hw).1
  obtain ⟨c0, i0, hKn0⟩ := u_known hts (gclok_ok 0 (by omega)).2.2.1 (hts _ (gclok_ok 0 (by omega)).1)
  obtain ⟨c1, i1, hKn1⟩ := u_known hts (gclok_ok 1 (by omega)).2.2.1 (hts _ (gclok_ok 1 (by omega)).1)
  obtain ⟨c2, i2, hKn2⟩ := u_known hts (gclok_ok 2 (by omega)).2.2.1 (hts _ (gclok_ok 2 (by omega)).1)
  obtain ⟨c3, i3, hKn3⟩ := u_known hts (gclok_ok 3 (by omega)).2.2.1 (hts _ (gclok_ok 3 (by omega)).1)
  obtain ⟨c4, i4, hKn4⟩ := u_known hts (gclok_ok 4 (by omega)).2.2.1 (hts _ (gclok_ok 4 (by omega)).1)
  obtain ⟨c5, i5, hKn5⟩ := u_known hts (gclok_ok 5 (by omega)).2.2.1 (hts _ (gclok_ok 5 (by omega)).1)
  obtain ⟨c6, i6, hKn6⟩ := u_known hts (gclok_ok 6 (by omega)).2.2.1 (hts _ (gclok_ok 6 (by omega)).1)
  obtain ⟨c7, i7, hKn7⟩ := u_known hts (gclok_ok 7 (by omega)).2.2.1 (hts _ (gclok_ok 7 (by omega)).1)
  obtain ⟨c8, i8, hKn8⟩ := u_known hts (gclok_ok 8 (by omega)).2.2.1 (hts _ (gclok_ok 8 (by omega)).1)
  obtain ⟨c9, i9, hKn9⟩ := u_known hts (gclok_ok 9 (by omega)).2.2.1 (hts _ (gclok_ok 9 (by omega)).1)
  obtain ⟨c10, i10, hKn10⟩ := u_known hts (gclok_ok 10 (by omega)).2.2.1 (hts _ (gclok_ok 10 (by omega)).1)
  obtain ⟨c11, i11, hKn11⟩ := u_known hts (gclok_ok 11 (by omega)).2.2.1 (hts _ (gclok_ok 11 (by omega)).1)
  obtain ⟨dC, dI, hKc⟩ : ∃ (dC : Nat → ClassId) (dI : Nat → Nat → Nat), ∀ (k : Nat) (q : vw_C), vwCl[k]? = some q → u_Kn s q.1 q.2.1 q.2.2 (dC k) (dI k) := by
    refine ⟨fun k => ([c0, c1, c2, c3, c4, c5, c6, c7, c8, c9, c10, c11] : List ClassId).getD k 0, fun k => ([i0, i1, i2, i3, i4, i5, i6, i7, i8, i9, i10, i11] : List (Nat → Nat)).getD k (fun _ => 0), ?_⟩
    intro k q hq
    match k, hq with
    | 0, hq => cases hq; exact hKn0
    | 1, hq => cases hq; exact hKn1
    | 2, hq => cases hq; exact hKn2
    | 3, hq => cases hq; exact hKn3
    | 4, hq => cases hq; exact hKn4
    | 5, hq => cases hq; exact hKn5
    | 6, hq => cases hq; exact hKn6
    | 7, hq => cases hq; exact hKn7
    | 8, hq => cases hq; exact hKn8
    | 9, hq => cases hq; exact hKn9
    | 10, hq => cases hq; exact hKn10
    | 11, hq => cases hq; exact hKn11
    | k + 12, hq => exact absurd (List.getElem?_eq_some_iff.mp hq).1 (by show ¬ k + 12 < 12; omega)
  have ao1 : va_AO RX1 s := va_AO.of (hts0 _ gao_1)
  have ao2 : va_AO RX2 s := va_AO.of (hts0 _ gao_2)
  have ao10 : va_AO RX10 s := va_AO.of (hts0 _ gao_10)
  obtain ⟨a0, t0⟩ := gPrim (ty := .int) rfl (fun C h => by cases h) (hts _ garr_int)
  obtain ⟨a1, t1⟩ := gPrim (ty := .long) rfl (fun C h => by cases h) (hts _ garr_long)
  obtain ⟨a2, t2⟩ := gPrim (ty := .byte) rfl (fun C h => by cases h) (hts _ garr_byte)
  obtain ⟨a3, t3⟩ := gPrim (ty := .boolean) rfl (fun C h => by cases h) (hts _ garr_boolean)
  obtain ⟨a4, t4⟩ := gOverA (hts0 _ gao_a)
  obtain ⟨a5, t5⟩ := gOver ao1
  obtain ⟨a6, t6⟩ := gOver ao2
  obtain ⟨a7, t7⟩ := gOver ao10
  obtain ⟨adK, adV, hSt, hEv⟩ := gStrings (A := fun q : Nat => s.heap.size ≤ q) hgv (fun a h => Nat.not_le.mpr h)
  refine ⟨(dC, dI), fun t => ([a0, a1, a2, a3, a4, a5, a6, a7] : List ClassId).getD t 0, adK, adV, ⟨hKc, fun k q hq => ?_⟩, fun q hq => va_Nw.of rfl (hts0 _ (gnw_ok q hq)), ⟨ao1, ao2, ao10, hts0 _ gao_a⟩, hbl, by show L < 2147483648; omega, hX, hSt, fun q hq => vk_R.of (hts0 _ (gsr_ok q hq)) ?_, va_Zof (hts0 _ jls_cmp) (hts _ jw_ini_J0) (va_eqi (flat_of_before _ hgv _ (by decide +kernel))) (fun a h => Nat.not_le.mpr h), va_Zqof (hts0 _ jls_fmt) (hts _ jw_ini_J3) (flat_of_before _ hgv _ (by decide +kernel)) (fun a h => Nat.not_le.mpr h)⟩
  · match k, hq with
    | 0, hq => cases hq; exact t0
    | 1, hq => cases hq; exact t1
    | 2, hq => cases hq; exact t2
    | 3, hq => cases hq; exact t3
    | 4, hq => cases hq; exact t4
    | 5, hq => cases hq; exact t5
    | 6, hq => cases hq; exact t6
    | 7, hq => cases hq; exact t7
    | k + 8, hq => exact absurd (List.getElem?_eq_some_iff.mp hq).1 (by show ¬ k + 8 < 8; omega)
  · have key : ∀ q ∈ g_sr, q.2.2 < 7 ∧ g_cn q.1 = "GapProofs$Reader" ∧ q.2.1 = (([89, 99, 101, 106, 127, 129, 131] : List Nat).getD q.2.2 0) := by decide +kernel
    obtain ⟨k1, k2, k3⟩ := key q hq
    have h1 := hEv q.2.2 k1
    unfold gtm at h1
    rw [← k3, ← k2] at h1
    exact h1
/-- the memory at the start: the script alone -/
def gw0 (n : Nat) (xs : Nat → Int32) : gW := ([], fun a => if a = 2000000 then xs else if a = 2000001 then fun _ => nI n else fun _ => 0, fun _ _ => 0, fun _ _ => none)
/-- THE CLAIM OUT OF THE PURE MACHINE: it is enough that the law, over the pure memory, answers 1 -/
theorem gWhole (law : ∀ (n : Nat) (xs : Nat → Int32), n ≤ 2048 → gTM 15 0 [.ref 2000000] (gw0 n xs) (fun r _ => r = some (.int 1))) {p : Program} {e : Env} {s : State} {m : MethodId} {below : List Frame} {meth : Method} {c : Code} (l : Launch) {b L : Nat} {xs : Nat → Int32} (hL : L ≤ 2048) (C0 : lw_At p s m meth c b L xs) : W p l e room_1 s m #[Value.ref b] below meth c s.heap [] 0 0 (lw_Z below #[Value.ref b] s) (entryFrame m ([Value.ref b] : List Value).toArray 4) := by
  obtain ⟨D, cA, adK, adV, hG⟩ := gStart hL C0
  obtain ⟨hx, hb, hr, hml, hown, hts0, hX, hbl, hlocks, hgv⟩ := C0
  generalize hE : ((D, cA, s.heap.size, adK, adV, b, L, xs) : gEnv) = E at hG
  have hEB : E.2.2.1 = s.heap.size := by rw [← hE]
  have hEb : gad E 2000000 = b := by rw [gad_S, ← hE]
  have h := gT_sound l E (law L xs hL)
  have hl := lv_entry ([.ref b]) (n := 4) (Nat.le_of_ble_eq_true rfl)
  rw [lg_entry_eq]
  generalize (lg_sl ([.ref b]) ++ List.replicate (4 - (lg_sl ([.ref b])).length) Slot.unset).toArray = ls at hl ⊢
  refine h p e s m #[Value.ref b] below meth c room_1 (lw_Z below #[Value.ref b] s) s.heap [] ls ⟨hx, hb, hr, hml, hown, fun w hw => hts0 w (List.mem_filter.mp hw).1, hlocks, (fun h => absurd h (by decide)), (by rw [hEB]; exact Nat.le_refl _), hG, rfl, rfl, Nat.le_of_ble_eq_true rfl, Nat.le_of_ble_eq_true rfl⟩ ?_ ⟨fun k q hk => by simp [gws, gw0] at hk, by rw [hEB]; rfl, Nat.zero_le _⟩ ⟨?_, ?_⟩ va_S.rf ?_ (Nat.zero_le _) (Nat.zero_le _)
  · intro r w' H' locs' ls' cu' pc' i hdg hret hq hH' hSc' hS' h1 h2
    subst hq
    refine va_forget (fun q hq => by rw [← hEB]; exact hS'.2.2 q hq) ?_
    refine W.widen (k := 600000) (n := 7302249) h1 h2 ?_
    rcases hret with ⟨rfl, -⟩ | ⟨-, x, hx, -⟩ | ⟨-, x, n, hx, -⟩ | ⟨-, hx, -⟩
    · exact lw_ret hx hb hr hlocks hdg
    · cases hx
    · cases hx
    · cases hx
  · rw [← hE]; simp [gw0]
  · rw [← hE]; simp [gw0]
  · have e0 : gcL E (lv_args 0 [.ref 2000000]) = [(0, .ref b)] := by show [(0, Value.ref (gad E 2000000))] = _; rw [hEb]
    rw [e0]
    exact hl
