section GNEWA
variable {l : Launch} {E : gEnv} {d y pc : Nat} {L : gL} {cu : Nat × Nat} {w : gW} {Q : Option Value → gW → Prop} {p : Program} {e : Env} {s : State} {m : MethodId} {args : Array Value} {below : List Frame} {meth : Method} {c : Code} {R : Room} {Z : State → Prop} {H : Heap} {locs : List Loc} {ls : Array Slot} {st : List Value}
/-- an array made: what is left to say is its cell -/
theorem gAt.made (A : gAt l E d y L cu w Q p e s m args below meth c R Z H locs ls) {t N pc' : Nat} {r : List Value} {H1 : Heap} (hr : groom y cu w N = true) (hz : H1.size = E.2.2.1 + w.1.length + 1) (ho : ∀ q, q < E.2.2.1 + w.1.length → H1[q]? = H[q]?) (hc : H1[E.2.2.1 + w.1.length]? = some (vp_cell (E.2.1 t) (N, garrv E (gnew w (.inr (t, N))) w.1.length t))) (h : gSound l E d y pc' L (.ref w.1.length :: r) (cu.1 + 1, cu.2 + N) (gnew w (.inr (t, N))) Q) : W p l e R s m args below meth c H1 locs (cu.1 + 1) (cu.2 + N) Z (F0 m pc' ls (.ref (E.2.2.1 + w.1.length) :: r.map (gcv E))) := by
  obtain ⟨r1, r2, r3⟩ := groom_inv hr
  have z2 : H1.size = H.size + 1 := by rw [hz, A.2.2.1.2.1]
  have o2 : ∀ q, q < H.size → H1[q]? = H[q]? := fun q hq => ho q (by rw [← A.2.2.1.2.1]; exact hq)
  have hgo := A.goW (cu' := (cu.1 + 1, cu.2 + N)) (gH_new (kd := .inr (t, N)) A.2.2.1 r1 z2 o2 hc) (gSc_new A.2.2.2.1 r1) (gS_new A.2.2.2.2.1 z2 o2) r2 r3 h
  have e0 : (Value.ref w.1.length :: r).map (gcv E) = .ref (E.2.2.1 + w.1.length) :: r.map (gcv E) := by rw [← gad_lo (E := E) (a := w.1.length) (by omega)]; rfl
  rw [e0] at hgo
  exact hgo
theorem gAt.newa (A : gAt l E d y L cu w Q p e s m args below meth c R Z H locs ls) {t : ArrayType} {a : Nat} {n : Int32} {r : List Value} (hk : (match t with
      | .int => a == 0
      | .long => a == 1
      | .byte => a == 2
      | .boolean => a == 3
      | _ => false) = true) (hdg : decode (g_code y) pc = .ok (.newarray t, 2)) (hn : ¬ n < 0) (hn2 : n.toNatClampNeg ≤ 1000) (hr : groom y cu w n.toNatClampNeg = true) (h : gSound l E d y (pc + 2) L (.ref w.1.length :: r) (cu.1 + 1, cu.2 + n.toNatClampNeg) (gnew w (.inr (a, n.toNatClampNeg))) Q) : W p l e R s m args below meth c H locs cu.1 cu.2 Z (F0 m pc ls (.int n :: r.map (gcv E))) := by
  obtain ⟨r1, r2, r3⟩ := groom_inv hr
  have hR := A.1.2.2.2.2.2.2.2.2.2.2
  split at hk
  · cases eq_of_beq hk
    refine va_newaK (atype := .int) A.exec A.code (A.ts garr_int) rfl hdg rfl hn rfl (by show n.toNatClampNeg * 4 ≤ _; omega) (by rw [hR.1]; exact r2) (by rw [hR.2.1]; exact r3) A.2.2.1.2.1 fun H1 cA e1 z1 o1 _ hf => ?_
    cases hf.symm.trans (A.K.2 0 _ (gtys_at rfl)).2
    exact A.made hr z1 o1 (by rw [e1]; simp only [garrv, gnew, va_up_self]; rfl) h
  · cases eq_of_beq hk
    refine va_newaK (atype := .long) A.exec A.code (A.ts garr_long) rfl hdg rfl hn rfl (by show n.toNatClampNeg * 8 ≤ _; omega) (by rw [hR.1]; exact r2) (by rw [hR.2.1]; exact r3) A.2.2.1.2.1 fun H1 cA e1 z1 o1 _ hf => ?_
    cases hf.symm.trans (A.K.2 1 _ (gtys_at rfl)).2
    exact A.made hr z1 o1 (by rw [e1]; simp only [garrv, gnew, va_up_self]; rfl) h
  · cases eq_of_beq hk
    refine va_newaK (atype := .byte) A.exec A.code (A.ts garr_byte) rfl hdg rfl hn rfl (by show n.toNatClampNeg * 1 ≤ _; omega) (by rw [hR.1]; exact r2) (by rw [hR.2.1]; exact r3) A.2.2.1.2.1 fun H1 cA e1 z1 o1 _ hf => ?_
    cases hf.symm.trans (A.K.2 2 _ (gtys_at rfl)).2
    exact A.made hr z1 o1 (by rw [e1]; simp only [garrv, gnew, va_up_self]; rfl) h
  · cases eq_of_beq hk
    refine va_newaK (atype := .boolean) A.exec A.code (A.ts garr_boolean) rfl hdg rfl hn rfl (by show n.toNatClampNeg * 1 ≤ _; omega) (by rw [hR.1]; exact r2) (by rw [hR.2.1]; exact r3) A.2.2.1.2.1 fun H1 cA e1 z1 o1 _ hf => ?_
    cases hf.symm.trans (A.K.2 3 _ (gtys_at rfl)).2
    exact A.made hr z1 o1 (by rw [e1]; simp only [garrv, gnew, va_up_self]; rfl) h
  · cases hk
theorem gAt.newq (A : gAt l E d y L cu w Q p e s m args below meth c R Z H locs ls) {k a : Nat} {C : String} {n : Int32} {r : List Value} (hk : (g_own y, k, a) ∈ g_an) (ha : 4 < a) (hC : g_ty[a]? = some (.object C)) (hnm : g_an_nm a = C) (hover : va_AO C s) (hdg : decode (g_code y) pc = .ok (.anewarray k, 3)) (hn : ¬ n < 0) (hn2 : n.toNatClampNeg ≤ 1000) (hr : groom y cu w n.toNatClampNeg = true) (h : gSound l E d y (pc + 3) L (.ref w.1.length :: r) (cu.1 + 1, cu.2 + n.toNatClampNeg) (gnew w (.inr (a, n.toNatClampNeg))) Q) : W p l e R s m args below meth c H locs cu.1 cu.2 Z (F0 m pc ls (.int n :: r.map (gcv E))) := by
  obtain ⟨r1, r2, r3⟩ := groom_inv hr
  have hR := A.1.2.2.2.2.2.2.2.2.2.2
  have hw := g_an_ok _ hk
  have hw2 : (Cond.classLink (g_cn (g_own y)) k C) ∈ gG := by rw [← hnm]; exact hw
  refine W.anew A.exec A.code A.own (A.ts hw2) (va_AO.use hover) rfl hdg rfl hn (by omega) (by rw [hR.1]; exact r2) (by rw [hR.2.1]; exact r3) fun cA kA comp f1 f2 f3 f4 => ?_
  obtain ⟨kA', comp', -, -, -, g4⟩ := (A.K.2 a _ (gtys_at hC)).2
  cases f1.symm.trans g4
  generalize hH1 : H.push ({ cls := E.2.1 a, slots := Array.replicate n.toNatClampNeg .null, vm := .none } : Cell) = H1
  have z1 : H1.size = H.size + 1 := by rw [← hH1, Array.size_push]
  have e1 : H1[H.size]? = some (arrV (E.2.1 a) n.toNatClampNeg (fun _ => .null)) := by rw [← hH1, Array.getElem?_push_size, ← arrV_new]
  have o1 : ∀ q : Nat, q < H.size → H1[q]? = H[q]? := fun q hq => by rw [← hH1, Array.getElem?_push, if_neg (Nat.ne_of_lt hq)]
  have hsz := A.2.2.1.2.1
  rw [hsz] at z1 e1 o1
  rw [hsz]
  refine A.made hr z1 o1 ?_ h
  rw [e1]
  match a, ha with
  | a' + 5, _ =>
    show some (arrV _ _ _) = some (arrV _ _ (fun j => va_rf (((gnew w (.inr (a' + 5, n.toNatClampNeg))).2.2.2 w.1.length j).map (gad E))))
    simp only [gnew, va_up_self]
    rfl
end GNEWA
