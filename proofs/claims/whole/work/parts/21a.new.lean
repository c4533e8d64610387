section GNEW
variable {l : Launch} {E : gEnv} {d y pc : Nat} {L : gL} {cu : Nat × Nat} {w : gW} {Q : Option Value → gW → Prop} {p : Program} {e : Env} {s : State} {m : MethodId} {args : Array Value} {below : List Frame} {meth : Method} {c : Code} {R : Room} {Z : State → Prop} {H : Heap} {locs : List Loc} {ls : Array Slot} {st : List Value}
theorem gws_new (E : gEnv) (w : gW) (kd : gK) : gws E (gnew w kd) = gws E w ++ [(E.2.2.1 + w.1.length, gEl E (gnew w kd) w.1.length kd)] := by
  refine List.ext_getElem? fun k => ?_
  have hlen : (gws E w).length = w.1.length := by simp [gws]
  by_cases hk : k < w.1.length
  · rw [List.getElem?_append_left (by rw [hlen]; exact hk)]
    unfold gws
    rw [List.getElem?_mapIdx, List.getElem?_mapIdx, show (gnew w kd).1 = w.1 ++ [kd] from rfl, List.getElem?_append_left hk]
    cases w.1[k]? with
    | none => rfl
    | some kd' =>
      show some (_, _) = some (_, _)
      have hne : k ≠ w.1.length := by omega
      rw [gEl_congr (w' := gnew w kd) (w := w) (va_up_ne _ _ hne) (va_up_ne _ _ hne) (va_up_ne _ _ hne)]
  · by_cases he : k = w.1.length
    · subst he
      rw [List.getElem?_append_right (by rw [hlen]; exact Nat.le_refl _), hlen, Nat.sub_self, gws_at (w := gnew w kd) (kd := kd) (by show (w.1 ++ [kd])[w.1.length]? = some kd; simp)]
      rfl
    · rw [List.getElem?_eq_none (by simp [gws, gnew]; omega), List.getElem?_eq_none (by simp [hlen]; omega)]
theorem gH_new {kd : gK} {H1 : Heap} (hH : gH E w H) (hlen : w.1.length + 1 ≤ 1000000) (hz : H1.size = H.size + 1) (ho : ∀ q, q < H.size → H1[q]? = H[q]?) (hc : va_at E.1 vwCl (E.2.2.1 + w.1.length, gEl E (gnew w kd) w.1.length kd) H1) : gH E (gnew w kd) H1 := by
  refine ⟨?_, ?_, ?_⟩
  · rw [gws_new]
    refine (hH.1.kept (fun k x hx => ho x.1 ((hH.1 k x hx).lt))).app (fun k x hx => ?_)
    have h0 : k < 1 := (List.getElem?_eq_some_iff.mp hx).1
    rw [show k = 0 by omega] at hx
    cases hx
    exact hc
  · rw [hz, hH.2.1]
    show _ = E.2.2.1 + (w.1 ++ [kd]).length
    simp; omega
  · show (w.1 ++ [kd]).length ≤ 1000000
    simp; omega
theorem gSc_new {kd : gK} (h : gSc E w) (hlen : w.1.length + 1 ≤ 1000000) : gSc E (gnew w kd) := ⟨by simp only [gnew]; rw [va_up_ne _ _ (by omega)]; exact h.1, by simp only [gnew]; rw [va_up_ne _ _ (by omega)]; exact h.2⟩
theorem gS_new {H1 : Heap} (hS : va_S (gA E) s.heap H locs) (hz : H1.size = H.size + 1) (ho : ∀ q, q < H.size → H1[q]? = H[q]?) : va_S (gA E) s.heap H1 locs := ⟨Nat.le_trans hS.1 (by omega), fun x h1 h2 => (ho x (Nat.lt_of_lt_of_le h1 hS.1)).trans (hS.2.1 x h1 h2), hS.2.2⟩
theorem groom_inv {n : Nat} (h : groom y cu w n = true) : w.1.length + 1 ≤ 1000000 ∧ cu.1 + 1 ≤ g_mc y ∧ cu.2 + n ≤ g_ms y := by
  unfold groom at h
  obtain ⟨h1, h⟩ := gand h
  obtain ⟨h2, h3⟩ := gand h
  exact ⟨Nat.le_of_ble_eq_true h1, Nat.le_of_ble_eq_true h2, Nat.le_of_ble_eq_true h3⟩
theorem gdefault {ci k : Nat} {kd : gK} (hc : ci < 12) (hk : k < (g_C ci).2.2) : ∃ ty, parseFieldDescriptor ((g_C ci).2.1 k).2.2.1 = some ty ∧ defaultValue ty = gcv E (gval (gnew w kd) w.1.length ci k) := by
  have h := gkind ci hc k hk
  unfold gkindP at h
  unfold gval
  split at h
  · rename_i hq
    rw [hq]
    exact ⟨_, h, by simp only [gnew, va_up_self]; rfl⟩
  · rename_i hq
    rw [hq]
    exact ⟨_, h, by simp only [gnew, va_up_self]; rfl⟩
  · rename_i hq
    rw [hq]
    obtain ⟨ty, h1, -, h2⟩ := h
    exact ⟨ty, h1, by rw [h2]; simp only [gnew, va_up_self]; rfl⟩
  · rename_i hq
    rw [hq]
    exact ⟨_, h, by simp only [gnew, va_up_self]; rfl⟩
  · exact h.elim
theorem gAt.newo (A : gAt l E d y L cu w Q p e s m args below meth c R Z H locs ls) {n a : Nat} (hk : (g_own y, n, a) ∈ g_cl) (hdg : decode (g_code y) pc = .ok (.new n, 3)) (hr : groom y cu w (g_C a).2.2 = true) (h : gSound l E d y (pc + 3) L (.ref w.1.length :: st) (cu.1 + 1, cu.2 + (g_C a).2.2) (gnew w (.inl a)) Q) : W p l e R s m args below meth c H locs cu.1 cu.2 Z (F0 m pc ls (st.map (gcv E))) := by
  obtain ⟨hw, ha⟩ := g_cl_ok _ hk
  obtain ⟨r1, r2, r3⟩ := groom_inv hr
  obtain ⟨w1, w2, w3, -, -⟩ := gclok_ok a ha
  have hKn := A.K.1 a _ (gC_at ha)
  have hR := A.1.2.2.2.2.2.2.2.2.2.2
  refine W.newcK A.exec A.code A.own (A.ts hw) (A.ts w1) (A.ts w2) rfl hdg (by rw [hR.1]; exact r2) (by rw [hR.2.1]; exact r3) hKn.2.1 A.2.2.1.2.1 fun H1 kC hkC e1 z1 o1 => ?_
  have z2 : H1.size = H.size + 1 := by rw [z1, A.2.2.1.2.1]
  have o2 : ∀ q, q < H.size → H1[q]? = H[q]? := fun q hq => o1 q (by rw [← A.2.2.1.2.1]; exact hq)
  have hb := u_born (fun k => (parseFieldDescriptor ((g_C a).2.1 k).2.2.1).getD .int) (fun z hz => A.ts hz) w3 hKn hkC e1 (fun k hk => by
    obtain ⟨ty, h1, -⟩ := gdefault (E := E) (w := w) (kd := .inl a) ha hk
    rw [h1]; rfl)
  have hgo := A.goW (cu' := (cu.1 + 1, cu.2 + (g_C a).2.2)) (gH_new (kd := .inl a) A.2.2.1 r1 z2 o2 ⟨_, gC_at ha, hb.to (fun k hk => by
    obtain ⟨ty, h1, h2⟩ := gdefault (E := E) (w := w) (kd := .inl a) ha hk
    rw [h1]
    show defaultValue ty = vp_V (gfs E (gnew w (.inl a)) w.1.length a) k
    unfold vp_V
    rw [List.getD_eq_getElem?_getD, gfs_at hk, h2]
    rfl)⟩) (gSc_new A.2.2.2.1 r1) (gS_new A.2.2.2.2.1 z2 o2) r2 r3 h
  have e0 : (Value.ref w.1.length :: st).map (gcv E) = .ref (E.2.2.1 + w.1.length) :: st.map (gcv E) := by rw [← gad_lo (E := E) (a := w.1.length) (by omega)]; rfl
  rw [e0] at hgo
  exact hgo
end GNEW
