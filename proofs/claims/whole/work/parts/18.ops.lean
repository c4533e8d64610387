section GOPS
variable {l : Launch} {E : gEnv} {d y pc : Nat} {L : gL} {cu : Nat × Nat} {w : gW} {Q : Option Value → gW → Prop} {p : Program} {e : Env} {s : State} {m : MethodId} {args : Array Value} {below : List Frame} {meth : Method} {c : Code} {R : Room} {Z : State → Prop} {H : Heap} {locs : List Loc} {ls : Array Slot} {r : List Value}
theorem gupd_i {F : Nat → Nat → Int32} {o k : Nat} {x : Int32} : updV (fun q => Value.int (F o q)) k (.int x) = fun q => Value.int (gupI F o k x o q) := by
  funext q
  simp only [gupI, va_up_self, updV, upd]
  split <;> rfl
theorem gupd_l {F : Nat → Nat → Int64} {o k : Nat} {x : Int64} : updV (fun q => Value.long (F o q)) k (.long x) = fun q => Value.long (gupL F o k x o q) := by
  funext q
  simp only [gupL, va_up_self, updV, vp_updL]
  split <;> rfl
theorem gupd_r {F : Nat → Nat → Option Nat} {o k x : Nat} : updV (fun q => va_rf ((F o q).map (gad E))) k (.ref (gad E x)) = fun q => va_rf ((gupR F o k (some x) o q).map (gad E)) := by
  funext q
  by_cases h : q = k <;> simp [gupR, updV, va_up, h, va_rf]
theorem gAt.iald (A : gAt l E d y L cu w Q p e s m args below meth c R Z H locs ls) {o : Nat} {j : Int32} (ha : gar w o = some 0) (hin : vp_in j (gln w o)) (hdg : decode (g_code y) pc = .ok (.iaload, 1)) (h : gSound l E d y (pc + 1) L (.int (w.2.1 o j.toNatClampNeg) :: r) cu w Q) : W p l e R s m args below meth c H locs cu.1 cu.2 Z (F0 m pc ls (.int j :: .ref (E.2.2.1 + o) :: r.map (gcv E))) :=
  va_iald A.exec A.code A.K A.2.2.1.1 o 0 (gws_at (gar_at ha)) (gtys_at rfl) hin hdg (A.go h)
theorem gAt.bald (A : gAt l E d y L cu w Q p e s m args below meth c R Z H locs ls) {o : Nat} {j : Int32} (ha : gar w o = some 2 ∨ gar w o = some 3) (hin : vp_in j (gln w o)) (hdg : decode (g_code y) pc = .ok (.baload, 1)) (h : gSound l E d y (pc + 1) L (.int (w.2.1 o j.toNatClampNeg) :: r) cu w Q) : W p l e R s m args below meth c H locs cu.1 cu.2 Z (F0 m pc ls (.int j :: .ref (E.2.2.1 + o) :: r.map (gcv E))) := by
  rcases ha with ha | ha
  · exact va_bald A.exec A.code A.K A.2.2.1.1 o 2 (gws_at (gar_at ha)) (gtys_at rfl) hin hdg (A.go h)
  · exact va_zald A.exec A.code A.K A.2.2.1.1 o 3 (gws_at (gar_at ha)) (gtys_at rfl) hin hdg (A.go h)
theorem gAt.lald (A : gAt l E d y L cu w Q p e s m args below meth c R Z H locs ls) {o : Nat} {j : Int32} (ha : gar w o = some 1) (hin : vp_in j (gln w o)) (hdg : decode (g_code y) pc = .ok (.laload, 1)) (h : gSound l E d y (pc + 1) L (.long (w.2.2.1 o j.toNatClampNeg) :: r) cu w Q) : W p l e R s m args below meth c H locs cu.1 cu.2 Z (F0 m pc ls (.int j :: .ref (E.2.2.1 + o) :: r.map (gcv E))) :=
  va_lald A.exec A.code A.K A.2.2.1.1 o 1 (gws_at (gar_at ha)) (gtys_at rfl) hin hdg (A.go h)
theorem gAt.aald (A : gAt l E d y L cu w Q p e s m args below meth c R Z H locs ls) {o t : Nat} {j : Int32} (ha : gar w o = some t) (ht : 4 ≤ t) (ht2 : t ≤ 7) (hin : vp_in j (gln w o)) (hdg : decode (g_code y) pc = .ok (.aaload, 1)) (h : gSound l E d y (pc + 1) L (va_rf (w.2.2.2 o j.toNatClampNeg) :: r) cu w Q) : W p l e R s m args below meth c H locs cu.1 cu.2 Z (F0 m pc ls (.int j :: .ref (E.2.2.1 + o) :: r.map (gcv E))) := by
  have hlt : j.toNatClampNeg < gln w o := Nat.not_le.mp fun q => hin (Or.inr q)
  have hg := A.go h
  have e0 : (va_rf (w.2.2.2 o j.toNatClampNeg) :: r).map (gcv E) = va_rf ((w.2.2.2 o j.toNatClampNeg).map (gad E)) :: r.map (gcv E) := by rw [List.map_cons, gcv_rf]
  rw [e0] at hg
  have hcell : H[E.2.2.1 + o]? = some (arrV (E.2.1 t) (gln w o) (fun k => va_rf ((w.2.2.2 o k).map (gad E)))) := by
    have h1 := A.2.2.1.1 o _ (gws_at (gar_at ha))
    match t, ht with
    | n + 4, _ => exact h1
  obtain ⟨ty, hty, href⟩ : ∃ ty, g_ty[t]? = some ty ∧ ty.isReference = true := by
    match t, ht, ht2 with
    | 4, _, _ => exact ⟨_, rfl, rfl⟩
    | 5, _, _ => exact ⟨_, rfl, rfl⟩
    | 6, _, _ => exact ⟨_, rfl, rfl⟩
    | 7, _, _ => exact ⟨_, rfl, rfl⟩
    | n + 8, _, h => exact absurd h (by omega)
  exact W.aald (v := va_rf ((w.2.2.2 o j.toNatClampNeg).map (gad E))) A.exec A.code hcell ((A.K.2 t _ (gtys_at hty)).1 _ _) href (fun q => by cases q) (by rw [arrV_size]; exact hin) (by rw [arrV_read _ _ hlt]) rfl rfl hdg hg
theorem gAt.iast (A : gAt l E d y L cu w Q p e s m args below meth c R Z H locs ls) {o : Nat} {j x : Int32} (ha : gar w o = some 0) (hin : vp_in j (gln w o)) (hdg : decode (g_code y) pc = .ok (.iastore, 1)) (h : gSound l E d y (pc + 1) L r cu (w.1, gupI w.2.1 o j.toNatClampNeg x, w.2.2) Q) : W p l e R s m args below meth c H locs cu.1 cu.2 Z (F0 m pc ls (.int x :: .int j :: .ref (E.2.2.1 + o) :: r.map (gcv E))) := by
  have hcell : H[E.2.2.1 + o]? = some (arrV (E.2.1 0) (gln w o) (fun k => .int (w.2.1 o k))) := A.2.2.1.1 o _ (gws_at (gar_at ha))
  refine W.iast A.exec A.code hcell ((A.K.2 0 _ (gtys_at rfl)).1 _ _) (fun q => by cases q) (by rw [arrV_size]; exact hin) rfl rfl hdg fun H1 e1 z oq => ?_
  rw [arrV_store, gupd_i] at e1
  obtain ⟨hH, hS⟩ := gstoreP (w' := (w.1, gupI w.2.1 o j.toNatClampNeg x, w.2.2)) (k := j.toNatClampNeg) A (gar_at ha) rfl (fun b hb => ⟨va_up_ne _ _ hb, rfl, rfl⟩) e1 z oq
  exact A.goW hH (A.sc (gar_lt ha) (fun b hb => va_up_ne _ _ hb)) hS A.2.2.2.2.2.2.1 A.2.2.2.2.2.2.2 h
theorem gAt.last (A : gAt l E d y L cu w Q p e s m args below meth c R Z H locs ls) {o : Nat} {j : Int32} {x : Int64} (ha : gar w o = some 1) (hin : vp_in j (gln w o)) (hdg : decode (g_code y) pc = .ok (.lastore, 1)) (h : gSound l E d y (pc + 1) L r cu (w.1, w.2.1, gupL w.2.2.1 o j.toNatClampNeg x, w.2.2.2) Q) : W p l e R s m args below meth c H locs cu.1 cu.2 Z (F0 m pc ls (.long x :: .int j :: .ref (E.2.2.1 + o) :: r.map (gcv E))) := by
  have hcell : H[E.2.2.1 + o]? = some (arrV (E.2.1 1) (gln w o) (fun k => .long (w.2.2.1 o k))) := A.2.2.1.1 o _ (gws_at (gar_at ha))
  refine W.last A.exec A.code hcell ((A.K.2 1 _ (gtys_at rfl)).1 _ _) (fun q => by cases q) (by rw [arrV_size]; exact hin) rfl rfl hdg fun H1 e1 z oq => ?_
  rw [arrV_store, gupd_l] at e1
  obtain ⟨hH, hS⟩ := gstoreP (w' := (w.1, w.2.1, gupL w.2.2.1 o j.toNatClampNeg x, w.2.2.2)) (k := j.toNatClampNeg) A (gar_at ha) rfl (fun b hb => ⟨rfl, va_up_ne _ _ hb, rfl⟩) e1 z oq
  exact A.goW hH (A.sc (gar_lt ha) (fun b hb => rfl)) hS A.2.2.2.2.2.2.1 A.2.2.2.2.2.2.2 h
theorem gAt.bast (A : gAt l E d y L cu w Q p e s m args below meth c R Z H locs ls) {o : Nat} {j x : Int32} (hin : vp_in j (gln w o)) (hx : (gar w o = some 2 ∧ x.toInt8.toInt32 = x) ∨ (gar w o = some 3 ∧ (x = 0 ∨ x = 1))) (hdg : decode (g_code y) pc = .ok (.bastore, 1)) (h : gSound l E d y (pc + 1) L r cu (w.1, gupI w.2.1 o j.toNatClampNeg x, w.2.2) Q) : W p l e R s m args below meth c H locs cu.1 cu.2 Z (F0 m pc ls (.int x :: .int j :: .ref (E.2.2.1 + o) :: r.map (gcv E))) := by
  rcases hx with ⟨ha, hx⟩ | ⟨ha, hx⟩
  · have hcell : H[E.2.2.1 + o]? = some (arrV (E.2.1 2) (gln w o) (fun k => .int (w.2.1 o k))) := A.2.2.1.1 o _ (gws_at (gar_at ha))
    have hnar : narrow .byte (.int x) = .int x := by show Value.int (x.toInt8.toInt32) = .int x; rw [hx]
    refine W.bast A.exec A.code hcell ((A.K.2 2 _ (gtys_at rfl)).1 _ _) (fun q => by cases q) (by rw [arrV_size]; exact hin) rfl rfl hdg fun H1 e1 z oq => ?_
    rw [hnar, arrV_store, gupd_i] at e1
    obtain ⟨hH, hS⟩ := gstoreP (w' := (w.1, gupI w.2.1 o j.toNatClampNeg x, w.2.2)) (k := j.toNatClampNeg) A (gar_at ha) rfl (fun b hb => ⟨va_up_ne _ _ hb, rfl, rfl⟩) e1 z oq
    exact A.goW hH (A.sc (gar_lt ha) (fun b hb => va_up_ne _ _ hb)) hS A.2.2.2.2.2.2.1 A.2.2.2.2.2.2.2 h
  · have hcell : H[E.2.2.1 + o]? = some (arrV (E.2.1 3) (gln w o) (fun k => .int (w.2.1 o k))) := A.2.2.1.1 o _ (gws_at (gar_at ha))
    have hnar : narrow .boolean (.int x) = .int x := by rcases hx with rfl | rfl <;> rfl
    refine W.zast A.exec A.code hcell ((A.K.2 3 _ (gtys_at rfl)).1 _ _) (fun q => by cases q) (by rw [arrV_size]; exact hin) rfl rfl hdg fun H1 e1 z oq => ?_
    rw [hnar, arrV_store, gupd_i] at e1
    obtain ⟨hH, hS⟩ := gstoreP (w' := (w.1, gupI w.2.1 o j.toNatClampNeg x, w.2.2)) (k := j.toNatClampNeg) A (gar_at ha) rfl (fun b hb => ⟨va_up_ne _ _ hb, rfl, rfl⟩) e1 z oq
    exact A.goW hH (A.sc (gar_lt ha) (fun b hb => va_up_ne _ _ hb)) hS A.2.2.2.2.2.2.1 A.2.2.2.2.2.2.2 h
theorem g_ac_ty {t ci : Nat} (h : g_ac t = some ci) : 4 < t ∧ t ≤ 7 ∧ ci < 12 ∧ g_ty[t]? = some (.object (g_C ci).1) := by
  unfold g_ac at h
  split at h
  · cases h; exact ⟨by omega, by omega, by omega, rfl⟩
  · cases h; exact ⟨by omega, by omega, by omega, rfl⟩
  · cases h; exact ⟨by omega, by omega, by omega, rfl⟩
  · cases h
theorem gAt.aast (A : gAt l E d y L cu w Q p e s m args below meth c R Z H locs ls) {o t x ci : Nat} {j : Int32} (ha : gar w o = some t) (hx : gob w x = some ci) (ht : g_ac t = some ci) (hin : vp_in j (gln w o)) (hdg : decode (g_code y) pc = .ok (.aastore, 1)) (h : gSound l E d y (pc + 1) L r cu (w.1, w.2.1, w.2.2.1, gupR w.2.2.2 o j.toNatClampNeg (some x)) Q) : W p l e R s m args below meth c H locs cu.1 cu.2 Z (F0 m pc ls (.ref (gad E x) :: .int j :: .ref (E.2.2.1 + o) :: r.map (gcv E))) := by
  obtain ⟨ht1, ht2, hci, hty⟩ := g_ac_ty ht
  have hlt : j.toNatClampNeg < gln w o := Nat.not_le.mp fun q => hin (Or.inr q)
  have hcell : H[E.2.2.1 + o]? = some (arrV (E.2.1 t) (gln w o) (fun k => va_rf ((w.2.2.2 o k).map (gad E)))) := by
    have h1 := A.2.2.1.1 o _ (gws_at (gar_at ha))
    match t, ht1 with
    | n + 4, _ => exact h1
  have hxa := A.ad (gob_lt hx)
  obtain ⟨r', hr', cellV, g1, g2, g3, -⟩ := A.2.2.1.1 x _ (gws_at (gob_at hx))
  have hcls := (A.K.1 ci _ (gC_at hci)).2
  obtain ⟨kA, comp, k1, k2, k3, -⟩ := (A.K.2 t _ (gtys_at hty)).2
  have hcomp : comp = E.1.1 ci := Option.some.inj (k3.symm.trans hcls.1)
  subst hcomp
  obtain ⟨kC, hkC, -⟩ := hcls.2
  rw [hxa]
  refine W.aast A.exec A.code hcell (fun q h => by cases h) (fun h => by cases h) k1 k2 rfl hkC ⟨fun q => hin (Or.inl q), by rw [arrV_size]; exact hlt⟩ g1 (fun q h => by rw [g3] at h; cases h) (by rw [g2]; exact hkC) (by rw [g2]; exact va_assign hcls) rfl rfl hdg fun H1 e1 z oq => ?_
  rw [← hxa, arrV_store, gupd_r] at e1
  have he : H1[E.2.2.1 + o]? = some (vp_cell (E.2.1 t) (gln w o, garrv E (w.1, w.2.1, w.2.2.1, gupR w.2.2.2 o j.toNatClampNeg (some x)) o t)) := by
    match t, ht1 with
    | n + 4, _ => exact e1
  obtain ⟨hH, hS⟩ := gstoreP (w' := (w.1, w.2.1, w.2.2.1, gupR w.2.2.2 o j.toNatClampNeg (some x))) (k := j.toNatClampNeg) A (gar_at ha) rfl (fun b hb => ⟨rfl, rfl, va_up_ne _ _ hb⟩) he z oq
  exact A.goW hH (A.sc (gar_lt ha) (fun b hb => rfl)) hS A.2.2.2.2.2.2.1 A.2.2.2.2.2.2.2 h
end GOPS
