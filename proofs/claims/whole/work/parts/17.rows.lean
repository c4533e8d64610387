section GROWS
variable {l : Launch} {E : gEnv} {d y pc : Nat} {L : gL} {cu : Nat × Nat} {w : gW} {Q : Option Value → gW → Prop} {p : Program} {e : Env} {s : State} {m : MethodId} {args : Array Value} {below : List Frame} {meth : Method} {c : Code} {R : Room} {Z : State → Prop} {H : Heap} {locs : List Loc} {ls : Array Slot} {rest : List Value}
theorem gdecl : ∀ c, c < 12 → g_cn c = (g_C c).1 ∧ ∀ k, ((g_C c).2.1 k).1 = (g_C c).1
  | 0, _ => ⟨rfl, fun k => by show (TX0 k).1 = RX0; unfold TX0; split <;> rfl⟩
  | 1, _ => ⟨rfl, fun k => by show (TX1 k).1 = RX1; unfold TX1; split <;> rfl⟩
  | 2, _ => ⟨rfl, fun k => by show (TX2 k).1 = RX2; unfold TX2; split <;> rfl⟩
  | 3, _ => ⟨rfl, fun k => by show (TX4 k).1 = RX4; unfold TX4; split <;> rfl⟩
  | 4, _ => ⟨rfl, fun k => by show (TX5 k).1 = RX5; unfold TX5; split <;> rfl⟩
  | 5, _ => ⟨rfl, fun k => by show (TX6 k).1 = RX6; unfold TX6; split <;> rfl⟩
  | 6, _ => ⟨rfl, fun k => by show (TX7 k).1 = RX7; unfold TX7; split <;> rfl⟩
  | 7, _ => ⟨rfl, fun k => by show (TX8 k).1 = RX8; unfold TX8; split <;> rfl⟩
  | 8, _ => ⟨rfl, fun k => by show (TX9 k).1 = RX9; unfold TX9; split <;> rfl⟩
  | 9, _ => ⟨rfl, fun k => by show (TX10 k).1 = RX10; unfold TX10; split <;> rfl⟩
  | 10, _ => ⟨rfl, fun k => by show (TX11 k).1 = RX11; unfold TX11; split <;> rfl⟩
  | 11, _ => ⟨rfl, fun k => by show (TX12 k).1 = RX12; unfold TX12; split <;> rfl⟩
  | n + 12, h => absurd h (by omega)
theorem gAt.get (A : gAt l E d y L cu w Q p e s m args below meth c R Z H locs ls) {ci k a idx : Nat} (hf : (g_own y, idx, ci, k) ∈ g_fl) (ha : gob w a = some ci) (hdg : decode (g_code y) pc = .ok (.getfield idx, 3))
    (kk : W p l e R s m args below meth c H locs cu.1 cu.2 Z (F0 m (pc + 3) ls (gcv E (gval w a ci k) :: rest))) : W p l e R s m args below meth c H locs cu.1 cu.2 Z (F0 m pc ls (.ref (E.2.2.1 + a) :: rest)) := by
  obtain ⟨hw, hk, hc⟩ := g_fl_ok _ hf
  exact va_get (D := E.1) (ws := gws E w) (own := g_cn (g_own y)) (ref := ((g_C ci).2.1 k).1) A.exec A.code (Ts := gG) (fun z hz => A.ts hz) (gclok_ok ci hc).2.2.1 A.own A.K A.2.2.1.1 a (gws_at (gob_at ha)) (gC_at hc) k hk (A.ts hw) (fun _ h => h) (gfs_at hk) hdg kk
theorem gAt.put (A : gAt l E d y L cu w Q p e s m args below meth c R Z H locs ls) {ci k a idx : Nat} {v : Value} (hf : (g_own y, idx, ci, k) ∈ g_fl) (hfin : ((g_C ci).2.1 k).2.2.2 = true → g_md y = 2 ∧ g_own y = ci) (ha : gob w a = some ci) {ty : FieldType} (hd : parseFieldDescriptor ((g_C ci).2.1 k).2.2.1 = some ty) (hn : narrow ty v = v) (hfit : fits ty v = true) (hdg : decode (g_code y) pc = .ok (.putfield idx, 3))
    (kk : ∀ (H1 : Heap) (locs1 : List Loc), va_P E.1 vwCl ((gws E w).set a (E.2.2.1 + a, .inr (ci, (gfs E w a ci).set k v))) H1 → H1.size = H.size → va_S (gA E) s.heap H1 locs1 → W p l e R s m args below meth c H1 locs1 cu.1 cu.2 Z (F0 m (pc + 3) ls rest)) : W p l e R s m args below meth c H locs cu.1 cu.2 Z (F0 m pc ls (v :: .ref (E.2.2.1 + a) :: rest)) := by
  obtain ⟨hw, hk, hc⟩ := g_fl_ok _ hf
  obtain ⟨-, -, hlayw, hty, hnm⟩ := gclok_ok ci hc
  have hts : ∀ z ∈ gG, z.before args s = true := fun z hz => A.ts hz
  have hcl := gC_at hc
  have hK := A.K
  have hP := A.2.2.1.1
  have hD := gws_D E w
  have hS0 := A.2.2.2.2.1
  have he := gws_at (E := E) (gob_at ha)
  have hap := va_apart (own := g_cn (g_own y)) hts hlayw (fun k => (parseFieldDescriptor ((g_C ci).2.1 k).2.2.1).getD .int) (fun k hk => by
    have h1 := hty k hk
    cases hq : parseFieldDescriptor ((g_C ci).2.1 k).2.2.1 with
    | none => rw [hq] at h1; cases h1
    | some z => rfl) hnm hK hcl
  obtain ⟨r, h1, cell, q1, q2, q3, q4⟩ := hP a _ he
  have hr : r = ((g_C ci).1, (g_C ci).2.1, (g_C ci).2.2) := Option.some.inj (h1.symm.trans hcl)
  subst hr
  obtain ⟨hS, hfc, kC, hkC, hkind⟩ := hK.1 ci _ hcl
  obtain ⟨cf, kf, fi, f, hi, hsl⟩ := hS k hk
  have hlay := hts _ (hlayw _ (u_in_lay hk))
  have hst := (u_facts hfc hkC (u_lays hts hlayw hk) hi).1
  have hl : k < (gfs E w a ci).length := by rw [gfs_len]; exact hk
  unfold u_lay at hlay
  cases hfb : ((g_C ci).2.1 k).2.2.2 with
  | false =>
    rw [if_neg (by rw [hfb]; decide)] at hlay
    have h6 := u_store hfc hkC hkind hlay hi hd hn hfit
    refine W.putK A.exec A.code (f := f) ⟨A.own, A.ts hw, ⟨_, _, _, hi⟩, hst⟩ (by rw [q2]; exact h6) q1 q3 (by rw [hsl]; exact k2_hasslot (q4 k hk)) rfl rfl hdg fun H' e1 e2 e3 => ?_
    rw [hsl] at e1 ⊢
    exact kk H' _ (hP.set hD he ⟨_, hcl, t_OB.to (V := updV (vp_V (gfs E w a ci)) k v) ⟨_, e1, q2, q3, t_set q4 hap hk v⟩ (fun j _ => vp_updV_set hl v j)⟩ e3) e2 (hS0.put e2 e3 (hD.2 a _ he))
  | true =>
    obtain ⟨hmd, hoc⟩ := hfin hfb
    rw [if_pos hfb] at hlay
    have hcf : m.cls = cf := by
      obtain ⟨_, _, c', _, _, _, -, -, hf', -, -, -, hown2, -⟩ := Cond.laysFinal_spec hlay
      have e1 : c' = cf := by have := hi.symm.trans hf'; simp at this; exact this.1.symm
      have hown := A.own
      rw [hoc, (gdecl ci hc).1] at hown
      rw [(gdecl ci hc).2 k] at hown2
      rw [← e1]; exact Option.some.inj (hown.symm.trans hown2)
    have h6 := u_fits hfc hkC hkind (Or.inr hlay) hi hd hn hfit
    refine W.putFinK A.exec A.code A.own (A.ts hw) hi hst hcf (A.1.2.2.2.2.2.2.2.1 hmd) (by rw [q2]; exact h6) q1 q3 (by rw [hsl]; exact k2_hasslot (q4 k hk)) rfl rfl hdg fun H' e1 e2 e3 => ?_
    rw [hsl] at e1 ⊢
    exact kk H' _ (hP.set hD he ⟨_, hcl, t_OB.to (V := updV (vp_V (gfs E w a ci)) k v) ⟨_, e1, q2, q3, t_set q4 hap hk v⟩ (fun j _ => vp_updV_set hl v j)⟩ e3) e2 (hS0.put e2 e3 (hD.2 a _ he))
/-- a store into a cell that is an array -/
theorem gstoreP {w w' : gW} {H1 : Heap} {a t n k : Nat} (A : gAt l E d y L cu w Q p e s m args below meth c R Z H locs ls) (ha : w.1[a]? = some (.inr (t, n))) (h1 : w'.1 = w.1) (ho : ∀ b, b ≠ a → w'.2.1 b = w.2.1 b ∧ w'.2.2.1 b = w.2.2.1 b ∧ w'.2.2.2 b = w.2.2.2 b) (he : H1[E.2.2.1 + a]? = some (vp_cell (E.2.1 t) (n, garrv E w' a t))) (z : H1.size = H.size) (oq : ∀ q, q ≠ E.2.2.1 + a → H1[q]? = H[q]?) :
    gH E w' H1 ∧ va_S (gA E) s.heap H1 (locs ++ [⟨E.2.2.1 + a, k⟩]) := by
  refine ⟨gH_set A.2.2.1 h1 ha ho ?_ z, A.2.2.2.2.1.put z oq (show E.2.2.1 ≤ E.2.2.1 + a by omega)⟩
  exact A.2.2.1.1.set (gws_D E w) (gws_at (E := E) ha) he oq
theorem gAt.sc (A : gAt l E d y L cu w Q p e s m args below meth c R Z H locs ls) {w' : gW} {a : Nat} (ha : a < w.1.length) (ho : ∀ b, b ≠ a → w'.2.1 b = w.2.1 b) : gSc E w' := by
  have hlo := A.lo ha
  obtain ⟨h1, h2⟩ := A.2.2.2.1
  exact ⟨by rw [ho 2000000 (by omega)]; exact h1, by rw [ho 2000001 (by omega)]; exact h2⟩
end GROWS
