section GCOPY
variable {l : Launch} {E : gEnv} {d y pc : Nat} {L : gL} {cu : Nat × Nat} {w : gW} {Q : Option Value → gW → Prop} {p : Program} {e : Env} {s : State} {m : MethodId} {args : Array Value} {below : List Frame} {meth : Method} {c : Code} {R : Room} {Z : State → Prop} {H : Heap} {locs : List Loc} {ls : Array Slot} {st : List Value} {a : Nat}
theorem gnonneg {z : Int32} (hz : ¬ z < 0) : z.toInt = (z.toNatClampNeg : Int) := by
  have hz0 : (0 : Int) ≤ z.toInt := by
    have := Int32.not_lt.mp hz
    simpa using Int32.le_iff_toInt_le.mp this
  show z.toInt = ((z.toInt.toNat : Nat) : Int)
  omega
theorem gAt.rm0 (A : gAt l E d y L cu w Q p e s m args below meth c R Z H locs ls) : 2 ≤ R.frames ∧ 84 ≤ R.locals := by
  have h := A.1.2.2.2.2.2.2.2.2.2.2
  omega
/-- System.arraycopy of ints: the receiving row has the giving one's stretch -/
theorem gAt.copy (A : gAt l E d y L cu w Q p e s m args below meth c R Z H locs ls) {n : Nat} (hk : (g_own y, n) ∈ g_cp) (hdg : decode (g_code y) pc = .ok (.invokestatic n, 3)) (h : gcall d y pc L st cu w (gGs l E d y Q) (gCs l E d) a 21) : W p l e R s m args below meth c H locs cu.1 cu.2 Z (F0 m pc ls (st.map (gcv E))) := by
  obtain ⟨k, r, rfl, h1⟩ := gpI_inv h
  obtain ⟨dp, r, rfl, h2⟩ := gpI_inv h1
  obtain ⟨b1, r, rfl, h3⟩ := gpR_inv h2
  obtain ⟨sp, r, rfl, h4⟩ := gpI_inv h3
  obtain ⟨b0, r, rfl, h5, t0, t1, ⟨c1, c2, c3, c4, c5⟩, hg⟩ := gpR_inv h4
  have f1 := Nat.le_of_ble_eq_true h5
  have hc0 : H[E.2.2.1 + b0]? = some (vp_cell (E.2.1 0) (gln w b0, .inl (w.2.1 b0))) := A.2.2.1.1 b0 _ (gws_at (gar_at t0))
  have hc1 : H[E.2.2.1 + b1]? = some (vp_cell (E.2.1 0) (gln w b1, .inl (w.2.1 b1))) := A.2.2.1.1 b1 _ (gws_at (gar_at t1))
  obtain ⟨-, k0, hk0, cm0, hkk0⟩ := (A.K.2 0 _ (gtys_at rfl)).1 (gln w b0) (fun j => .int (w.2.1 b0 j))
  obtain ⟨-, k1, hk1, cm1, hkk1⟩ := (A.K.2 0 _ (gtys_at rfl)).1 (gln w b1) (fun j => .int (w.2.1 b1 j))
  have e0 : (Value.int k :: Value.int dp :: Value.ref b1 :: Value.int sp :: Value.ref b0 :: r).map (gcv E) = .int k :: .int dp :: .ref (E.2.2.1 + b1) :: .int sp :: .ref (E.2.2.1 + b0) :: r.map (gcv E) := by rw [← A.ad (gar_lt t0), ← A.ad (gar_lt t1)]; rfl
  rw [e0]
  intro T hT X
  have hrm := A.rm0
  obtain ⟨vm', X', step⟩ := X.arraycopy A.exec A.own (A.ts (g_cp_ok _ hk)) (A.ts gac_nat) (A.ts gac_stat) (A.ts gac_ini) (src := E.2.2.1 + b0) (dst := E.2.2.1 + b1) (cs := vp_cell (E.2.1 0) (gln w b0, .inl (w.2.1 b0))) (cd := vp_cell (E.2.1 0) (gln w b1, .inl (w.2.1 b1))) (srcPos := sp) (destPos := dp) (n := k) (by rw [hT]; exact hc0) (by rw [hT]; exact hc1)
    (fun _ h => by cases h) (fun _ h => by cases h) (fun h => by cases h) (fun h => by cases h) hk0 hk1 hkk0 hkk1 (by simp [refKind]) c1 c2 c3
    (by rw [gnonneg c1, gnonneg c3]; show ¬ _ > ((arrV _ _ _).slots.size : Int); rw [arrV_size]; omega)
    (by rw [gnonneg c2, gnonneg c3]; show ¬ _ > ((arrV _ _ _).slots.size : Int); rw [arrV_size]; omega)
    (fun vm₁ _ i hi => by
      have e : (vp_cell (E.2.1 0) (gln w b0, .inl (w.2.1 b0))).slots.getD (sp.toNatClampNeg + i) .null = .int (w.2.1 b0 (sp.toNatClampNeg + i)) := by
        show (arrV _ _ _).slots.getD _ _ = _
        rw [Array.getD_eq_getD_getElem?, arrV_read _ _ (by omega)]
        rfl
      rw [e]
      exact ⟨rfl, trivial⟩)
    (g := F0 m pc ls (.int k :: .int dp :: .ref (E.2.2.1 + b1) :: .int sp :: .ref (E.2.2.1 + b0) :: r.map (gcv E))) rfl (A.2.2.2.2.2.1.1.trans A.1.2.2.2.1.symm) (rest := r.map (gcv E)) rfl (by rw [A.code]; exact hdg) (by omega) (by
      show 2 * 0 + gcat (r.map (gcv E)) + (nativeFrameWords "java/lang/System" "arraycopy" 5 + 11) ≤ R.locals
      rw [gcat_cv]
      have : nativeFrameWords "java/lang/System" "arraycopy" 5 ≤ 20 := by decide +kernel
      omega)
  have e1 : copied (vp_cell (E.2.1 0) (gln w b0, .inl (w.2.1 b0))) (vp_cell (E.2.1 0) (gln w b1, .inl (w.2.1 b1))) sp dp k = vp_cell (E.2.1 0) (gln w b1, .inl (va_cpy (w.2.1 b0) (w.2.1 b1) sp.toNatClampNeg dp.toNatClampNeg k.toNatClampNeg)) := va_copied (fun z => .int z) _ _ _ _ c4
  rw [e1] at X' step
  have hl : E.2.2.1 + b1 < H.size := (Array.getElem?_eq_some_iff.mp hc1).1
  generalize hH1 : H.setIfInBounds (E.2.2.1 + b1) (vp_cell (E.2.1 0) (gln w b1, .inl (va_cpy (w.2.1 b0) (w.2.1 b1) sp.toNatClampNeg dp.toNatClampNeg k.toNatClampNeg))) = H1
  have z1 : H1.size = H.size := by rw [← hH1]; simp
  have he : H1[E.2.2.1 + b1]? = some (vp_cell (E.2.1 0) (gln w b1, .inl (va_cpy (w.2.1 b0) (w.2.1 b1) sp.toNatClampNeg dp.toNatClampNeg k.toNatClampNeg))) := by rw [← hH1]; simp [Array.getElem?_setIfInBounds, hl]
  have oq : ∀ q : Nat, q ≠ E.2.2.1 + b1 → H1[q]? = H[q]? := fun q hq => by rw [← hH1]; simp [Array.getElem?_setIfInBounds, Ne.symm hq]
  have hheap : ((T.setVm vm').setCell (E.2.2.1 + b1) (vp_cell (E.2.1 0) (gln w b1, .inl (va_cpy (w.2.1 b0) (w.2.1 b1) sp.toNatClampNeg dp.toNatClampNeg k.toNatClampNeg)))).heap = H1 := by rw [← hH1, ← hT]; rfl
  have hS := A.2.2.2.2.1
  obtain ⟨t, a1, b2⟩ := A.goW (pc' := pc + 3) (st' := r) (cu' := cu) (w' := (w.1, va_up w.2.1 b1 (va_cpy (w.2.1 b0) (w.2.1 b1) sp.toNatClampNeg dp.toNatClampNeg k.toNatClampNeg), w.2.2)) (H' := H1)
    (gH_set A.2.2.1 rfl (gar_at t1) (fun b hb => ⟨va_up_ne _ _ hb, rfl, rfl⟩) (A.2.2.1.1.set (gws_D E w) (gws_at (E := E) (gar_at t1)) (show H1[_]? = some _ by rw [he]; simp only [garrv, va_up_self]) oq) z1)
    (A.sc (gar_lt t1) (fun b hb => va_up_ne _ _ hb))
    (⟨by rw [z1]; exact hS.1, fun q g1 g2 => by
        rw [oq q (fun e => g2 (by rw [e]; show E.2.2.1 ≤ E.2.2.1 + b1; omega))]
        exact hS.2.1 q g1 g2, fun q hq => by
        rcases List.mem_append.mp hq with h | h
        · exact hS.2.2 q h
        · obtain ⟨z, -, hz⟩ := List.mem_map.mp h
          rw [← hz]
          show E.2.2.1 ≤ E.2.2.1 + b1
          omega⟩) A.2.2.2.2.2.2.1 A.2.2.2.2.2.2.2 hg _ hheap X'
  exact ⟨t, step t a1, b2⟩
end GCOPY
