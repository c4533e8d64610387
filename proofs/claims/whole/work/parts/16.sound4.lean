section GSTEP
variable {l : Launch} {E : gEnv} {d y pc : Nat} {L : gL} {cu : Nat × Nat} {w : gW} {Q : Option Value → gW → Prop} {p : Program} {e : Env} {s : State} {m : MethodId} {args : Array Value} {below : List Frame} {meth : Method} {c : Code} {R : Room} {Z : State → Prop} {H : Heap} {locs : List Loc} {ls : Array Slot}
/-- the walk around one instruction: what it may go on to -/
def gAt (l : Launch) (E : gEnv) (d y : Nat) (L : gL) (cu : Nat × Nat) (w : gW) (Q : Option Value → gW → Prop) (p : Program) (e : Env) (s : State) (m : MethodId) (args : Array Value) (below : List Frame) (meth : Method) (c : Code) (R : Room) (Z : State → Prop) (H : Heap) (locs : List Loc) (ls : Array Slot) : Prop :=
  gCtx E d y p s m args meth c R ∧ gEnd l E y Q p e s m args below meth c R Z ∧ gH E w H ∧ gSc E w ∧ va_S (gA E) s.heap H locs ∧ lv_has ls (g_mL y) (gcL E L) ∧ cu.1 ≤ g_mc y ∧ cu.2 ≤ g_ms y
theorem gAt.go (A : gAt l E d y L cu w Q p e s m args below meth c R Z H locs ls) {pc' : Nat} {st' : List Value} (h : gSound l E d y pc' L st' cu w Q) : W p l e R s m args below meth c H locs cu.1 cu.2 Z (F0 m pc' ls (st'.map (gcv E))) :=
  h p e s m args below meth c R Z H locs ls A.1 A.2.1 A.2.2.1 A.2.2.2.1 A.2.2.2.2.1 A.2.2.2.2.2.1 A.2.2.2.2.2.2.1 A.2.2.2.2.2.2.2
theorem gAt.goL (A : gAt l E d y L cu w Q p e s m args below meth c R Z H locs ls) {pc' : Nat} {L' : gL} {st' : List Value} {ls' : Array Slot} (hl : lv_has ls' (g_mL y) (gcL E L')) (h : gSound l E d y pc' L' st' cu w Q) : W p l e R s m args below meth c H locs cu.1 cu.2 Z (F0 m pc' ls' (st'.map (gcv E))) :=
  h p e s m args below meth c R Z H locs ls' A.1 A.2.1 A.2.2.1 A.2.2.2.1 A.2.2.2.2.1 hl A.2.2.2.2.2.2.1 A.2.2.2.2.2.2.2
theorem gAt.goW (A : gAt l E d y L cu w Q p e s m args below meth c R Z H locs ls) {pc' : Nat} {st' : List Value} {cu' : Nat × Nat} {w' : gW} {H' : Heap} {locs' : List Loc} (hH : gH E w' H') (hSc : gSc E w') (hS : va_S (gA E) s.heap H' locs') (h1 : cu'.1 ≤ g_mc y) (h2 : cu'.2 ≤ g_ms y) (h : gSound l E d y pc' L st' cu' w' Q) : W p l e R s m args below meth c H' locs' cu'.1 cu'.2 Z (F0 m pc' ls (st'.map (gcv E))) :=
  h p e s m args below meth c R Z H' locs' ls A.1 A.2.1 hH hSc hS A.2.2.2.2.2.1 h1 h2
theorem gAt.exec (A : gAt l E d y L cu w Q p e s m args below meth c R Z H locs ls) : p.tables.exec = Jvm.exec := A.1.1
theorem gAt.code (A : gAt l E d y L cu w Q p e s m args below meth c R Z H locs ls) : c.code = g_code y := A.1.2.1
theorem gAt.lv (A : gAt l E d y L cu w Q p e s m args below meth c R Z H locs ls) {i : Nat} {v : Value} (h : glk L i = some v) : ls[i]? = some (.val (gcv E v)) := glv A.2.2.2.2.2.1 h
theorem gAt.own (A : gAt l E d y L cu w Q p e s m args below meth c R Z H locs ls) : s.vm.findClass (g_cn (g_own y)) = some m.cls := A.1.2.2.2.2.1
theorem gAt.ts (A : gAt l E d y L cu w Q p e s m args below meth c R Z H locs ls) {z : Cond} (h : z ∈ gG) : z.before args s = true := A.1.2.2.2.2.2.1 z h
theorem gAt.K (A : gAt l E d y L cu w Q p e s m args below meth c R Z H locs ls) : va_K E.1 vwCl (gtys E) s := A.1.2.2.2.2.2.2.2.2.2.1.1
theorem gAt.lo (A : gAt l E d y L cu w Q p e s m args below meth c R Z H locs ls) {a : Nat} (h : a < w.1.length) : a < 1000000 := Nat.lt_of_lt_of_le h A.2.2.1.2.2
theorem gAt.ad (A : gAt l E d y L cu w Q p e s m args below meth c R Z H locs ls) {a : Nat} (h : a < w.1.length) : gad E a = E.2.2.1 + a := gad_lo (A.lo h)
/-- a cell changes: the memory behind it -/
theorem gH_set {w w' : gW} {H' : Heap} {a : Nat} {kd : gK} (hH : gH E w H) (h1 : w'.1 = w.1) (h : w.1[a]? = some kd) (ho : ∀ b, b ≠ a → w'.2.1 b = w.2.1 b ∧ w'.2.2.1 b = w.2.2.1 b ∧ w'.2.2.2 b = w.2.2.2 b) (hP : va_P E.1 vwCl ((gws E w).set a (E.2.2.1 + a, gEl E w' a kd)) H') (hz : H'.size = H.size) : gH E w' H' :=
  ⟨by rw [gws_set h1 h ho] at hP; exact hP, by rw [hz, h1]; exact hH.2.1, by rw [h1]; exact hH.2.2⟩
end GSTEP
