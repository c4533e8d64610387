section MULA
/-- the outer row with its first i places filled -/
def mu_o (cA : ClassId) (N h0 i : Nat) : Cell := arrV cA N (fun j => va_rf (if j < i then some (h0 + 1 + j) else none))
def mu_i (cI : ClassId) (K : Nat) : Cell := arrV cI K (fun _ => .int 0)
/-- the machine behind the outer row and i inner ones -/
def mu_S (S : State) (cA cI : ClassId) (N K : Nat) : Nat → State
  | 0 => S.pushCell (mu_o cA N S.heap.size 0)
  | i + 1 => ((mu_S S cA cI N K i).pushCell (mu_i cI K)).setCell S.heap.size (mu_o cA N S.heap.size (i + 1))
theorem mu_o0 (cA : ClassId) (N h0 : Nat) : ({ cls := cA, slots := Array.replicate N .null, vm := .none } : Cell) = mu_o cA N h0 0 := by
  refine (arrV_new cA N .null).trans (congrArg (arrV cA N) (funext fun j => ?_))
  rw [if_neg (Nat.not_lt_zero j)]; rfl
theorem mu_os (cA : ClassId) (N h0 i : Nat) : (mu_o cA N h0 i).setSlot i (.ref (h0 + 1 + i)) = mu_o cA N h0 (i + 1) := by
  unfold mu_o
  rw [arrV_store]
  refine congrArg (arrV cA N) (funext fun j => ?_)
  unfold updV
  by_cases q : j = i
  · rw [if_pos q, if_pos (by omega), q]; rfl
  · rw [if_neg q]
    dsimp only
    by_cases q2 : j < i
    · rw [if_pos q2, if_pos (by omega)]
    · rw [if_neg q2, if_neg (by omega)]
theorem mu_osz (cA : ClassId) (N h0 i : Nat) : (mu_o cA N h0 i).slots.size = N := by
  unfold mu_o arrV
  exact Array.size_ofFn
theorem mu_isz (cI : ClassId) (K : Nat) : (mu_i cI K).slots.size = K := by
  unfold mu_i arrV
  exact Array.size_ofFn
theorem mu_f (S : State) (cA cI : ClassId) (N K : Nat) : ∀ i : Nat, (mu_S S cA cI N K i).heap.size = S.heap.size + 1 + i ∧ (mu_S S cA cI N K i).heap[S.heap.size]? = some (mu_o cA N S.heap.size i) ∧ (mu_S S cA cI N K i).vm = S.vm ∧ (mu_S S cA cI N K i).slotsUsed = S.slotsUsed + N + i * K := by
  intro i
  induction i with
  | zero =>
    refine ⟨?_, (State.heap_pushCell_size _ _), rfl, ?_⟩
    · show (S.heap.push _).size = _
      rw [Array.size_push]
    · show S.slotsUsed + (mu_o cA N S.heap.size 0).slots.size = _
      rw [mu_osz]; omega
  | succ i ih =>
    obtain ⟨a, b, c, d⟩ := ih
    refine ⟨?_, ?_, c, ?_⟩
    · show (((mu_S S cA cI N K i).heap.push _).setIfInBounds _ _).size = _
      rw [Array.size_setIfInBounds, Array.size_push, a]; omega
    · have hl : S.heap.size < (mu_S S cA cI N K i).heap.size := by omega
      have h : ((mu_S S cA cI N K i).pushCell (mu_i cI K)).heap[S.heap.size]? = some (mu_o cA N S.heap.size i) := (State.heap_pushCell_of_lt _ _ hl).trans b
      exact State.heap_setCell_self h
    · show (mu_S S cA cI N K i).slotsUsed + (mu_i cI K).slots.size = _
      rw [d, mu_isz, Nat.succ_mul]; omega
theorem mu_old (S : State) (cA cI : ClassId) (N K : Nat) {q : Nat} (hq : q < S.heap.size) : ∀ i : Nat, (mu_S S cA cI N K i).heap[q]? = S.heap[q]? := by
  intro i
  induction i with
  | zero => exact State.heap_pushCell_of_lt _ _ hq
  | succ i ih =>
    have a := (mu_f S cA cI N K i).1
    have hl : q < (mu_S S cA cI N K i).heap.size := by omega
    have h : ((mu_S S cA cI N K i).pushCell (mu_i cI K)).heap[q]? = S.heap[q]? := (State.heap_pushCell_of_lt _ _ hl).trans ih
    exact (State.heap_setCell_other (Nat.ne_of_gt hq)).trans h
theorem mu_in (S : State) (cA cI : ClassId) (N K : Nat) : ∀ i j : Nat, j < i → (mu_S S cA cI N K i).heap[S.heap.size + 1 + j]? = some (mu_i cI K) := by
  intro i
  induction i with
  | zero => intro j hj; exact absurd hj (Nat.not_lt_zero j)
  | succ i ih =>
    intro j hj
    have a := (mu_f S cA cI N K i).1
    have h : ((mu_S S cA cI N K i).pushCell (mu_i cI K)).heap[S.heap.size + 1 + j]? = some (mu_i cI K) := by
      by_cases q : j = i
      · rw [q, ← a]; exact (State.heap_pushCell_size _ _)
      · have hl : S.heap.size + 1 + j < (mu_S S cA cI N K i).heap.size := by omega
        exact (State.heap_pushCell_of_lt _ _ hl).trans (ih j (by omega))
    have ne : S.heap.size ≠ S.heap.size + 1 + j := Nat.ne_of_lt (by rw [Nat.add_assoc]; exact Nat.lt_add_of_pos_right (by omega))
    exact (State.heap_setCell_other ne).trans h
theorem mu_St (S : State) (f : JFrame) (cA cI : ClassId) (N K : Nat) : ∀ i : Nat, mu_S (S.setTop f) cA cI N K i = (mu_S S cA cI N K i).setTop f := by
  intro i
  induction i with
  | zero => rfl
  | succ i ih =>
    show ((mu_S (S.setTop f) cA cI N K i).pushCell _).setCell _ _ = _
    rw [ih]; rfl
theorem mu_over {A : Array Value} {U : State} (h : (Cond.arrayOver (.array .int)).before A U = true) : ∃ (cI cA : ClassId) (kA : Class), U.vm.findClass (FieldType.array .int).toString = some cI ∧ U.vm.findClass ("[" ++ (FieldType.array .int).toString) = some cA ∧ U.vm.classes[cA]? = some kA ∧ kA.kind = .array cI (.array .int) := by
  simp only [Cond.before, Cond.holds, Cond.value, beq_iff_eq, Option.bind_eq_some_iff, Option.map_eq_some_iff] at h
  obtain ⟨cI, h1, cA, h2, kA, h3, h4⟩ := h
  obtain ⟨hlt, h6, -⟩ := Array.findIdx?_eq_some_iff_getElem.mp h2
  have h7 : U.vm.classes[cA] = kA := (Array.getElem?_eq_some_iff.mp h3).2
  rw [h7] at h6
  cases hkd : kA.kind with
  | array co ty =>
    rw [hkd] at h4 h6
    simp only [Bool.and_eq_true, decide_eq_true_eq, beq_iff_eq] at h4 h6
    exact ⟨cI, cA, kA, h1, h4.2, h3, by rw [hkd, h6, h4.1]⟩
  | _ => rw [hkd] at h4; exact absurd h4 Bool.false_ne_true
end MULA
section MULW
variable {E : CtlPost} {e : Env} {d : Bool} {acts : List Action} {s : State}
theorem mu_new {Q : Addr → Pre} {c comp : ClassId} {k : Class} {ty : FieldType} {len : Nat} {v : Value} (hk : s.vm.classes[c]? = some k) (hkind : k.kind = .array comp ty) (hf : fits ty v = true) (hd : v.isDefault = true) (hl : ¬ len > e.platform.arrayLengthLimit) (hh : ¬ len * componentBytes ty > e.platform.maxHeapBytes) (h1 : s.heap.size < e.platform.maxCells) (h2 : s.slotsUsed + len ≤ e.platform.maxSlots) (h : Q s.heap.size d acts (s.pushCell { cls := c, slots := Array.replicate len v, vm := .none })) : wp (Jvm.newArray c len v) Q E e d acts s := by
  have hfit : ∀ (i : Nat) (x : Value), (Array.replicate len v)[i]? = some x → s.fitsSlot c .none i x = true := by
    intro i x hx
    rw [Array.getElem?_replicate] at hx
    split at hx
    · cases hx; simp [State.fitsSlot, State.slotType?, hk, hkind, hf]
    · cases hx
  have hact : allocActs (Array.replicate len v) s.heap.size acts = acts := by
    unfold allocActs
    rw [if_pos (by rw [Array.all_replicate]; split <;> simp [hd])]
  have hm : ¬ len > e.platform.maxSlots := by omega
  simp only [Jvm.newArray, Jvm.arrayFits, wp_bind', Jvm.W.ask, Jvm.W.ite, hl, if_false, wp_pure', Jvm.W.theClass, hk, Option.some.injEq, exists_eq_left', hkind, hh, hm, Jvm.W.alloc, Array.size_replicate, hact]
  exact ⟨h1, h2, hfit, h⟩
theorem mu_mk1 {Q : Addr → Pre} {cI cc : ClassId} {kI : Class} {k : Int32} (hk : s.vm.classes[cI]? = some kI) (hkind : kI.kind = .array cc .int) (hn : ¬ k < 0) (hl : ¬ k.toNatClampNeg > e.platform.arrayLengthLimit) (hh : ¬ k.toNatClampNeg * 4 > e.platform.maxHeapBytes) (h1 : s.heap.size < e.platform.maxCells) (h2 : s.slotsUsed + k.toNatClampNeg ≤ e.platform.maxSlots) (h : Q s.heap.size d acts (s.pushCell (mu_i cI k.toNatClampNeg))) : wp (Jvm.Op.multianewarray.make cI [k]) Q E e d acts s := by
  rw [Jvm.Op.multianewarray.make]
  simp only [wp_bind', Jvm.W.ite, hn, if_false, wp_pure', Jvm.W.theClass, hk, Option.some.injEq, exists_eq_left', hkind]
  refine mu_new hk hkind rfl rfl hl hh h1 h2 ?_
  have e0 : ({ cls := cI, slots := Array.replicate k.toNatClampNeg (defaultValue .int), vm := .none } : Cell) = mu_i cI k.toNatClampNeg := arrV_new cI k.toNatClampNeg (.int 0)
  rw [e0]; exact h
theorem mu_mk2 {Q : Addr → Pre} {cA cI cc : ClassId} {kA kI : Class} {n k : Int32} (hkA : s.vm.classes[cA]? = some kA) (hkindA : kA.kind = .array cI (.array .int)) (hkI : s.vm.classes[cI]? = some kI) (hkindI : kI.kind = .array cc .int) (hn : ¬ n < 0) (hk : ¬ k < 0) (hl : ¬ n.toNatClampNeg > e.platform.arrayLengthLimit) (hh : ¬ n.toNatClampNeg * 4 > e.platform.maxHeapBytes) (hl2 : ¬ k.toNatClampNeg > e.platform.arrayLengthLimit) (hh2 : ¬ k.toNatClampNeg * 4 > e.platform.maxHeapBytes) (h1 : s.heap.size + (1 + n.toNatClampNeg) ≤ e.platform.maxCells) (h2 : s.slotsUsed + (n.toNatClampNeg + n.toNatClampNeg * k.toNatClampNeg) ≤ e.platform.maxSlots) (h : ∀ (d' : Bool) (acts' : List Action), Q s.heap.size d' acts' (mu_S s cA cI n.toNatClampNeg k.toNatClampNeg n.toNatClampNeg)) : wp (Jvm.Op.multianewarray.make cA [n, k]) Q E e d acts s := by
  rw [Jvm.Op.multianewarray.make]
  simp only [wp_bind', Jvm.W.ite, hn, if_false, wp_pure', Jvm.W.theClass, hkA, Option.some.injEq, exists_eq_left', hkindA]
  refine mu_new hkA hkindA rfl rfl hl hh (by omega) (by omega) ?_
  rw [mu_o0 cA n.toNatClampNeg s.heap.size]
  have hfd : [k].find? (fun x => decide (x < 0)) = none := by simp [hk]
  simp only [hfd, wp_pure', ite_self]
  rw [wp_bind', Std.Legacy.Range.forIn_eq_forIn_range']
  have hsz : ([:n.toNatClampNeg] : Std.Legacy.Range).size = n.toNatClampNeg := by simp [Std.Legacy.Range.size]
  rw [hsz]
  show wp (forIn (List.range' 0 n.toNatClampNeg 1) PUnit.unit _) _ E e d acts (mu_S s cA cI n.toNatClampNeg k.toNatClampNeg 0)
  refine wp_forIn_inv (fun rest s' => ∃ i : Nat, rest = List.range' i (n.toNatClampNeg - i) 1 ∧ i ≤ n.toNatClampNeg ∧ s' = mu_S s cA cI n.toNatClampNeg k.toNatClampNeg i) _ _ ⟨0, rfl, Nat.zero_le _, rfl⟩ ?_ ?_
  · intro x rest s' d' acts' Q' hI hQ
    obtain ⟨i, hr, hi, rfl⟩ := hI
    have hlt : i < n.toNatClampNeg := by
      refine Nat.lt_of_le_of_ne hi fun q => ?_
      rw [q, Nat.sub_self] at hr
      cases hr
    obtain ⟨j, hj⟩ : ∃ j, n.toNatClampNeg - i = j + 1 := ⟨n.toNatClampNeg - i - 1, by omega⟩
    rw [hj, List.range'_succ] at hr
    obtain ⟨rfl, rfl⟩ := List.cons.inj hr
    obtain ⟨f1, f2, f3, f4⟩ := mu_f s cA cI n.toNatClampNeg k.toNatClampNeg x
    have hm : (x + 1) * k.toNatClampNeg ≤ n.toNatClampNeg * k.toNatClampNeg := Nat.mul_le_mul_right _ hlt
    rw [Nat.succ_mul] at hm
    simp only [wp_bind']
    refine mu_mk1 (by rw [f3]; exact hkI) hkindI hk hl2 hh2 (by omega) (by omega) ?_
    have hl3 : s.heap.size < (mu_S s cA cI n.toNatClampNeg k.toNatClampNeg x).heap.size := by omega
    rw [wp_bind']
    refine (Jvm.W.writeLoc _ _ _ _).mpr ⟨mu_o cA n.toNatClampNeg s.heap.size x, (State.heap_pushCell_of_lt _ _ hl3).trans f2, (by intro z; cases z), by rw [mu_osz]; exact hlt, ?_, ?_⟩
    · show State.fitsSlot _ cA .none x _ = true
      simp [State.fitsSlot, State.slotType?, f3, hkA, hkindA, fits]
    · rw [f1, mu_os]
      simp only [wp_pure']
      exact hQ _ _ _ ⟨x + 1, by rw [show n.toNatClampNeg - (x + 1) = j by omega], hlt, rfl⟩
  · intro s' d' acts' hI
    obtain ⟨i, hr, hi, rfl⟩ := hI
    have : i = n.toNatClampNeg := by
      have hl0 := congrArg List.length hr
      rw [List.length_range'] at hl0
      have hl1 : 0 = n.toNatClampNeg - i := hl0
      omega
    subst this
    exact h d' acts'
end MULW
section MULX
variable {p : Program} {l : Launch} {e : Env} {R : Room} {s : State} {m : MethodId} {args : Array Value} {below : List Frame} {meth : Method} {c : Code} {T : State} {locs : List Loc} {cells slots : Nat}
theorem mu_X (X : Jvm.Stand p l e R s m args below meth c T locs cells slots) (cA cI : ClassId) (N K : Nat) : ∀ i : Nat, Jvm.Stand p l e R s m args below meth c (mu_S T cA cI N K i) locs (cells + 1 + i) (slots + N + i * K) := by
  intro i
  induction i with
  | zero =>
    have h := X.pushed (mu_o cA N T.heap.size 0)
    rw [mu_osz] at h
    rw [show slots + N + 0 * K = slots + N by omega]
    exact h
  | succ i ih =>
    obtain ⟨f1, f2, -, -⟩ := mu_f T cA cI N K i
    have h1 := ih.pushed (mu_i cI K)
    rw [mu_isz] at h1
    have hl : T.heap.size < (mu_S T cA cI N K i).heap.size := by omega
    have h2 := h1.stored (cell := mu_o cA N T.heap.size i) ((State.heap_pushCell_of_lt _ _ hl).trans f2) i (.ref (T.heap.size + 1 + i))
    rw [mu_os] at h2
    have h3 := h2.dropFresh (fun x hx => by rw [List.mem_singleton.mp hx]; exact X.heapGrown)
    rw [show slots + N + (i + 1) * K = slots + N + i * K + K by rw [Nat.succ_mul]; omega]
    exact h3
theorem mu_row (X : Jvm.Stand p l e R s m args below meth c T locs cells slots) (hexec : p.tables.exec = Jvm.exec) {own : String} {index : Nat} (hown : s.vm.findClass own = some m.cls) (hclink : (Cond.classLink own index ("[" ++ (FieldType.array .int).toString)).before args s = true) {cA cI cc : ClassId} {kA kI : Class} (hfA : s.vm.findClass ("[" ++ (FieldType.array .int).toString) = some cA) (hkA : s.vm.classes[cA]? = some kA) (hkindA : kA.kind = .array cI (.array .int)) (hkI : s.vm.classes[cI]? = some kI) (hkindI : kI.kind = .array cc .int) {g : JFrame} (hg : g.method = m) (hdg : decode c.code g.pc = .ok (.multianewarray index 2, 4)) {n k : Int32} {rest : List Value} (hstack : g.stack = .int k :: .int n :: rest) (hn : ¬ n < 0) (hk : ¬ k < 0) (hn1 : n.toNatClampNeg ≤ 1000) (hk1 : k.toNatClampNeg ≤ 1000) (hcells : cells + (1 + n.toNatClampNeg) ≤ R.cells) (hslots : slots + (n.toNatClampNeg + n.toNatClampNeg * k.toNatClampNeg) ≤ R.slots) : ∃ vm₁ : Vm, Jvm.Stand p l e R s m args below meth c (mu_S (T.setVm vm₁) cA cI n.toNatClampNeg k.toNatClampNeg n.toNatClampNeg) locs (cells + 1 + n.toNatClampNeg) (slots + n.toNatClampNeg + n.toNatClampNeg * k.toNatClampNeg) ∧ ∀ target, Steps p.tables e below ((mu_S (T.setVm vm₁) cA cI n.toNatClampNeg k.toNatClampNeg n.toNatClampNeg).setTop { g with pc := g.pc + 4, stack := .ref T.heap.size :: rest }) target → Steps p.tables e below (T.setTop g) target := by
  subst hg
  have hpl : e.platform.magicAccessors = ({} : Platform).magicAccessors := by rw [X.admits.platform]
  obtain ⟨c2, hfc, hcl⟩ := Cond.classLink_spec hown hclink e.platform hpl
  cases hfA.symm.trans hfc
  obtain ⟨hgv, hwarm, hready⟩ := State.classEntry (e := e) X.warmed hcl
  generalize T.vm.noted g.method.cls index (.cls cA) = vm₁ at hgv hwarm hready
  obtain ⟨kA1, hkA1, heA⟩ := hwarm.alike.2.2 _ _ hkA
  obtain ⟨kI1, hkI1, heI⟩ := hwarm.alike.2.2 _ _ hkI
  have hkindA1 : kA1.kind = .array cI (.array .int) := by rw [heA]; exact hkindA
  have hkindI1 : kI1.kind = .array cc .int := by rw [heI]; exact hkindI
  obtain ⟨r1, r2⟩ := X.roomAbove hcells hslots
  have hlim : e.platform.arrayLengthLimit = 2147483645 := Launch.admits_arrayLengthLimit X.admits
  have hheap : e.platform.maxHeapBytes = 536870912 := Launch.admits_maxHeapBytes X.admits
  refine ⟨vm₁, mu_X (X.noted hwarm) cA cI n.toNatClampNeg k.toNatClampNeg n.toNatClampNeg, fun target ht => ?_⟩
  refine Steps.instr (c := c) X.here ?_
  rw [hdg]
  show wpRun (p.tables.exec (.multianewarray index 2)) _ _ e (T.setTop g)
  rw [hexec]
  show wp (Jvm.Op.multianewarray.sem index 2) _ _ e false [] (T.setTop g)
  simp only [Jvm.Op.multianewarray.sem, wp_bind']
  rw [Jvm.W.resolveClassAt_transfer (s := T.setTop g) (State.method?_setTop g X.here.top) hgv hready]
  show wp (Jvm.resolveClassAt index) _ _ e false [] ((T.setVm vm₁).setTop g)
  rw [Jvm.W.resolveClassAt_ready (s := (T.setVm vm₁).setTop g) (State.method?_setTop g X.here.top) hready]
  rw [wp_bind']
  refine (Jvm.Op.popN_top (s := T.setVm vm₁) (f := g) (args := [.int n, .int k]) (rest := rest) X.here.top hstack).mpr ?_
  simp only [List.mapM_cons, List.mapM_nil, wp_bind', wp_pure']
  refine mu_mk2 (s := (T.setVm vm₁).setTop { g with stack := rest }) hkA1 hkindA1 hkI1 hkindI1 hn hk (by omega) (by omega) (by omega) (by omega) r1 r2 fun d' acts' => ?_
  rw [mu_St]
  refine ⟨{ g with stack := rest }, State.topJava?_setTop' _ (mu_X (X.noted hwarm) cA cI n.toNatClampNeg k.toNatClampNeg n.toNatClampNeg).here.top, ?_⟩
  intro acts2
  rw [State.setTop_setTop, afterInstr_ok]
  exact ht
end MULX
