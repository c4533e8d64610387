/-! THE PURE MACHINE: what the bytecode does, over a memory that is three functions (ints, longs, references, by cell and place). A cell is told by its number in the order of making; the machine holds cell a at the address B + a. -/
abbrev gM : Type := (Nat → Nat → Int32) × (Nat → Nat → Int64) × (Nat → Nat → Option Nat)
/-- what a cell is: an object of class number c, or an array of type number t and length n -/
abbrev gK : Type := Nat ⊕ (Nat × Nat)
/-- the cells made so far, and what they hold -/
abbrev gW : Type := List gK × gM
abbrev gL : Type := List (Nat × Value)
def gupI (f : Nat → Nat → Int32) (a k : Nat) (x : Int32) : Nat → Nat → Int32 := va_up f a (upd (f a) k x)
def gupL (f : Nat → Nat → Int64) (a k : Nat) (x : Int64) : Nat → Nat → Int64 := va_up f a (vp_updL (f a) k x)
def gupR (f : Nat → Nat → Option Nat) (a k : Nat) (x : Option Nat) : Nat → Nat → Option Nat := va_up f a (va_up (f a) k x)
def glk : gL → Nat → Option Value
  | [], _ => none
  | (j, v) :: l, i => match Nat.beq j i with
    | true => some v
    | false => glk l i
def gst1 (L : gL) (i : Nat) (v : Value) : gL := (i, v) :: L.filter (fun q => !(q.1 == i) && !(q.1 + 1 == i && q.2.category == 2))
def gst2 (L : gL) (i : Nat) (v : Value) : gL := (i, v) :: L.filter (fun q => !(q.1 == i) && (!(q.1 == i + 1) && !(q.1 + 1 == i && q.2.category == 2)))
def gpI (st : List Value) (f : Int32 → List Value → Prop) : Prop := match st with
  | .int x :: r => f x r
  | _ => False
def gpJ (st : List Value) (f : Int64 → List Value → Prop) : Prop := match st with
  | .long x :: r => f x r
  | _ => False
def gpR (st : List Value) (f : Nat → List Value → Prop) : Prop := match st with
  | .ref a :: r => f a r
  | _ => False
def gpQ (st : List Value) (f : Option Nat → List Value → Prop) : Prop := match st with
  | .ref a :: r => f (some a) r
  | .null :: r => f none r
  | _ => False
/-- a value of one place on the stack -/
def gpV (st : List Value) (f : Value → List Value → Prop) : Prop := match st with
  | .int x :: r => f (.int x) r
  | .ref x :: r => f (.ref x) r
  | .null :: r => f .null r
  | _ => False
def gob (w : gW) (a : Nat) : Option Nat := match w.1[a]? with
  | some (.inl c) => some c
  | _ => none
def gar (w : gW) (a : Nat) : Option Nat := match w.1[a]? with
  | some (.inr q) => some q.1
  | _ => none
def gln (w : gW) (a : Nat) : Nat := match w.1[a]? with
  | some (.inr q) => q.2
  | _ => 0
def gpop : Nat → List Value → List Value → (List Value → List Value → Prop) → Prop
  | 0, acc, st, f => f acc st
  | n + 1, acc, v :: st, f => gpop n (v :: acc) st f
  | _ + 1, _, [], _ => False
def gsw (x : Int32) (d : Nat) (go : Nat → Prop) : List (Int32 × Nat) → Prop
  | [] => go d
  | q :: r => (x = q.1 → go q.2) ∧ (¬ x = q.1 → gsw x d go r)
/-- what field k of the object a of class number ci holds -/
def gval (w : gW) (a ci k : Nat) : Value := match g_fk ci k with
  | 1 => .long (w.2.2.1 a k)
  | 2 => va_rf (w.2.2.2 a k)
  | _ => .int (w.2.1 a k)
def gcat (st : List Value) : Nat := (st.map fun v => v.category).sum
/-- a call's numbers fit: what lies below on the stack, the cells and places that the callee may make -/
def gfit (y y2 : Nat) (cu : Nat × Nat) (As rest : List Value) : Bool := Nat.ble (gcat rest) 8 && (Nat.ble (gcat As) (g_mL y2) && (Nat.ble (cu.1 + g_mc y2) (g_mc y) && Nat.ble (cu.2 + g_ms y2) (g_ms y)))
/-- the same, for calls of instance methods -/
def gfit1 (y y2 : Nat) (cu : Nat × Nat) (As rest : List Value) : Bool := Nat.ble (gcat rest + g_mL y2) 31 && (Nat.ble (gcat As) (g_mL y2) && (Nat.ble (cu.1 + g_mc y2) (g_mc y) && Nat.ble (cu.2 + g_ms y2) (g_ms y)))
abbrev gGo : Type := Nat → gL → List Value → Nat × Nat → gW → Prop
abbrev gCall : Type := Nat → List Value → gW → (Option Value → gW → Prop) → Prop
/-- a new cell: nothing but zeros and nulls in it -/
def gnew (w : gW) (kd : gK) : gW := (w.1 ++ [kd], va_up w.2.1 w.1.length (fun _ => 0), va_up w.2.2.1 w.1.length (fun _ => 0), va_up w.2.2.2 w.1.length (fun _ => none))
/-- whether a cell more, of n places, fits -/
def groom (y : Nat) (cu : Nat × Nat) (w : gW) (n : Nat) : Bool := Nat.ble (w.1.length + 1) 1000000 && (Nat.ble (cu.1 + 1) (g_mc y) && Nat.ble (cu.2 + n) (g_ms y))
/-- new int[N][K]: the outer row, then the inner ones -/
def gmul (w : gW) (N K : Nat) : gW := (w.1 ++ .inr (4, N) :: List.replicate N (.inr (0, K)), (fun a => if w.1.length ≤ a ∧ a ≤ w.1.length + N then fun _ => 0 else w.2.1 a), (fun a => if w.1.length ≤ a ∧ a ≤ w.1.length + N then fun _ => 0 else w.2.2.1 a), (fun a => if w.1.length ≤ a ∧ a ≤ w.1.length + N then (if a = w.1.length then fun j => if j < N then some (w.1.length + 1 + j) else none else fun _ => none) else w.2.2.2 a))
def gcall (dd y pc : Nat) (L : gL) (st : List Value) (cu : Nat × Nat) (w : gW) (go : gGo) (call : gCall) (y2 mode : Nat) : Prop :=
  match mode with
  | 0 => gpop (g_na y2) [] st fun As r => gfit y y2 cu As r = true ∧ call y2 As w (fun v w' => go (pc + 3) L (v.toList ++ r) (cu.1 + g_mc y2, cu.2 + g_ms y2) w')
  | 10 => gpop (g_na y2) [] st fun As r => gfit y y2 cu As r = true ∧ call y2 As w (fun v w' => go (pc + 3) L (v.toList ++ r) (cu.1 + g_mc y2, cu.2 + g_ms y2) w')
  | 1 => gpop (g_na y2) [] st fun As r => gpR As fun a _ => gob w a = some (g_own y2) ∧ gfit1 y y2 cu As r = true ∧ call y2 As w (fun v w' => go (pc + 3) L (v.toList ++ r) (cu.1 + g_mc y2, cu.2 + g_ms y2) w')
  | 2 => gpop (g_na y2) [] st fun As r => gpR As fun _ _ => gfit y y2 cu As r = true ∧ call y2 As w (fun v w' => go (pc + 3) L (v.toList ++ r) (cu.1 + g_mc y2, cu.2 + g_ms y2) w')
  | 12 => gpop (g_na y2) [] st fun As r => gpR As fun _ _ => gfit y y2 cu As r = true ∧ call y2 As w (fun v w' => go (pc + 3) L (v.toList ++ r) (cu.1 + g_mc y2, cu.2 + g_ms y2) w')
  | 20 => gpR st fun _ r => Nat.ble (gcat r) 8 = true ∧ go (pc + 3) L r cu w
  | 21 => gpI st fun n r => gpI r fun dp r => gpR r fun a1 r => gpI r fun sp r => gpR r fun a0 r =>
      Nat.ble (gcat r) 8 = true ∧ gar w a0 = some 0 ∧ gar w a1 = some 0 ∧ (¬ sp < 0 ∧ ¬ dp < 0 ∧ ¬ n < 0 ∧ sp.toNatClampNeg + n.toNatClampNeg ≤ gln w a0 ∧ dp.toNatClampNeg + n.toNatClampNeg ≤ gln w a1) ∧
      go (pc + 3) L r cu (w.1, va_up w.2.1 a1 (va_cpy (w.2.1 a0) (w.2.1 a1) sp.toNatClampNeg dp.toNatClampNeg n.toNatClampNeg), w.2.2)
  | 22 => gpR st fun a r => Nat.ble 3 dd = true ∧ Nat.ble (gcat r) 8 = true ∧ 1000000 ≤ a ∧ a < 1000000 + g_strs.length ∧ go (pc + 3) L (.int (nI (g_str (a - 1000000)).length) :: r) cu w
  | 23 => gpI st fun i r => gpR r fun a r => Nat.ble 3 dd = true ∧ Nat.ble (gcat r) 8 = true ∧ 1000000 ≤ a ∧ a < 1000000 + g_strs.length ∧ vp_in i (g_str (a - 1000000)).length ∧ go (pc + 3) L (.int ((g_str (a - 1000000)).getD i.toNatClampNeg 0) :: r) cu w
  | _ => False
def gputf (y pc : Nat) (L : gL) (st : List Value) (cu : Nat × Nat) (w : gW) (go : gGo) (ci k : Nat) : Prop :=
  match g_fk ci k with
  | 0 => gpI st fun x r => gpR r fun a r => gob w a = some ci ∧ go (pc + 3) L r cu (w.1, gupI w.2.1 a k x, w.2.2)
  | 1 => gpJ st fun x r => gpR r fun a r => gob w a = some ci ∧ go (pc + 3) L r cu (w.1, w.2.1, gupL w.2.2.1 a k x, w.2.2.2)
  | 2 => gpQ st fun x r => gpR r fun a r => gob w a = some ci ∧ go (pc + 3) L r cu (w.1, w.2.1, w.2.2.1, gupR w.2.2.2 a k x)
  | 3 => gpI st fun x r => gpR r fun a r => gob w a = some ci ∧ (x = 0 ∨ x = 1) ∧ go (pc + 3) L r cu (w.1, gupI w.2.1 a k x, w.2.2)
  | _ => False
def gret (y : Nat) (st : List Value) (w : gW) (ret : Option Value → gW → Prop) : Prop :=
  match g_rt y with
  | some .int => match st with
    | [.int x] => ret (some (.int x)) w
    | _ => False
  | some .boolean => match st with
    | [.int x] => (x = 0 ∨ x = 1) ∧ ret (some (.int x)) w
    | _ => False
  | _ => False
/-- an instruction: what must hold, and where it goes on -/
def gstep (dd : Nat) (q : gI) (y pc : Nat) (L : gL) (st : List Value) (cu : Nat × Nat) (w : gW) (go : gGo) (call : gCall) (ret : Option Value → gW → Prop) : Prop :=
  match q with
  | (i, _, a, b, _, kv, kl, tab) => match i with
    | .iconst _ => go (pc + 1) L (.int kv :: st) cu w
    | .bipush _ => go (pc + 2) L (.int kv :: st) cu w
    | .sipush _ => go (pc + 3) L (.int kv :: st) cu w
    | .lconst _ => go (pc + 1) L (.long kl :: st) cu w
    | .ldc _ => go (pc + 2) L (.ref (1000000 + a) :: st) cu w
    | .ldc_w _ => go (pc + 3) L (.int kv :: st) cu w
    | .ldc2_w _ => go (pc + 3) L (.long kl :: st) cu w
    | .iload_n _ => gpI (glk L a).toList fun x _ => go (pc + 1) L (.int x :: st) cu w
    | .iload _ => gpI (glk L a).toList fun x _ => go (pc + 2) L (.int x :: st) cu w
    | .lload_n _ => gpJ (glk L a).toList fun x _ => go (pc + 1) L (.long x :: st) cu w
    | .lload _ => gpJ (glk L a).toList fun x _ => go (pc + 2) L (.long x :: st) cu w
    | .aload_n _ => gpR (glk L a).toList fun x _ => go (pc + 1) L (.ref x :: st) cu w
    | .aload _ => gpR (glk L a).toList fun x _ => go (pc + 2) L (.ref x :: st) cu w
    | .istore_n _ => gpI st fun x r => go (pc + 1) (gst1 L a (.int x)) r cu w
    | .istore _ => gpI st fun x r => go (pc + 2) (gst1 L a (.int x)) r cu w
    | .lstore_n _ => gpJ st fun x r => go (pc + 1) (gst2 L a (.long x)) r cu w
    | .lstore _ => gpJ st fun x r => go (pc + 2) (gst2 L a (.long x)) r cu w
    | .astore_n _ => gpR st fun x r => go (pc + 1) (gst1 L a (.ref x)) r cu w
    | .astore _ => gpR st fun x r => go (pc + 2) (gst1 L a (.ref x)) r cu w
    | .iinc _ _ => gpI (glk L a).toList fun x _ => go (pc + 3) (gst1 L a (.int (x + kv))) st cu w
    | .iadd => gpI st fun y r => gpI r fun x r => go (pc + 1) L (.int (x + y) :: r) cu w
    | .isub => gpI st fun y r => gpI r fun x r => go (pc + 1) L (.int (x - y) :: r) cu w
    | .imul => gpI st fun y r => gpI r fun x r => go (pc + 1) L (.int (x * y) :: r) cu w
    | .idiv => gpI st fun y r => gpI r fun x r => ¬ y = 0 ∧ go (pc + 1) L (.int (x / y) :: r) cu w
    | .irem => gpI st fun y r => gpI r fun x r => ¬ y = 0 ∧ go (pc + 1) L (.int (x - x / y * y) :: r) cu w
    | .iand => gpI st fun y r => gpI r fun x r => go (pc + 1) L (.int (x &&& y) :: r) cu w
    | .ior => gpI st fun y r => gpI r fun x r => go (pc + 1) L (.int (x ||| y) :: r) cu w
    | .ishl => gpI st fun y r => gpI r fun x r => go (pc + 1) L (.int (x <<< (y &&& 31)) :: r) cu w
    | .ishr => gpI st fun y r => gpI r fun x r => go (pc + 1) L (.int (x >>> (y &&& 31)) :: r) cu w
    | .ladd => gpJ st fun y r => gpJ r fun x r => go (pc + 1) L (.long (x + y) :: r) cu w
    | .lsub => gpJ st fun y r => gpJ r fun x r => go (pc + 1) L (.long (x - y) :: r) cu w
    | .land => gpJ st fun y r => gpJ r fun x r => go (pc + 1) L (.long (x &&& y) :: r) cu w
    | .lor => gpJ st fun y r => gpJ r fun x r => go (pc + 1) L (.long (x ||| y) :: r) cu w
    | .lshl => gpI st fun y r => gpJ r fun x r => go (pc + 1) L (.long (x <<< (y.toInt64 &&& 63)) :: r) cu w
    | .lshr => gpI st fun y r => gpJ r fun x r => go (pc + 1) L (.long (x >>> (y.toInt64 &&& 63)) :: r) cu w
    | .i2l => gpI st fun x r => go (pc + 1) L (.long x.toInt64 :: r) cu w
    | .l2i => gpJ st fun x r => go (pc + 1) L (.int x.toInt32 :: r) cu w
    | .i2b => gpI st fun x r => go (pc + 1) L (.int x.toInt8.toInt32 :: r) cu w
    | .lcmp => gpJ st fun y r => gpJ r fun x r => go (pc + 1) L (.int (lg_cmp x y) :: r) cu w
    | .dup => gpV st fun v r => go (pc + 1) L (v :: v :: r) cu w
    | .pop => gpV st fun _ r => go (pc + 1) L r cu w
    | .dup2 => gpV st fun v r => gpV r fun u r => go (pc + 1) L (v :: u :: v :: u :: r) cu w
    | .ifCond .eq _ => gpI st fun x r => (x = 0 → go a L r cu w) ∧ (¬ x = 0 → go (pc + 3) L r cu w)
    | .ifCond .ne _ => gpI st fun x r => (¬ x = 0 → go a L r cu w) ∧ (x = 0 → go (pc + 3) L r cu w)
    | .ifCond .lt _ => gpI st fun x r => (x < 0 → go a L r cu w) ∧ (¬ x < 0 → go (pc + 3) L r cu w)
    | .ifCond .ge _ => gpI st fun x r => (0 ≤ x → go a L r cu w) ∧ (¬ 0 ≤ x → go (pc + 3) L r cu w)
    | .ifCond .gt _ => gpI st fun x r => (0 < x → go a L r cu w) ∧ (¬ 0 < x → go (pc + 3) L r cu w)
    | .ifCond .le _ => gpI st fun x r => (x ≤ 0 → go a L r cu w) ∧ (¬ x ≤ 0 → go (pc + 3) L r cu w)
    | .if_icmp .eq _ => gpI st fun y r => gpI r fun x r => (x = y → go a L r cu w) ∧ (¬ x = y → go (pc + 3) L r cu w)
    | .if_icmp .ne _ => gpI st fun y r => gpI r fun x r => (¬ x = y → go a L r cu w) ∧ (x = y → go (pc + 3) L r cu w)
    | .if_icmp .lt _ => gpI st fun y r => gpI r fun x r => (x < y → go a L r cu w) ∧ (¬ x < y → go (pc + 3) L r cu w)
    | .if_icmp .ge _ => gpI st fun y r => gpI r fun x r => (y ≤ x → go a L r cu w) ∧ (¬ y ≤ x → go (pc + 3) L r cu w)
    | .if_icmp .gt _ => gpI st fun y r => gpI r fun x r => (y < x → go a L r cu w) ∧ (¬ y < x → go (pc + 3) L r cu w)
    | .if_icmp .le _ => gpI st fun y r => gpI r fun x r => (x ≤ y → go a L r cu w) ∧ (¬ x ≤ y → go (pc + 3) L r cu w)
    | .goto _ => go a L st cu w
    | .tableswitch _ _ _ _ => gpI st fun x r => gsw x a (fun t => go t L r cu w) tab
    | .lookupswitch _ _ => gpI st fun x r => gsw x a (fun t => go t L r cu w) tab
    | .getfield _ => gpR st fun o r => gob w o = some a ∧ go (pc + 3) L (gval w o a b :: r) cu w
    | .putfield _ => gputf y pc L st cu w go a b
    | .iaload => match y with
      | 0 => gpI st fun j r => gpR r fun o r => o = 2000000 ∧ vp_in j (w.2.1 2000001 0).toNatClampNeg ∧ go (pc + 1) L (.int (w.2.1 2000000 j.toNatClampNeg) :: r) cu w
      | _ => gpI st fun j r => gpR r fun o r => gar w o = some 0 ∧ vp_in j (gln w o) ∧ go (pc + 1) L (.int (w.2.1 o j.toNatClampNeg) :: r) cu w
    | .baload => gpI st fun j r => gpR r fun o r => (gar w o = some 2 ∨ gar w o = some 3) ∧ vp_in j (gln w o) ∧ go (pc + 1) L (.int (w.2.1 o j.toNatClampNeg) :: r) cu w
    | .laload => gpI st fun j r => gpR r fun o r => gar w o = some 1 ∧ vp_in j (gln w o) ∧ go (pc + 1) L (.long (w.2.2.1 o j.toNatClampNeg) :: r) cu w
    | .aaload => gpI st fun j r => gpR r fun o r => (Nat.ble 4 ((gar w o).getD 0) && Nat.ble ((gar w o).getD 0) 7) = true ∧ vp_in j (gln w o) ∧ go (pc + 1) L (va_rf (w.2.2.2 o j.toNatClampNeg) :: r) cu w
    | .iastore => gpI st fun x r => gpI r fun j r => gpR r fun o r => gar w o = some 0 ∧ vp_in j (gln w o) ∧ go (pc + 1) L r cu (w.1, gupI w.2.1 o j.toNatClampNeg x, w.2.2)
    | .bastore => gpI st fun x r => gpI r fun j r => gpR r fun o r => (gar w o = some 2 ∨ gar w o = some 3) ∧ vp_in j (gln w o) ∧ ((gar w o = some 2 ∧ x.toInt8.toInt32 = x) ∨ (gar w o = some 3 ∧ (x = 0 ∨ x = 1))) ∧ go (pc + 1) L r cu (w.1, gupI w.2.1 o j.toNatClampNeg x, w.2.2)
    | .lastore => gpJ st fun x r => gpI r fun j r => gpR r fun o r => gar w o = some 1 ∧ vp_in j (gln w o) ∧ go (pc + 1) L r cu (w.1, w.2.1, gupL w.2.2.1 o j.toNatClampNeg x, w.2.2.2)
    | .aastore => gpR st fun x r => gpI r fun j r => gpR r fun o r => (∃ t ci, gar w o = some t ∧ gob w x = some ci ∧ g_ac t = some ci) ∧ vp_in j (gln w o) ∧ go (pc + 1) L r cu (w.1, w.2.1, w.2.2.1, gupR w.2.2.2 o j.toNatClampNeg (some x))
    | .arraylength => match y with
      | 0 => gpR st fun o r => o = 2000000 ∧ go (pc + 1) L (.int (w.2.1 2000001 0) :: r) cu w
      | _ => gpR st fun o r => Nat.ble ((gar w o).getD 8) 7 = true ∧ go (pc + 1) L (.int (nI (gln w o)) :: r) cu w
    | .new _ => groom y cu w (g_C a).2.2 = true ∧ go (pc + 3) L (.ref w.1.length :: st) (cu.1 + 1, cu.2 + (g_C a).2.2) (gnew w (.inl a))
    | .newarray _ => gpI st fun n r => (¬ n < 0 ∧ n.toNatClampNeg ≤ 1000) ∧ groom y cu w n.toNatClampNeg = true ∧ go (pc + 2) L (.ref w.1.length :: r) (cu.1 + 1, cu.2 + n.toNatClampNeg) (gnew w (.inr (a, n.toNatClampNeg)))
    | .anewarray _ => gpI st fun n r => (¬ n < 0 ∧ n.toNatClampNeg ≤ 1000) ∧ groom y cu w n.toNatClampNeg = true ∧ go (pc + 3) L (.ref w.1.length :: r) (cu.1 + 1, cu.2 + n.toNatClampNeg) (gnew w (.inr (a, n.toNatClampNeg)))
    | .multianewarray _ _ => gpI st fun k r => gpI r fun n r => (¬ n < 0 ∧ n.toNatClampNeg ≤ 1000 ∧ ¬ k < 0 ∧ k.toNatClampNeg ≤ 1000) ∧ (Nat.ble (w.1.length + 1 + n.toNatClampNeg) 1000000 && (Nat.ble (cu.1 + (1 + n.toNatClampNeg)) (g_mc y) && Nat.ble (cu.2 + (n.toNatClampNeg + n.toNatClampNeg * k.toNatClampNeg)) (g_ms y))) = true ∧ go (pc + 4) L (.ref w.1.length :: r) (cu.1 + (1 + n.toNatClampNeg), cu.2 + (n.toNatClampNeg + n.toNatClampNeg * k.toNatClampNeg)) (gmul w n.toNatClampNeg k.toNatClampNeg)
    | .invokevirtual _ => gcall dd y pc L st cu w go call a b
    | .invokespecial _ => gcall dd y pc L st cu w go call a b
    | .invokestatic _ => gcall dd y pc L st cu w go call a b
    | .ireturn => gret y st w ret
    | .lreturn => match st with
      | [.long x] => g_rt y = some .long ∧ ret (some (.long x)) w
      | _ => False
    | .areturn => match st with
      | [.ref x] => (∃ n, g_rt y = some (.object n)) ∧ ret (some (.ref x)) w
      | _ => False
    | .return_ => match st with
      | [] => g_rt y = none ∧ ret none w
      | _ => False
    | _ => False
abbrev gSt : Type := Nat → Nat → Nat → gL → List Value → Nat × Nat → gW → (Option Value → gW → Prop) → Prop
/-- one instruction: P goes on behind it, C is what is known of the methods that it calls -/
def gF (P C : gSt) : gSt := fun d y pc L st cu w Q => match g_ins y pc with
  | none => False
  | some q => gstep d q y pc L st cu w (fun pc' L' st' cu' w' => P d y pc' L' st' cu' w' Q)
      (fun y2 As w' Q' => match d with
        | 0 => False
        | d' + 1 => C d' y2 0 (lv_args 0 As) [] (0, 0) w' Q') Q
def gMono (P : gSt) : Prop := ∀ d y pc L st cu w Q Q', (∀ r u, Q r u → Q' r u) → P d y pc L st cu w Q → P d y pc L st cu w Q'
/-- from here (d frames at most below), the method y comes to its end with Q: the least that is closed under the steps -/
def gT : gSt := fun d y pc L st cu w Q => ∀ P : gSt, gMono P → (∀ d y pc L st cu w Q, gF P P d y pc L st cu w Q → P d y pc L st cu w Q) → P d y pc L st cu w Q
/-- n instructions of one method, then gT -/
def gX : Nat → gSt
  | 0 => gT
  | n + 1 => gF (gX n) gT
/-- a method, from its entry -/
def gTM (d y : Nat) (As : List Value) (w : gW) (Q : Option Value → gW → Prop) : Prop := gT d y 0 (lv_args 0 As) [] (0, 0) w Q
