/-! the constructors' memory, written down -/
def denI (b : Nat → Nat → Int32) : List (Nat × Nat × Int32) → Nat → Nat → Int32
  | [] => b
  | e :: l => gupI (denI b l) e.1 e.2.1 e.2.2
def denJ : List (Nat × Nat × Int64) → Nat → Nat → Int64
  | [] => fun _ _ => 0
  | e :: l => gupL (denJ l) e.1 e.2.1 e.2.2
def denR : List (Nat × Nat × Option Nat) → Nat → Nat → Option Nat
  | [] => fun _ _ => none
  | e :: l => gupR (denR l) e.1 e.2.1 e.2.2
def gD (b : Nat → Nat → Int32) (n : Nat) (li : List (Nat × Nat × Int32)) (lj : List (Nat × Nat × Int64)) (lr : List (Nat × Nat × Option Nat)) : gW := (SH.take n, denI b li, denJ lj, denR lr)
def ltA {α : Type} (n : Nat) (l : List (Nat × Nat × α)) : Bool := l.all (fun e => Nat.ble (e.1 + 1) n)
theorem ltA_c {α : Type} {n : Nat} {e : Nat × Nat × α} {l : List (Nat × Nat × α)} (h : ltA n (e :: l) = true) : e.1 < n ∧ ltA n l = true := by
  unfold ltA at h ⊢
  rw [List.all_cons, Bool.and_eq_true] at h
  exact ⟨Nat.le_of_ble_eq_true h.1, h.2⟩
theorem va_up_n {α : Type} {f : Nat → α} {a b : Nat} {x : α} (h : ¬ b = a) : va_up f a x b = f b := by
  unfold va_up; rw [if_neg h]
theorem denI_n {b : Nat → Nat → Int32} {n m : Nat} (hm : n ≤ m) : ∀ {l}, ltA n l = true → denI b l m = b m
  | [], _ => rfl
  | e :: l, h => by
    obtain ⟨h1, h2⟩ := ltA_c h
    show va_up (denI b l) e.1 _ m = _
    rw [va_up_n (by omega)]
    exact denI_n hm h2
theorem denJ_n {n m : Nat} (hm : n ≤ m) : ∀ {l}, ltA n l = true → denJ l m = fun _ => 0
  | [], _ => rfl
  | e :: l, h => by
    obtain ⟨h1, h2⟩ := ltA_c h
    show va_up (denJ l) e.1 _ m = _
    rw [va_up_n (by omega)]
    exact denJ_n hm h2
theorem denR_n {n m : Nat} (hm : n ≤ m) : ∀ {l}, ltA n l = true → denR l m = fun _ => none
  | [], _ => rfl
  | e :: l, h => by
    obtain ⟨h1, h2⟩ := ltA_c h
    show va_up (denR l) e.1 _ m = _
    rw [va_up_n (by omega)]
    exact denR_n hm h2
theorem va_up_s {α : Type} {f : Nat → α} {a : Nat} {x : α} (h : f a = x) : va_up f a x = f := by
  funext b
  unfold va_up
  by_cases c : b = a
  · rw [if_pos c, c, h]
  · rw [if_neg c]
theorem sh_lt2 {l : List gK} {a : Nat} {q : gK} (h : l[a]? = some q) : a < l.length := by
  obtain ⟨h1, _⟩ := List.getElem?_eq_some_iff.mp h
  exact h1
theorem gD_new {b : Nat → Nat → Int32} {n : Nat} {li : List (Nat × Nat × Int32)} {lj : List (Nat × Nat × Int64)} {lr : List (Nat × Nat × Option Nat)} {kd : gK} (hb : b n = fun _ => 0) (hk : SH[n]? = some kd) (h : (ltA n li && (ltA n lj && ltA n lr)) = true) : gnew (gD b n li lj lr) kd = gD b (n + 1) li lj lr := by
  rw [Bool.and_eq_true, Bool.and_eq_true] at h
  obtain ⟨h1, h2, h3⟩ := h
  have hl : n < SH.length := sh_lt2 hk
  have e : (SH.take n).length = n := by rw [List.length_take]; omega
  show (SH.take n ++ [kd], va_up (denI b li) (SH.take n).length _, va_up (denJ lj) (SH.take n).length _, va_up (denR lr) (SH.take n).length _) = (SH.take (n + 1), denI b li, denJ lj, denR lr)
  rw [e, va_up_s ((denI_n (Nat.le_refl _) h1).trans hb), va_up_s (denJ_n (Nat.le_refl _) h2), va_up_s (denR_n (Nat.le_refl _) h3)]
  rw [List.take_succ, hk]; rfl
theorem gD_len {b : Nat → Nat → Int32} {n : Nat} {li : List (Nat × Nat × Int32)} {lj : List (Nat × Nat × Int64)} {lr : List (Nat × Nat × Option Nat)} {kd : gK} (hk : SH[n]? = some kd) : (gD b n li lj lr).1.length = n := by
  have hl : n < SH.length := sh_lt2 hk
  show (SH.take n).length = n
  rw [List.length_take]; omega
theorem gT_nw {d y pc n : Nat} {L : gL} {st : List Value} {cu cu' : Nat × Nat} {w : gW} {b : Nat → Nat → Int32} {Q : Option Value → gW → Prop} {kd kd' : gK} (li : List (Nat × Nat × Int32)) (lj : List (Nat × Nat × Int64)) (lr : List (Nat × Nat × Option Nat)) (e : w = gD b n li lj lr) (ek : kd' = kd) (ec : cu' = cu) (hb : b n = fun _ => 0) (hk : SH[n]? = some kd) (h : (ltA n li && (ltA n lj && ltA n lr)) = true) (g : gT d y pc L (.ref n :: st) cu (gD b (n + 1) li lj lr) Q) : gT d y pc L (.ref w.1.length :: st) cu' (gnew w kd') Q := by
  subst e ek ec
  rw [gD_len hk, gD_new hb hk h]
  exact g
theorem gD_mul {b : Nat → Nat → Int32} {n : Nat} {li : List (Nat × Nat × Int32)} {lj : List (Nat × Nat × Int64)} {lr : List (Nat × Nat × Option Nat)} (hb : ∀ m, m < 1000 → b m = fun _ => 0) (hn : n < 900) (hk : SH.take (n + 5) = SH.take n ++ [.inr (4, 4), .inr (0, 3), .inr (0, 3), .inr (0, 3), .inr (0, 3)]) (hl : (SH.take n).length = n) (h : (ltA n li && (ltA n lj && ltA n lr)) = true) : gmul (gD b n li lj lr) 4 3 = gD b (n + 5) li lj ((n, 3, some (n + 4)) :: (n, 2, some (n + 3)) :: (n, 1, some (n + 2)) :: (n, 0, some (n + 1)) :: lr) := by
  rw [Bool.and_eq_true, Bool.and_eq_true] at h
  obtain ⟨h1, h2, h3⟩ := h
  show (SH.take n ++ _, (fun a => if (SH.take n).length ≤ a ∧ a ≤ (SH.take n).length + 4 then fun _ => (0 : Int32) else denI b li a), (fun a => if (SH.take n).length ≤ a ∧ a ≤ (SH.take n).length + 4 then fun _ => (0 : Int64) else denJ lj a), (fun a => if (SH.take n).length ≤ a ∧ a ≤ (SH.take n).length + 4 then (if a = (SH.take n).length then fun j => if j < 4 then some ((SH.take n).length + 1 + j) else none else fun _ => none) else denR lr a)) = (SH.take (n + 5), denI b li, denJ lj, _)
  rw [hl, hk]
  have e1 : (fun a => if n ≤ a ∧ a ≤ n + 4 then fun _ => (0 : Int32) else denI b li a) = denI b li := by
    funext a
    by_cases c : n ≤ a ∧ a ≤ n + 4
    · rw [if_pos c, denI_n c.1 h1, hb a (by omega)]
    · rw [if_neg c]
  have e2 : (fun a => if n ≤ a ∧ a ≤ n + 4 then fun _ => (0 : Int64) else denJ lj a) = denJ lj := by
    funext a
    by_cases c : n ≤ a ∧ a ≤ n + 4
    · rw [if_pos c, denJ_n c.1 h2]
    · rw [if_neg c]
  have e3 : (fun a => if n ≤ a ∧ a ≤ n + 4 then (if a = n then fun j => if j < 4 then some (n + 1 + j) else none else fun _ => none) else denR lr a) = denR ((n, 3, some (n + 4)) :: (n, 2, some (n + 3)) :: (n, 1, some (n + 2)) :: (n, 0, some (n + 1)) :: lr) := by
    funext a j
    by_cases c : a = n
    · subst c
      rw [if_pos ⟨Nat.le_refl _, by omega⟩, if_pos rfl]
      have en := denR_n (Nat.le_refl a) h3
      simp only [denR, gupR, va_up, if_pos, en]
      by_cases j3 : j = 3
      · subst j3; simp
      · by_cases j2 : j = 2
        · subst j2; simp
        · by_cases j1 : j = 1
          · subst j1; simp
          · by_cases j0 : j = 0
            · subst j0; simp
            · simp [j3, j2, j1, j0, show ¬ j < 4 by omega]
    · simp only [denR, gupR, va_up_n c]
      by_cases c2 : n ≤ a ∧ a ≤ n + 4
      · rw [if_pos c2, if_neg c, denR_n c2.1 h3]
      · rw [if_neg c2]
  rw [e1, e2, e3]
  rfl
theorem gT_mw {d y pc n : Nat} {L : gL} {st : List Value} {cu cu' : Nat × Nat} {w : gW} {b : Nat → Nat → Int32} {Q : Option Value → gW → Prop} {N K : Nat} (li : List (Nat × Nat × Int32)) (lj : List (Nat × Nat × Int64)) (lr : List (Nat × Nat × Option Nat)) (e : w = gD b n li lj lr) (eN : N = 4) (eK : K = 3) (ec : cu' = cu) (hb : ∀ m, m < 1000 → b m = fun _ => 0) (hn : n < 900) (hk : SH.take (n + 5) = SH.take n ++ [.inr (4, 4), .inr (0, 3), .inr (0, 3), .inr (0, 3), .inr (0, 3)]) (hl : (SH.take n).length = n) (h : (ltA n li && (ltA n lj && ltA n lr)) = true) (g : gT d y pc L (.ref n :: st) cu (gD b (n + 5) li lj ((n, 3, some (n + 4)) :: (n, 2, some (n + 3)) :: (n, 1, some (n + 2)) :: (n, 0, some (n + 1)) :: lr)) Q) : gT d y pc L (.ref w.1.length :: st) cu' (gmul w N K) Q := by
  subst e eN eK ec
  rw [gD_mul hb hn hk hl h, show (gD b n li lj lr).1.length = n from hl]
  exact g
def lkI : List (Nat × Nat × Int32) → Nat → Nat → Int32
  | [], _, _ => 0
  | e :: l, a, k => cond (Nat.beq a e.1 && Nat.beq k e.2.1) e.2.2 (lkI l a k)
def lkR : List (Nat × Nat × Option Nat) → Nat → Nat → Option Nat
  | [], _, _ => none
  | e :: l, a, k => cond (Nat.beq a e.1 && Nat.beq k e.2.1) e.2.2 (lkR l a k)
theorem beq_d {a b : Nat} : Nat.beq a b = decide (a = b) := by
  by_cases c : a = b
  · subst c; rw [Nat.beq_refl]; simp
  · rw [decide_eq_false c]
    cases e : Nat.beq a b
    · rfl
    · exact absurd (Nat.eq_of_beq_eq_true e) c
theorem denI_l {b : Nat → Nat → Int32} {a k : Nat} (hb : b a = fun _ => 0) : ∀ {l}, denI b l a k = lkI l a k
  | [] => congrFun hb k
  | e :: l => by
    show va_up (denI b l) e.1 (upd (denI b l e.1) e.2.1 e.2.2) a k = cond _ _ _
    rw [beq_d, beq_d]
    unfold va_up
    by_cases c : a = e.1
    · rw [if_pos c, decide_eq_true c]
      by_cases c2 : k = e.2.1
      · rw [upd_y c2, decide_eq_true c2]; rfl
      · rw [upd_ne c2, decide_eq_false c2, ← c]; exact denI_l hb
    · rw [if_neg c, decide_eq_false c]; exact denI_l hb
theorem denR_l {a k : Nat} : ∀ {l}, denR l a k = lkR l a k
  | [] => rfl
  | e :: l => by
    show va_up (denR l) e.1 (va_up (denR l e.1) e.2.1 e.2.2) a k = cond _ _ _
    rw [beq_d, beq_d]
    unfold va_up
    by_cases c : a = e.1
    · rw [if_pos c, decide_eq_true c]
      by_cases c2 : k = e.2.1
      · rw [if_pos c2, decide_eq_true c2]; rfl
      · rw [if_neg c2, decide_eq_false c2, ← c]; exact denR_l
    · rw [if_neg c, decide_eq_false c]; exact denR_l
section
variable {d y pc n o ci k x : Nat} {L : gL} {st : List Value} {cu cu' : Nat × Nat} {w : gW} {b : Nat → Nat → Int32} {Q : Option Value → gW → Prop} {v j : Int32}
theorem gT_gf (li : List (Nat × Nat × Int32)) (lj : List (Nat × Nat × Int64)) (lr : List (Nat × Nat × Option Nat)) (e : w = gD b n li lj lr) (hf : g_fk ci k = 2) (hr : lkR lr o k = some x) (g : gT d y pc L (.ref x :: st) cu (gD b n li lj lr) Q) : gT d y pc L (gval w o ci k :: st) cu w Q := by
  subst e
  have h : gval (gD b n li lj lr) o ci k = .ref x := by
    unfold gval; rw [hf]
    show va_rf (denR lr o k) = _
    rw [denR_l, hr]; rfl
  rw [h]; exact g
theorem gT_gi (li : List (Nat × Nat × Int32)) (lj : List (Nat × Nat × Int64)) (lr : List (Nat × Nat × Option Nat)) (e : w = gD b n li lj lr) (hb : ∀ m, m < 1000 → b m = fun _ => 0) (ho : o < 1000) (hf : ∀ z, gval z o ci k = .int (z.2.1 o k)) (hr : lkI li o k = v) (g : gT d y pc L (.int v :: st) cu (gD b n li lj lr) Q) : gT d y pc L (gval w o ci k :: st) cu w Q := by
  subst e
  rw [hf]
  show gT d y pc L (.int (denI b li o k) :: st) cu _ Q
  rw [denI_l (hb o ho), hr]; exact g
theorem gT_al (li : List (Nat × Nat × Int32)) (lj : List (Nat × Nat × Int64)) (lr : List (Nat × Nat × Option Nat)) (e : w = gD b n li lj lr) (hj : j.toNatClampNeg = k) (hr : lkR lr o k = some x) (g : gT d y pc L (.ref x :: st) cu (gD b n li lj lr) Q) : gT d y pc L (va_rf (w.2.2.2 o j.toNatClampNeg) :: st) cu w Q := by
  subst e
  rw [hj]
  show gT d y pc L (va_rf (denR lr o k) :: st) cu _ Q
  rw [denR_l, hr]; exact g
theorem gT_bl (li : List (Nat × Nat × Int32)) (lj : List (Nat × Nat × Int64)) (lr : List (Nat × Nat × Option Nat)) (e : w = gD b n li lj lr) (hb : ∀ m, m < 1000 → b m = fun _ => 0) (ho : o < 1000) (hj : j.toNatClampNeg = k) (hr : lkI li o k = v) (g : gT d y pc L (.int v :: st) cu (gD b n li lj lr) Q) : gT d y pc L (.int (w.2.1 o j.toNatClampNeg) :: st) cu w Q := by
  subst e
  rw [hj]
  show gT d y pc L (.int (denI b li o k) :: st) cu _ Q
  rw [denI_l (hb o ho), hr]; exact g
end
theorem gT_dn {d y pc n : Nat} {L : gL} {st : List Value} {cu : Nat × Nat} {w : gW} {b : Nat → Nat → Int32} {Q : Option Value → gW → Prop} (li : List (Nat × Nat × Int32)) (lj : List (Nat × Nat × Int64)) (lr : List (Nat × Nat × Option Nat)) (e : w = gD b n li lj lr) (g : gT d y pc L st cu (gD b n li lj lr) Q) : gT d y pc L st cu w Q := by
  subst e; exact g
