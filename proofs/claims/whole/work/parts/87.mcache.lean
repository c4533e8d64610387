/-! the cache: the reference -/
def nF (f : Nat) : Bool := Nat.beq f 51 || (Nat.ble 56 f && Nat.ble f 60)
def nIn (a : Nat) : Bool := Nat.ble 201 a && Nat.ble a 208
def nM (I X : Nat → Nat → Int32) : Nat → Nat → Int32 := fun a => cond (Nat.beq a 171) (fun f => cond (nF f) (X 171 f) (I 171 f)) (cond (nIn a) (X a) (I a))
section
variable {I V : Nat → Nat → Int32} {J' : Nat → Nat → Int64} {P : Nat → Nat} {b c : Nat}
theorem nM_self : nM I I = I := by
  funext a
  unfold nM
  cases h : Nat.beq a 171
  · cases nIn a <;> rfl
  · have e := Nat.eq_of_beq_eq_true h
    subst e
    funext f
    show cond (nF f) (I 171 f) (I 171 f) = _
    cases nF f <;> rfl
theorem nIn_ne (h : nIn b = true) : ¬ b = 171 := fun e => by subst e; exact absurd h (by decide)
theorem nM_at (h : nIn b = true) : nM I V b = V b := by
  unfold nM
  rw [beq_ne (nIn_ne h), h]; rfl
theorem gup_nM (h : nIn b = true) {f : Nat} {x : Int32} : gupI (nM I V) b f x = nM I (gupI V b f x) := by
  funext a
  by_cases e : a = b
  · subst e
    rw [gupI_b, nM_at h, nM_at h, gupI_b]
  · rw [gupI_n e]
    unfold nM
    rw [gupI_n e, gupI_n (a := 171) (fun q => nIn_ne h q.symm)]
theorem gup_nP {f : Nat} (h : nF f = true) {x : Int32} : gupI (nM I V) 171 f x = nM I (gupI V 171 f x) := by
  funext a
  by_cases e : a = 171
  · subst e
    rw [gupI_b]
    funext g
    show (if g = f then x else cond (nF g) (V 171 g) (I 171 g)) = cond (nF g) (gupI V 171 f x 171 g) (I 171 g)
    rw [gupI_b]
    by_cases q : g = f
    · subst q
      rw [if_pos rfl, h]
      show x = upd (V 171) g x g
      rw [upd_at]
    · rw [if_neg q, upd_ne q]
  · rw [gupI_n e]
    unfold nM
    rw [beq_ne e, gupI_n e]; rfl
variable {d y pc f : Nat} {L : gL} {st : List Value} {cu : Nat × Nat} {Q : Option Value → gW → Prop}
theorem gT_nP (h : nF f = true) {x X : Int32} (ev : x = X) (g : gT d y pc L st cu (gST (nM I (gupI V 171 f X)) J' P) Q) : gT d y pc L st cu ((gST (nM I V) J' P).1, gupI (gST (nM I V) J' P).2.1 171 f x, (gST (nM I V) J' P).2.2) Q := by
  subst ev
  show gT d y pc L st cu (gST (gupI (nM I V) 171 f x) J' P) Q
  rw [gup_nP h]; exact g
theorem gT_nA (h : nIn b = true) {n : Nat} {T x X : Int32} (e : T = nI n) (hk : n < 2 ^ 31) (ev : x = X) (g : gT d y pc L st cu (gST (nM I (gupI V b n X)) J' P) Q) : gT d y pc L st cu ((gST (nM I V) J' P).1, gupI (gST (nM I V) J' P).2.1 b T.toNatClampNeg x, (gST (nM I V) J' P).2.2) Q := by
  subst ev
  rw [e, nI_clamp hk]
  show gT d y pc L st cu (gST (gupI (nM I V) b n x) J' P) Q
  rw [gup_nM h]; exact g
theorem gup_j205 {J : Nat → Nat → Int64} {Y : Nat → Int64} {n : Nat} {x : Int64} : gupL (m1 J 205 Y) 205 n x = m1 J 205 (vp_updL Y n x) := by
  funext a
  by_cases e : a = 205
  · subst e
    show vp_updL (m1 J 205 Y 205) n x = _
    rw [m1_b, m1_b]
  · rw [gupL_n e, m1_n e, m1_n e]
theorem gT_nJ {I' : Nat → Nat → Int32} {J : Nat → Nat → Int64} {Y : Nat → Int64} {n : Nat} {T : Int32} {x X : Int64} (e : T = nI n) (hk : n < 2 ^ 31) (ev : x = X) (g : gT d y pc L st cu (gST I' (m1 J 205 (vp_updL Y n X)) P) Q) : gT d y pc L st cu ((gST I' (m1 J 205 Y) P).1, (gST I' (m1 J 205 Y) P).2.1, gupL (gST I' (m1 J 205 Y) P).2.2.1 205 T.toNatClampNeg x, (gST I' (m1 J 205 Y) P).2.2.2) Q := by
  subst ev
  rw [e, nI_clamp hk]
  show gT d y pc L st cu (gST I' (gupL (m1 J 205 Y) 205 n x) P) Q
  rw [gup_j205]; exact g
end
def nE1 (zs ks : Nat → Int32) (js : Nat → Int64) (kr : Nat → Int32) (j : Nat) (q : zE) : Prop := zs j = nI q.1 ∧ ks j = q.2.1 ∧ js j = q.2.2.2 ∧ (kr (3 * j) = q.2.2.1.1 ∧ kr (3 * j + 1) = q.2.2.1.2.1 ∧ kr (3 * j + 2) = q.2.2.1.2.2)
def nC (zs ks : Nat → Int32) (js : Nat → Int64) (kr : Nat → Int32) (f : Nat → zE) (n : Nat) : Prop := ∀ j, j < n → nE1 zs ks js kr j (f j)
def nH (X : Nat → Nat → Int32) (Y : Nat → Int64) (C : List zE) : Prop := X 171 56 = nI C.length ∧ nC (X 202) (X 203) Y (X 204) (eg C) C.length
theorem m_isAmong {d b : Nat} {k : Int32} {I : Nat → Nat → Int32} {J : Nat → Nat → Int64} {P : Nat → Nat} (har : gar (gST I J P) b = some 0) (hln : gln (gST I J P) b = 3) : gTM d 240 [.ref b, .int k] (gST I J P) (gB (gST I J P) (amo (I b 0, I b 1, I b 2) k)) := by
  refine gT_n 2 ?_
  refine px_le (X := k) (Y := (0)) (rfl) (rfl) (fun κ1 => ?_) (fun κ1 => ?_)
  · refine gT_n 2 ?_
    refine ⟨(Or.inl rfl), ?_⟩
    exact ⟨rfl, Or.inr ⟨rfl, fun c => absurd c.1 (Int32.not_lt.mpr κ1)⟩⟩
  · refine gT_n 5 ?_
    refine ⟨har, (pk_inS (m := 3) (k := 0) (hln) (by decide) (rfl)), px_eq (X := (I b 0)) (Y := k) (rfl) (rfl) (fun κ2 => ?_) (fun κ2 => ?_)⟩
    · refine gT_n 3 ?_
      refine ⟨(Or.inr rfl), ?_⟩
      exact ⟨rfl, Or.inl ⟨rfl, Int32.not_le.mp κ1, Or.inl κ2⟩⟩
    · refine gT_n 5 ?_
      refine ⟨har, (pk_inS (m := 3) (k := 1) (hln) (by decide) (rfl)), px_eq (X := (I b 1)) (Y := k) (rfl) (rfl) (fun κ3 => ?_) (fun κ3 => ?_)⟩
      · refine gT_n 3 ?_
        refine ⟨(Or.inr rfl), ?_⟩
        exact ⟨rfl, Or.inl ⟨rfl, Int32.not_le.mp κ1, Or.inr (Or.inl κ3)⟩⟩
      · refine gT_n 5 ?_
        refine ⟨har, (pk_inS (m := 3) (k := 2) (hln) (by decide) (rfl)), px_ne (X := (I b 2)) (Y := k) (rfl) (rfl) (fun κ4 => ?_) (fun κ4 => ?_)⟩
        · refine gT_n 2 ?_
          refine ⟨(Or.inl rfl), ?_⟩
          exact ⟨rfl, Or.inr ⟨rfl, fun c => c.2.elim κ2 (fun c => c.elim κ3 κ4)⟩⟩
        · refine gT_n 3 ?_
          refine ⟨(Or.inr rfl), ?_⟩
          exact ⟨rfl, Or.inl ⟨rfl, Int32.not_le.mp κ1, Or.inr (Or.inr κ4)⟩⟩
theorem m_entryOf {d z : Nat} {k : Int32} {I X : Nat → Nat → Int32} {J : Nat → Nat → Int64} {Y : Nat → Int64} {P : Nat → Nat} {C : List zE} (hH : nH X Y C) (hC4 : C.length ≤ 4) (hz4 : ∀ j, j < C.length → (eg C j).1 < 4) (hz : z < 4) : gTM d 242 [.ref 171, .int (nI z), .int k] (gST (nM I X) (m1 J 205 Y) P) (fun r u => u = (gST (nM I X) (m1 J 205 Y) P) ∧ ((∃ a, isE C z k (some a) ∧ r = some (.int (nI a))) ∨ (isE C z k none ∧ r = some (.int (-4))))) := by
  have loop : ∀ i, i ≤ C.length → (∀ j, j < i → ¬ ((eg C j).1 = z ∧ (eg C j).2.1 = k)) → gT d 242 2 [(3, .int (nI i)), (0, .ref 171), (1, .int (nI z)), (2, .int k)] [] (0, 0) (gST (nM I X) (m1 J 205 Y) P) (fun r u => u = (gST (nM I X) (m1 J 205 Y) P) ∧ ((∃ a, isE C z k (some a) ∧ r = some (.int (nI a))) ∨ (isE C z k none ∧ r = some (.int (-4))))) := by
    refine loopU C.length (fun i hi ih => ?_)
    intro hno
    refine gT_n 4 ?_
    refine ⟨rfl, pk_le C.length i (fun κ1 => ?_) (fun κ1 => ?_) (hH.1) (rfl) (by omega) (by omega)⟩
    · refine gT_n 2 ?_
      exact ⟨rfl, Or.inr ⟨fun j hj => hno j (by omega), rfl⟩⟩
    · refine gT_n 6 ?_
      refine ⟨rfl, rfl, (pk_in i 5 (by omega) (rfl)), pk_ne ((eg C i).1) z (fun κ2 => ?_) (fun κ2 => ?_) ((rdI (rfl) (by omega) (hH.2 i (by omega)).1)) (rfl) (by have := hz4 i (by omega); omega) (by omega)⟩
      · refine gT_n 2 ?_
        have e := ih (i + 1) (by omega) (by omega) (fun j hj => by
          rcases Nat.lt_or_ge j i with g | g
          · exact hno j g
          · obtain rfl : j = i := by omega
            exact fun q => κ2 q.1)
        rw [← nI_1 i] at e
        exact gT_k e ⟨rfl, rfl, rfl, rfl, trivial⟩ rfl
      · refine gT_n 6 ?_
        refine ⟨rfl, rfl, (pk_in i 5 (by omega) (rfl)), px_ne (X := (eg C i).2.1) (Y := k) ((rdI (rfl) (by omega) (hH.2 i (by omega)).2.1)) (rfl) (fun κ3 => ?_) (fun κ3 => ?_)⟩
        · refine gT_n 2 ?_
          have e := ih (i + 1) (by omega) (by omega) (fun j hj => by
            rcases Nat.lt_or_ge j i with g | g
            · exact hno j g
            · obtain rfl : j = i := by omega
              exact fun q => κ3 q.2)
          rw [← nI_1 i] at e
          exact gT_k e ⟨rfl, rfl, rfl, rfl, trivial⟩ rfl
        · refine gT_n 2 ?_
          exact ⟨rfl, Or.inl ⟨i, ⟨by omega, ⟨κ2, κ3⟩, hno⟩, rfl⟩⟩
  refine gT_n 2 ?_
  exact gT_k (loop 0 (by omega) (fun j hj => absurd hj (Nat.not_lt_zero j))) ⟨rfl, rfl, rfl, rfl, trivial⟩ rfl
theorem m_aliveE {d z : Nat} {k ck : Int32} {I X : Nat → Nat → Int32} {J : Nat → Nat → Int64} {Y : Nat → Int64} {P : Nat → Nat} {C : List zE} (hH : nH X Y C) (hC4 : C.length ≤ 4) (hz4 : ∀ j, j < C.length → (eg C j).1 < 4) (hz : z < 4) (hck : I 171 15 = ck) : gTM (d + 1) 243 [.ref 171, .int (nI z), .int k] (gST (nM I X) (m1 J 205 Y) P) (fun r u => u = (gST (nM I X) (m1 J 205 Y) P) ∧ ∃ r0, isE C z k r0 ∧ ((∃ a, r0 = some a ∧ a < C.length ∧ aliv C ck r0 ∧ r = some (.int (nI a))) ∨ (¬ aliv C ck r0 ∧ r = some (.int (-4))))) := by
  refine gT_n 4 ?_
  refine ⟨rfl, rfl, gTM.use (m_entryOf hH hC4 hz4 hz) (Nat.le_refl _) (fun r u hq => ?_)⟩
  obtain ⟨rfl, ⟨a, ha, rfl⟩ | ⟨ha, rfl⟩⟩ := hq  -- X12_entryOf[R171, nI z, k]
  · have ha1 := ha.1
    refine gT_n 4 ?_
    refine ⟨fun c => absurd c (nI_neg (rfl) (by have := ha.1; omega)), fun _ => ?_⟩
    refine gT_n 9 ?_
    refine ⟨rfl, rfl, rfl, (pk_in a 5 (by omega) (rfl)), pj_ge (X := (ck).toInt64) (Y := (eg C a).2.2.2) ((congrArg Int32.toInt64 (hck))) ((rdJ (rfl) (by omega) (hH.2 a ha1).2.2.1)) (fun κ1 => ?_) (fun κ1 => ?_)⟩
    · refine gT_n 2 ?_
      exact ⟨rfl, some a, ha, Or.inr ⟨fun c => by obtain ⟨e, h, g⟩ := c; cases h; exact κ1 g, rfl⟩⟩
    · refine gT_n 3 ?_
      exact ⟨rfl, some a, ha, Or.inl ⟨a, rfl, ha.1, ⟨a, rfl, κ1⟩, rfl⟩⟩
  · refine gT_n 4 ?_
    refine ⟨fun _ => ?_, fun c => absurd (by decide) c⟩
    refine gT_n 2 ?_
    exact ⟨rfl, none, ha, Or.inr ⟨fun c => by obtain ⟨e, h, -⟩ := c; exact absurd h (by simp), rfl⟩⟩
theorem m_leaves {d a n : Nat} {f : Nat → zE} {I X : Nat → Nat → Int32} {J : Nat → Nat → Int64} {Y : Nat → Int64} {P : Nat → Nat} (hX : X 171 56 = nI (n + 1)) (ha : a < n + 1) (hn : n < 4) (hF : nC (X 202) (X 203) Y (X 204) f (n + 1)) : gTM d 244 [.ref 171, .int (nI a)] (gST (nM I X) (m1 J 205 Y) P) (fun r u => r = none ∧ ∃ X' Y', u = gST (nM I X') (m1 J 205 Y') P ∧ X' 171 56 = nI n ∧ (∀ f, ¬ f = 56 → X' 171 f = X 171 f) ∧ (∀ j, 206 ≤ j → X' j = X j) ∧ X' 201 = X 201 ∧ nC (X' 202) (X' 203) Y' (X' 204) (fun j => if j < a then f j else f (j + 1)) n) := by
  have loop : ∀ i, i ≤ n → a ≤ i → ∀ (X2 : Nat → Nat → Int32) (Y2 : Nat → Int64), X2 171 56 = nI (n + 1) → (∀ f, X2 171 f = X 171 f) → (∀ j, 206 ≤ j → X2 j = X j) → X2 201 = X 201 → (nC (X2 202) (X2 203) Y2 (X2 204) (fun j => if a ≤ j ∧ j < i then f (j + 1) else f j) (n + 1)) → gT d 244 2 [(2, .int (nI i)), (0, .ref 171), (1, .int (nI a))] [] (0, 0) (gST (nM I X2) (m1 J 205 Y2) P) (fun r u => r = none ∧ ∃ X' Y', u = gST (nM I X') (m1 J 205 Y') P ∧ X' 171 56 = nI n ∧ (∀ f, ¬ f = 56 → X' 171 f = X 171 f) ∧ (∀ j, 206 ≤ j → X' j = X j) ∧ X' 201 = X 201 ∧ nC (X' 202) (X' 203) Y' (X' 204) (fun j => if j < a then f j else f (j + 1)) n) := by
    refine loopU n (fun i hi ih => ?_)
    intro hai X2 Y2 hX h171 hFr h201 hF
    refine gT_n 6 ?_
    refine ⟨rfl, pk_le (((n + 1)) - 1) i (fun κ1 => ?_) (fun κ1 => ?_) (pk_subE (n := ((n + 1))) (k := 1) (hX) (rfl) (by omega)) (rfl) (by omega) (by omega)⟩
    · refine gT_n 6 ?_
      refine ⟨rfl, rfl, ?_⟩
      refine gT_nP rfl (X := (nI (((n + 1)) - 1))) (pk_subE (n := ((n + 1))) (k := 1) (hX) (rfl) (by omega)) ?_
      refine gT_n 1 ?_
      refine ⟨rfl, ?_⟩
      obtain rfl : i = n := by omega
      refine ⟨rfl, _, Y2, rfl, gupI_rr.trans rfl, fun f hf => ?_, fun j hj => (gupI_n (by omega)).trans (hFr j hj), (gupI_n (by decide)).trans h201, fun j hj => ?_⟩
      · rw [gupI_b, upd_ne hf]; exact h171 f
      have h := hF j (by omega)
      dsimp only at h ⊢
      by_cases g : j < a
      · rw [if_neg (by omega)] at h
        rw [if_pos g]; exact h
      · rw [if_pos (by omega)] at h
        rw [if_neg g]; exact h
    · refine gT_n 10 ?_
      refine ⟨rfl, rfl, rfl, (pk_inS (m := 5) (k := (i + 1)) (rfl) (by omega) (pk_addE (n := i) (k := 1) (rfl) (rfl))), rfl, (pk_inS (m := 5) (k := i) (rfl) (by omega) (rfl)), ?_⟩
      refine gT_nA (b := 202) rfl (n := i) (X := (X2 202 (i + 1))) (rfl) (by omega) ((rdI (k := i + 1) (pk_addE (n := i) (k := 1) (rfl) (rfl)) (by omega) rfl)) ?_
      refine gT_n 10 ?_
      refine ⟨rfl, rfl, rfl, (pk_inS (m := 5) (k := (i + 1)) (rfl) (by omega) (pk_addE (n := i) (k := 1) (rfl) (rfl))), rfl, (pk_inS (m := 5) (k := i) (rfl) (by omega) (rfl)), ?_⟩
      refine gT_nA (b := 203) rfl (n := i) (X := (X2 203 (i + 1))) (rfl) (by omega) ((rdI (k := i + 1) (pk_addE (n := i) (k := 1) (rfl) (rfl)) (by omega) rfl)) ?_
      refine gT_n 10 ?_
      refine ⟨rfl, rfl, rfl, (pk_inS (m := 5) (k := (i + 1)) (rfl) (by omega) (pk_addE (n := i) (k := 1) (rfl) (rfl))), rfl, (pk_inS (m := 5) (k := i) (rfl) (by omega) (rfl)), ?_⟩
      refine gT_nJ (n := i) (X := (Y2 (i + 1))) (rfl) (by omega) ((rdJ (k := i + 1) (pk_addE (n := i) (k := 1) (rfl) (rfl)) (by omega) rfl)) ?_
      refine gT_n 5 ?_
      refine ⟨fun c => absurd c (by decide), fun _ => ?_⟩
      refine gT_n 18 ?_
      refine ⟨rfl, rfl, rfl, (pk_inS (m := 15) (k := (((3 * i) + 3) + 0)) (rfl) (by omega) (pk_addE (n := ((3 * i) + 3)) (k := 0) (pk_addE (n := (3 * i)) (k := 3) (pk_mulE (n := 3) (k := i) (rfl) (rfl)) (rfl)) (rfl))), rfl, (pk_inS (m := 15) (k := ((3 * i) + 0)) (rfl) (by omega) (pk_addE (n := (3 * i)) (k := 0) (pk_mulE (n := 3) (k := i) (rfl) (rfl)) (rfl))), ?_⟩
      refine gT_nA (b := 204) rfl (n := ((3 * i) + 0)) (X := (X2 204 (3 * i + 3))) (pk_addE (n := (3 * i)) (k := 0) (pk_mulE (n := 3) (k := i) (rfl) (rfl)) (rfl)) (by omega) ((rdI (k := 3 * i + 3) (Eq.trans (pk_addE (n := ((3 * i) + 3)) (k := 0) (pk_addE (n := (3 * i)) (k := 3) (pk_mulE (n := 3) (k := i) (rfl) (rfl)) (rfl)) (rfl)) (congrArg nI (show (((3 * i) + 3) + 0) = 3 * i + 3 by omega))) (by omega) (by first | rfl | exact upd_ne (by omega) | exact (upd_ne (by omega)).trans (upd_ne (by omega))))) ?_
      refine gT_n 5 ?_
      refine ⟨fun c => absurd c (by decide), fun _ => ?_⟩
      refine gT_n 18 ?_
      refine ⟨rfl, rfl, rfl, (pk_inS (m := 15) (k := (((3 * i) + 3) + 1)) (rfl) (by omega) (pk_addE (n := ((3 * i) + 3)) (k := 1) (pk_addE (n := (3 * i)) (k := 3) (pk_mulE (n := 3) (k := i) (rfl) (rfl)) (rfl)) (rfl))), rfl, (pk_inS (m := 15) (k := ((3 * i) + 1)) (rfl) (by omega) (pk_addE (n := (3 * i)) (k := 1) (pk_mulE (n := 3) (k := i) (rfl) (rfl)) (rfl))), ?_⟩
      refine gT_nA (b := 204) rfl (n := ((3 * i) + 1)) (X := (X2 204 (3 * i + 4))) (pk_addE (n := (3 * i)) (k := 1) (pk_mulE (n := 3) (k := i) (rfl) (rfl)) (rfl)) (by omega) ((rdI (k := 3 * i + 4) (Eq.trans (pk_addE (n := ((3 * i) + 3)) (k := 1) (pk_addE (n := (3 * i)) (k := 3) (pk_mulE (n := 3) (k := i) (rfl) (rfl)) (rfl)) (rfl)) (congrArg nI (show (((3 * i) + 3) + 1) = 3 * i + 4 by omega))) (by omega) (by first | rfl | exact upd_ne (by omega) | exact (upd_ne (by omega)).trans (upd_ne (by omega))))) ?_
      refine gT_n 5 ?_
      refine ⟨fun c => absurd c (by decide), fun _ => ?_⟩
      refine gT_n 18 ?_
      refine ⟨rfl, rfl, rfl, (pk_inS (m := 15) (k := (((3 * i) + 3) + 2)) (rfl) (by omega) (pk_addE (n := ((3 * i) + 3)) (k := 2) (pk_addE (n := (3 * i)) (k := 3) (pk_mulE (n := 3) (k := i) (rfl) (rfl)) (rfl)) (rfl))), rfl, (pk_inS (m := 15) (k := ((3 * i) + 2)) (rfl) (by omega) (pk_addE (n := (3 * i)) (k := 2) (pk_mulE (n := 3) (k := i) (rfl) (rfl)) (rfl))), ?_⟩
      refine gT_nA (b := 204) rfl (n := ((3 * i) + 2)) (X := (X2 204 (3 * i + 5))) (pk_addE (n := (3 * i)) (k := 2) (pk_mulE (n := 3) (k := i) (rfl) (rfl)) (rfl)) (by omega) ((rdI (k := 3 * i + 5) (Eq.trans (pk_addE (n := ((3 * i) + 3)) (k := 2) (pk_addE (n := (3 * i)) (k := 3) (pk_mulE (n := 3) (k := i) (rfl) (rfl)) (rfl)) (rfl)) (congrArg nI (show (((3 * i) + 3) + 2) = 3 * i + 5 by omega))) (by omega) (by first | rfl | exact upd_ne (by omega) | exact (upd_ne (by omega)).trans (upd_ne (by omega))))) ?_
      refine gT_n 5 ?_
      refine ⟨fun _ => ?_, fun c => absurd (by decide) c⟩
      refine gT_n 2 ?_
      have e := ih (i + 1) (by omega) (by omega) (by omega) (gupI (gupI (gupI (gupI (gupI X2 202 i (X2 202 (i + 1))) 203 i (X2 203 (i + 1))) 204 (3 * i + 0) (X2 204 (3 * i + 3))) 204 (3 * i + 1) (X2 204 (3 * i + 4))) 204 (3 * i + 2) (X2 204 (3 * i + 5))) (vp_updL Y2 i (Y2 (i + 1))) ?_ ?_ ?_ ?_ ?_
      · rw [← nI_1 i] at e
        exact gT_k e ⟨rfl, rfl, rfl, trivial⟩ rfl
      · exact hX
      · intro f
        exact h171 f
      · intro j hj
        rw [gupI_n (by omega), gupI_n (by omega), gupI_n (by omega), gupI_n (by omega), gupI_n (by omega)]; exact hFr j hj
      · exact h201
      · intro j hj
        have h := hF j hj
        have h1 := hF (i + 1) (by omega)
        dsimp only at h h1 ⊢
        rw [if_neg (by omega)] at h1
        unfold nE1 at h h1 ⊢
        try dsimp only at h h1 ⊢
        show upd (X2 202) i (X2 202 (i + 1)) j = _ ∧ upd (X2 203) i (X2 203 (i + 1)) j = _ ∧ vp_updL Y2 i (Y2 (i + 1)) j = _ ∧ upd (upd (upd (X2 204) ((3 * i) + 0) (X2 204 (3 * i + 3))) ((3 * i) + 1) (X2 204 (3 * i + 4))) ((3 * i) + 2) (X2 204 (3 * i + 5)) (3 * j) = _ ∧ upd (upd (upd (X2 204) ((3 * i) + 0) (X2 204 (3 * i + 3))) ((3 * i) + 1) (X2 204 (3 * i + 4))) ((3 * i) + 2) (X2 204 (3 * i + 5)) (3 * j + 1) = _ ∧ upd (upd (upd (X2 204) ((3 * i) + 0) (X2 204 (3 * i + 3))) ((3 * i) + 1) (X2 204 (3 * i + 4))) ((3 * i) + 2) (X2 204 (3 * i + 5)) (3 * j + 2) = _
        by_cases g : j = i
        · subst g
          rw [if_pos (by omega), upd_at, upd_at, updL_at, upd_ne (by omega), upd_ne (by omega), upd_y (by omega), upd_ne (by omega), upd_y (by omega), upd_y (by omega)]
          exact ⟨h1.1, h1.2.1, h1.2.2.1, h1.2.2.2⟩
        · rw [upd_ne g, upd_ne g, updL_ne g, upd_ne (by omega), upd_ne (by omega), upd_ne (by omega), upd_ne (by omega), upd_ne (by omega), upd_ne (by omega), upd_ne (by omega), upd_ne (by omega), upd_ne (by omega)]
          have e1 : (a ≤ j ∧ j < i + 1) = (a ≤ j ∧ j < i) := propext ⟨fun q => ⟨q.1, by omega⟩, fun q => ⟨q.1, by omega⟩⟩
          rw [show (if a ≤ j ∧ j < i + 1 then f (j + 1) else f j) = (if a ≤ j ∧ j < i then f (j + 1) else f j) by simp only [e1]]
          exact h
  refine gT_n 2 ?_
  have e := loop a (by omega) (Nat.le_refl _) X Y hX (fun f => rfl) (fun j hj => rfl) rfl (fun j hj => ?_)
  · exact gT_k e ⟨rfl, rfl, rfl, trivial⟩ rfl
  have h := hF j hj
  dsimp only
  rw [if_neg (by omega)]; exact h
