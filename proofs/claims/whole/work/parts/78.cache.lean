/-! the cache: the class -/
def isE (C : List zE) (z : Nat) (k : Int32) : Option Nat → Prop
  | some i => i < C.length ∧ ((eg C i).1 = z ∧ (eg C i).2.1 = k) ∧ ∀ j, j < i → ¬ ((eg C j).1 = z ∧ (eg C j).2.1 = k)
  | none => ∀ j, j < C.length → ¬ ((eg C j).1 = z ∧ (eg C j).2.1 = k)
theorem isE_one {C : List zE} {z : Nat} {k : Int32} {r r' : Option Nat} (h : isE C z k r) (g : isE C z k r') : r = r' := by
  cases r with
  | none => cases r' with
    | none => rfl
    | some b => exact absurd g.2.1 (h b g.1)
  | some a => cases r' with
    | none => exact absurd h.2.1 (g a h.1)
    | some b =>
      rcases Nat.lt_trichotomy a b with c | c | c
      · exact absurd h.2.1 (g.2.2 a c)
      · rw [c]
      · exact absurd g.2.1 (h.2.2 b c)
/-- an entry that is alive -/
def aliv (C : List zE) (ck : Int32) (r : Option Nat) : Prop := ∃ e, r = some e ∧ ck.toInt64 < (eg C e).2.2.2
/-- room for an entry -/
def sE (C : List zE) : Option Nat → List zE
  | some i => C.eraseIdx i
  | none => if C.length = 4 then C.tail else C
def cE1 (zs ks : Nat → Int32) (js : Nat → Int64) (kr : Nat → Nat → Int32) (j : Nat) (q : zE) : Prop := zs j = nI q.1 ∧ ks j = q.2.1 ∧ js j = q.2.2.2 ∧ (kr j 0 = q.2.2.1.1 ∧ kr j 1 = q.2.2.1.2.1 ∧ kr j 2 = q.2.2.1.2.2)
def cF (zs ks : Nat → Int32) (js : Nat → Int64) (kr : Nat → Nat → Int32) (f : Nat → zE) (n : Nat) : Prop := ∀ j, j < n → cE1 zs ks js kr j (f j)
def kIn (a : Nat) : Bool := (Nat.ble 25 a && Nat.ble a 33) || (Nat.ble 167 a && Nat.ble a 170)
def kM (I X : Nat → Nat → Int32) : Nat → Nat → Int32 := fun a => cond (kIn a) (X a) (I a)
section
variable {I V : Nat → Nat → Int32} {J' : Nat → Nat → Int64} {P : Nat → Nat} {b c : Nat}
theorem kM_self : kM I I = I := by
  funext a
  unfold kM
  cases kIn a <;> rfl
theorem kM_at (h : kIn b = true) : kM I V b = V b := by
  unfold kM
  rw [h]; rfl
theorem vup_kM (h : kIn b = true) {r : Nat → Int32} : va_up (kM I V) b r = kM I (va_up V b r) := by
  funext a
  by_cases e : a = b
  · subst e
    rw [vu_b, kM_at h, vu_b]
  · rw [vu_n e]
    unfold kM
    rw [vu_n e]
theorem gup_kM (h : kIn b = true) {f : Nat} {x : Int32} : gupI (kM I V) b f x = kM I (gupI V b f x) := by
  show va_up (kM I V) b (upd (kM I V b) f x) = kM I (va_up V b (upd (V b) f x))
  rw [vup_kM h, kM_at h]
variable {d y pc f : Nat} {L : gL} {st : List Value} {cu : Nat × Nat} {Q : Option Value → gW → Prop}
theorem gT_kP (h : kIn b = true) {x X : Int32} (ev : x = X) (g : gT d y pc L st cu (gST (kM I (gupI V b f X)) J' P) Q) : gT d y pc L st cu ((gST (kM I V) J' P).1, gupI (gST (kM I V) J' P).2.1 b f x, (gST (kM I V) J' P).2.2) Q := by
  subst ev
  show gT d y pc L st cu (gST (gupI (kM I V) b f x) J' P) Q
  rw [gup_kM h]; exact g
theorem gT_kA (h : kIn b = true) {n : Nat} {T x X : Int32} (e : T = nI n) (hk : n < 2 ^ 31) (ev : x = X) (g : gT d y pc L st cu (gST (kM I (gupI V b n X)) J' P) Q) : gT d y pc L st cu ((gST (kM I V) J' P).1, gupI (gST (kM I V) J' P).2.1 b T.toNatClampNeg x, (gST (kM I V) J' P).2.2) Q := by
  subst ev
  rw [e, nI_clamp hk]
  show gT d y pc L st cu (gST (gupI (kM I V) b n x) J' P) Q
  rw [gup_kM h]; exact g
theorem gT_kC (h : kIn b = true) (hc : kIn c = true) (g : gT d y pc L st cu (gST (kM I (va_up V b (va_cpy (V c) (V b) 0 0 3))) J' P) Q) : gT d y pc L st cu ((gST (kM I V) J' P).1, va_up (gST (kM I V) J' P).2.1 b (va_cpy ((gST (kM I V) J' P).2.1 c) ((gST (kM I V) J' P).2.1 b) (0 : Int32).toNatClampNeg (0 : Int32).toNatClampNeg (3 : Int32).toNatClampNeg), (gST (kM I V) J' P).2.2) Q := by
  show gT d y pc L st cu (gST (va_up (kM I V) b (va_cpy (kM I V c) (kM I V b) 0 0 3)) J' P) Q
  rw [kM_at h, kM_at hc, vup_kM h]; exact g
theorem gup_j28 {J : Nat → Nat → Int64} {Y : Nat → Int64} {n : Nat} {x : Int64} : gupL (m1 J 28 Y) 28 n x = m1 J 28 (vp_updL Y n x) := by
  funext a
  by_cases e : a = 28
  · subst e
    show vp_updL (m1 J 28 Y 28) n x = _
    rw [m1_b, m1_b]
  · rw [gupL_n e, m1_n e, m1_n e]
theorem gT_kJ {I' : Nat → Nat → Int32} {J : Nat → Nat → Int64} {Y : Nat → Int64} {n : Nat} {T : Int32} {x X : Int64} (e : T = nI n) (hk : n < 2 ^ 31) (ev : x = X) (g : gT d y pc L st cu (gST I' (m1 J 28 (vp_updL Y n X)) P) Q) : gT d y pc L st cu ((gST I' (m1 J 28 Y) P).1, (gST I' (m1 J 28 Y) P).2.1, gupL (gST I' (m1 J 28 Y) P).2.2.1 28 T.toNatClampNeg x, (gST I' (m1 J 28 Y) P).2.2.2) Q := by
  subst ev
  rw [e, nI_clamp hk]
  show gT d y pc L st cu (gST I' (gupL (m1 J 28 Y) 28 n x) P) Q
  rw [gup_j28]; exact g
end
theorem k30 {i : Nat} (h : i < 4) : kIn (30 + i) = true := by
  have : i = 0 ∨ i = 1 ∨ i = 2 ∨ i = 3 := by omega
  rcases this with rfl | rfl | rfl | rfl <;> rfl
theorem kR30 {i : Nat} {I : Nat → Nat → Int32} {J : Nat → Nat → Int64} {P : Nat → Nat} (h : i < 4) : gar (gST I J P) (30 + i) = some 0 ∧ gln (gST I J P) (30 + i) = 3 ∧ gRf P 29 i = some (30 + i) := by
  have : i = 0 ∨ i = 1 ∨ i = 2 ∨ i = 3 := by omega
  rcases this with rfl | rfl | rfl | rfl <;> exact ⟨rfl, rfl, rfl⟩
theorem ksel_at {X : Nat → Nat → Int32} {i : Nat} (h : i < 4) : ksel (X 30) (X 31) (X 32) (X 33) i = X (30 + i) := by
  have : i = 0 ∨ i = 1 ∨ i = 2 ∨ i = 3 := by omega
  rcases this with rfl | rfl | rfl | rfl <;> rfl
theorem cE_F {cn : Int32} {X : Nat → Nat → Int32} {js : Nat → Int64} {C : List zE} (h4 : C.length ≤ 4) : cE cn (X 26) (X 27) js (ksel (X 30) (X 31) (X 32) (X 33)) C ↔ cn = nI C.length ∧ cF (X 26) (X 27) js (fun j => X (30 + j)) (eg C) C.length := by
  refine and_congr Iff.rfl (forall_congr' fun j => ⟨fun h hj => ?_, fun h hj => ?_⟩)
  · have := h hj; rw [ksel_at (by omega)] at this; exact this
  · have := h hj; rw [ksel_at (by omega)]; exact this
/-- what a CHECK holds of the cache -/
def cH (X : Nat → Nat → Int32) (Y : Nat → Int64) (C : List zE) : Prop := X 25 4 = nI C.length ∧ cF (X 26) (X 27) Y (fun j => X (30 + j)) (eg C) C.length
theorem c_eix {d z : Nat} {k : Int32} {I X : Nat → Nat → Int32} {J : Nat → Nat → Int64} {Y : Nat → Int64} {P : Nat → Nat} {C : List zE} (hH : cH X Y C) (hC4 : C.length ≤ 4) (hz4 : ∀ j, j < C.length → (eg C j).1 < 4) (hz : z < 4) : gTM d 4 [.ref 25, .int (nI z), .int k] (gST (kM I X) (m1 J 28 Y) P) (fun r u => u = (gST (kM I X) (m1 J 28 Y) P) ∧ ((∃ a, isE C z k (some a) ∧ r = some (.int (nI a))) ∨ (isE C z k none ∧ r = some (.int (-4))))) := by
  have loop : ∀ i, i ≤ C.length → (∀ j, j < i → ¬ ((eg C j).1 = z ∧ (eg C j).2.1 = k)) → gT d 4 2 [(3, .int (nI i)), (0, .ref 25), (1, .int (nI z)), (2, .int k)] [] (0, 0) (gST (kM I X) (m1 J 28 Y) P) (fun r u => u = (gST (kM I X) (m1 J 28 Y) P) ∧ ((∃ a, isE C z k (some a) ∧ r = some (.int (nI a))) ∨ (isE C z k none ∧ r = some (.int (-4))))) := by
    refine loopU C.length (fun i hi ih => ?_)
    intro hno
    refine gT_n 4 ?_
    refine ⟨rfl, pk_le C.length i (fun κ1 => ?_) (fun κ1 => ?_) (hH.1) (rfl) (by omega) (by omega)⟩
    · refine gT_n 2 ?_
      exact ⟨rfl, Or.inr ⟨fun j hj => hno j (by omega), rfl⟩⟩
    · refine gT_n 6 ?_
      refine ⟨rfl, rfl, (pk_in i 4 (by omega) (rfl)), pk_ne ((eg C i).1) z (fun κ2 => ?_) (fun κ2 => ?_) ((rdI (rfl) (by omega) (hH.2 i (by omega)).1)) (rfl) (by have := hz4 i (by omega); omega) (by omega)⟩
      · refine gT_n 2 ?_
        have e := ih (i + 1) (by omega) (by omega) (fun j hj => by
          rcases Nat.lt_or_ge j i with g | g
          · exact hno j g
          · obtain rfl : j = i := by omega
            exact fun q => κ2 q.1)
        rw [← nI_1 i] at e
        exact gT_k e ⟨rfl, rfl, rfl, rfl, trivial⟩ rfl
      · refine gT_n 6 ?_
        refine ⟨rfl, rfl, (pk_in i 4 (by omega) (rfl)), px_ne (X := (eg C i).2.1) (Y := k) ((rdI (rfl) (by omega) (hH.2 i (by omega)).2.1)) (rfl) (fun κ3 => ?_) (fun κ3 => ?_)⟩
        · refine gT_n 2 ?_
          have e := ih (i + 1) (by omega) (by omega) (fun j hj => by
            rcases Nat.lt_or_ge j i with g | g
            · exact hno j g
            · obtain rfl : j = i := by omega
              exact fun q => κ3 q.2)
          rw [← nI_1 i] at e
          exact gT_k e ⟨rfl, rfl, rfl, rfl, trivial⟩ rfl
        · refine gT_n 2 ?_
          exact ⟨rfl, Or.inl ⟨i, ⟨by omega, ⟨κ2, κ3⟩, hno⟩, rfl⟩⟩
  refine gT_n 2 ?_
  exact gT_k (loop 0 (by omega) (fun j hj => absurd hj (Nat.not_lt_zero j))) ⟨rfl, rfl, rfl, rfl, trivial⟩ rfl
theorem c_takeOut {d a n : Nat} {f : Nat → zE} {I X : Nat → Nat → Int32} {J : Nat → Nat → Int64} {Y : Nat → Int64} {P : Nat → Nat} (hX : X 25 4 = nI (n + 1)) (ha : a < n + 1) (hn : n < 4) (hF : cF (X 26) (X 27) Y (fun j => X (30 + j)) f (n + 1)) : gTM d 7 [.ref 25, .int (nI a)] (gST (kM I X) (m1 J 28 Y) P) (fun r u => r = none ∧ ∃ X' Y', u = gST (kM I X') (m1 J 28 Y') P ∧ X' 25 4 = nI n ∧ (∀ j, 167 ≤ j → X' j = X j) ∧ cF (X' 26) (X' 27) Y' (fun j => X' (30 + j)) (fun j => if j < a then f j else f (j + 1)) n) := by
  have loop : ∀ i, i ≤ n → a ≤ i → ∀ (X2 : Nat → Nat → Int32) (Y : Nat → Int64), X2 25 4 = nI n → (∀ j, 167 ≤ j → X2 j = X j) → (cF (X2 26) (X2 27) Y (fun j => X2 (30 + j)) (fun j => if a ≤ j ∧ j < i then f (j + 1) else f j) (n + 1)) → gT d 7 25 [(2, .int (nI i)), (0, .ref 25), (1, .int (nI a))] [] (0, 0) (gST (kM I X2) (m1 J 28 Y) P) (fun r u => r = none ∧ ∃ X' Y', u = gST (kM I X') (m1 J 28 Y') P ∧ X' 25 4 = nI n ∧ (∀ j, 167 ≤ j → X' j = X j) ∧ cF (X' 26) (X' 27) Y' (fun j => X' (30 + j)) (fun j => if j < a then f j else f (j + 1)) n) := by
    refine loopU n (fun i hi ih => ?_)
    intro hai X2 Y2 hX hFr hF
    refine gT_n 4 ?_
    refine ⟨rfl, pk_le n i (fun κ1 => ?_) (fun κ1 => ?_) (hX) (rfl) (by omega) (by omega)⟩
    · refine gT_n 1 ?_
      refine ⟨rfl, ?_⟩
      obtain rfl : i = n := by omega
      refine ⟨rfl, X2, Y2, rfl, hX, hFr, fun j hj => ?_⟩
      have h := hF j (by omega)
      dsimp only at h ⊢
      by_cases g : j < a
      · rw [if_neg (by omega)] at h
        rw [if_pos g]; exact h
      · rw [if_pos (by omega)] at h
        rw [if_neg g]; exact h
    · refine gT_n 10 ?_
      refine ⟨rfl, rfl, rfl, (pk_inS (m := 4) (k := (i + 1)) (rfl) (by omega) (pk_addE (n := i) (k := 1) (rfl) (rfl))), rfl, (pk_inS (m := 4) (k := i) (rfl) (by omega) (rfl)), ?_⟩
      refine gT_kA (b := 26) rfl (n := i) (X := (X2 26 (i + 1))) (rfl) (by omega) ((rdI (k := i + 1) (pk_addE (n := i) (k := 1) (rfl) (rfl)) (by omega) rfl)) ?_
      refine gT_n 10 ?_
      refine ⟨rfl, rfl, rfl, (pk_inS (m := 4) (k := (i + 1)) (rfl) (by omega) (pk_addE (n := i) (k := 1) (rfl) (rfl))), rfl, (pk_inS (m := 4) (k := i) (rfl) (by omega) (rfl)), ?_⟩
      refine gT_kA (b := 27) rfl (n := i) (X := (X2 27 (i + 1))) (rfl) (by omega) ((rdI (k := i + 1) (pk_addE (n := i) (k := 1) (rfl) (rfl)) (by omega) rfl)) ?_
      refine gT_n 10 ?_
      refine ⟨rfl, rfl, rfl, (pk_inS (m := 4) (k := (i + 1)) (rfl) (by omega) (pk_addE (n := i) (k := 1) (rfl) (rfl))), rfl, (pk_inS (m := 4) (k := i) (rfl) (by omega) (rfl)), ?_⟩
      refine gT_kJ (n := i) (X := (Y2 (i + 1))) (rfl) (by omega) ((rdJ (k := i + 1) (pk_addE (n := i) (k := 1) (rfl) (rfl)) (by omega) rfl)) ?_
      refine gT_n 6 ?_
      refine ⟨rfl, rfl, (pk_in (i + 1) 4 (by omega) (pk_addE (n := i) (k := 1) (rfl) (rfl))), ?_⟩
      refine gT_top (aa_ref (b := 30 + (i + 1)) (pk_addE (n := i) (k := 1) (rfl) (rfl)) (by omega) (kR30 (I := I) (J := J) (P := P) (by omega)).2.2) ?_
      refine gT_n 5 ?_
      refine ⟨rfl, rfl, (pk_in i 4 (by omega) (rfl)), ?_⟩
      refine gT_top (aa_ref (b := 30 + i) (rfl) (by omega) (kR30 (I := I) (J := J) (P := P) (by omega)).2.2) ?_
      refine gT_n 3 ?_
      refine ⟨rfl, (kR30 (by omega)).1, (kR30 (by omega)).1, ⟨by decide, by decide, by decide, by rw [(kR30 (by omega)).2.1]; decide, by rw [(kR30 (by omega)).2.1]; decide⟩, ?_⟩
      refine gT_kC (k30 (by omega)) (k30 (by omega)) ?_
      refine gT_n 2 ?_
      have e := ih (i + 1) (by omega) (by omega) (by omega) (va_up (gupI (gupI X2 26 i (X2 26 (i + 1))) 27 i (X2 27 (i + 1))) (30 + i) (va_cpy (X2 (30 + (i + 1))) (X2 (30 + i)) 0 0 3)) (vp_updL Y2 i (Y2 (i + 1))) ?_ ?_ ?_
      · rw [← nI_1 i] at e
        refine gT_mem ?_ (gT_k e ⟨rfl, rfl, rfl, trivial⟩ rfl)
        rw [gupI_n (a := 30 + (i + 1)) (by omega), gupI_n (a := 30 + (i + 1)) (by omega), gupI_n (a := 30 + i) (by omega), gupI_n (a := 30 + i) (by omega)]
      · rw [vu_n (by omega), gupI_n (by omega), gupI_n (by omega)]; exact hX
      · intro j hj
        rw [vu_n (by omega), gupI_n (by omega), gupI_n (by omega)]; exact hFr j hj
      · intro j hj
        have h := hF j hj
        have h1 := hF (i + 1) (by omega)
        dsimp only at h h1 ⊢
        rw [if_neg (by omega)] at h1
        unfold cE1 at h h1 ⊢
        dsimp only at h h1 ⊢
        rw [vu_n (by omega), vu_n (by omega), gupI_n (a := 26) (by omega), gupI_b, gupI_b, gupI_n (a := 27) (by omega)]
        by_cases g : j = i
        · subst g
          rw [if_pos (by omega), upd_at, upd_at, updL_at, vu_b]
          exact ⟨h1.1, h1.2.1, h1.2.2.1, h1.2.2.2⟩
        · rw [upd_ne g, upd_ne g, updL_ne g, vu_n (by omega), gupI_n (by omega), gupI_n (by omega)]
          have e1 : (a ≤ j ∧ j < i + 1) = (a ≤ j ∧ j < i) := propext ⟨fun q => ⟨q.1, by omega⟩, fun q => ⟨q.1, by omega⟩⟩
          rw [show (if a ≤ j ∧ j < i + 1 then f (j + 1) else f j) = (if a ≤ j ∧ j < i then f (j + 1) else f j) by simp only [e1]]
          exact h
  refine gT_n 2 ?_
  refine ⟨fun c => absurd c (nI_pos (by omega)), fun _ => ?_⟩
  refine gT_n 4 ?_
  refine ⟨rfl, pk_lt a ((n + 1)) (fun κ1 => ?_) (fun κ1 => ?_) (rfl) (hX) (by omega) (by omega)⟩
  · refine gT_n 6 ?_
    refine ⟨rfl, rfl, ?_⟩
    refine gT_kP (b := 25) rfl (X := (nI (((n + 1)) - 1))) (pk_subE (n := ((n + 1))) (k := 1) (hX) (rfl) (by omega)) ?_
    refine gT_n 2 ?_
    have e := loop a (by omega) (Nat.le_refl _) (gupI X 25 4 (nI (n + 1 - 1))) Y (by rw [gupI_rr]; rfl) (fun j hj => gupI_n (by omega)) (fun j hj => ?_)
    · exact gT_k e ⟨rfl, rfl, rfl, trivial⟩ rfl
    have h := hF j hj
    dsimp only
    unfold cE1 at h ⊢
    dsimp only at h ⊢
    rw [if_neg (by omega), gupI_n (a := 26) (by omega), gupI_n (a := 27) (by omega), gupI_n (by omega)]
    exact h
  · exact absurd ha (by omega)
