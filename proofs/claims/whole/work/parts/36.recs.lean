/-! RECORDS -/
theorem pk_addE {x y : Int32} {n k : Nat} (e : x = nI n) (f : y = nI k) : x + y = nI (n + k) := by
  rw [e, f]
  unfold nI
  exact (Int32.ofNat_add n k).symm
theorem pk_subE {x y : Int32} {n k : Nat} (e : x = nI n) (f : y = nI k) (h : k ≤ n) : x - y = nI (n - k) := by
  rw [e, f]; exact pk_sub h
theorem pk_mulE {x y : Int32} {n k : Nat} (e : x = nI n) (f : y = nI k) : x * y = nI (n * k) := by
  rw [e, f]; exact pk_mul n k
theorem nI_neg {x : Int32} {n : Nat} (e : x = nI n) (h : n < 2 ^ 31) : ¬ x = -4 := by
  rw [e]
  intro c
  have h2 : nI n < 0 := by rw [c]; decide
  exact nI_pos h h2
/-- records: name, sort, value -/
abbrev zR : Type := List (Nat × Nat × Nat)
def rg (l : zR) (i : Nat) : Nat × Nat × Nat := l.getD i (0, 0, 0)
def rq (q : Nat × Nat × Nat) : Prop := vn q.1 ∧ q.2.1 < 3 ∧ q.2.2 ≤ 99
def rOK (l : zR) : Prop := l.length ≤ 24 ∧ (∀ q ∈ l, rq q) ∧ (l.map (fun q => (q.1, q.2.1))).Nodup
theorem rg_mem {l : zR} {i : Nat} (h : i < l.length) : rg l i ∈ l := by
  unfold rg
  rw [List.getD_eq_getElem?_getD, List.getElem?_eq_getElem h]
  exact List.getElem_mem h
theorem rOK.o {l : zR} (h : rOK l) : ∀ i, i < l.length → rq (rg l i) := fun i hi => h.2.1 _ (rg_mem hi)
def cR (cn : Int32) (jn : Nat → Int64) (is iv : Nat → Int32) (l : zR) : Prop := cn = nI l.length ∧ ∀ i, i < l.length → jn i = lN (rg l i).1 ∧ is i = nI (rg l i).2.1 ∧ iv i = nI (rg l i).2.2
def mR (cn : Int32) (jn : Nat → Int64) (is iv : Nat → Int32) (l : zR) : Prop := cn = nI l.length ∧ ∀ i, i < l.length → jn i = lN (mo (rg l i).1) ∧ is i = nI (rg l i).2.1 ∧ iv i = nI (rg l i).2.2
def rhit (l : zR) (n s i : Nat) : Prop := i < l.length ∧ (rg l i).1 = n ∧ (rg l i).2.1 = s
def rno (l : zR) (n s : Nat) : Prop := ∀ i, i < l.length → ¬ ((rg l i).1 = n ∧ (rg l i).2.1 = s)
def rIx (l : zR) (n s : Nat) (w : gW) : Option Value → gW → Prop := fun r u => u = w ∧ ((∃ i, rhit l n s i ∧ r = some (.int (nI i))) ∨ (rno l n s ∧ r = some (.int (-4))))
/-- what is told of a name and a sort; -4 -/
def rVal (l : zR) (n s : Nat) (x : Int32) : Prop := (∃ v, (n, s, v) ∈ l ∧ x = nI v) ∨ ((∀ v, (n, s, v) ∉ l) ∧ x = -4)
theorem rhit_mem {l : zR} {n s i : Nat} (h : rhit l n s i) : (n, s, (rg l i).2.2) ∈ l := by
  have := rg_mem h.1
  rw [← h.2.1, ← h.2.2]
  exact this
theorem mem_rg {l : zR} {q : Nat × Nat × Nat} (h : q ∈ l) : ∃ i, i < l.length ∧ rg l i = q := by
  obtain ⟨i, hi, e⟩ := List.getElem_of_mem h
  refine ⟨i, hi, ?_⟩
  unfold rg
  rw [List.getD_eq_getElem?_getD, List.getElem?_eq_getElem hi]
  exact e
theorem rno_mem {l : zR} {n s : Nat} : rno l n s ↔ ∀ v, (n, s, v) ∉ l := by
  constructor
  · intro h v hm
    obtain ⟨i, hi, e⟩ := mem_rg hm
    exact h i hi (by rw [e]; exact ⟨rfl, rfl⟩)
  · intro h i hi ⟨e1, e2⟩
    exact h _ (rhit_mem ⟨hi, e1, e2⟩)
theorem c_indexOf_8 {d n s : Nat} {l : zR} {I : Nat → Nat → Int32} {J : Nat → Nat → Int64} {P : Nat → Nat} (hr : rOK l) (hR : cR (I 8 3) (J 9) (I 10) (I 11) l) (hn : vn n) (hs : s < 3) : gTM d 78 [.ref 8, .long (lN n), .int (nI s)] (gST I J P) (rIx l n s (gST I J P)) := by
  obtain ⟨hc, hE⟩ := hR
  have hO := hr.o
  have h24 := hr.1
  have loop : ∀ j, j ≤ l.length → (∀ k, k < j → ¬ ((rg l k).1 = n ∧ (rg l k).2.1 = s)) → gT d 78 3 [(4, .int (nI j)), (0, .ref 8), (1, .long (lN n)), (3, .int (nI s))] [] (0, 0) (gST I J P) (rIx l n s (gST I J P)) := by
    refine loopU l.length (fun j hj ih hno => ?_)
    refine gT_n 4 ?_
    refine ⟨rfl, pk_le l.length j (fun c1 => ?_) (fun c1 => ?_) (hc) (rfl) (by omega) (by omega)⟩
    · refine gT_n 2 ?_
      exact ⟨rfl, Or.inr ⟨fun k hk => hno k (by omega), rfl⟩⟩
    · refine gT_n 7 ?_
      refine ⟨rfl, rfl, (pk_in j 24 (by omega) (rfl)), pl_ne ((rg l j).1) n (fun c2 => ?_) (fun c2 => ?_) (rdJ (rfl) (by omega) (hE j (by omega)).1) (rfl) ((hO j (by omega)).1.lt) (hn.lt)⟩
      · refine gT_n 2 ?_
        have e := ih (j + 1) (by omega) (by omega) (fun k hk q => by
          rcases Nat.lt_or_ge k j with z | z
          · exact hno k z q
          · have : k = j := by omega
            subst this
            first | exact c2 q.1 | exact c3 q.2)
        rw [← nI_1] at e
        exact e
      · refine gT_n 6 ?_
        refine ⟨rfl, rfl, (pk_in j 24 (by omega) (rfl)), pk_ne ((rg l j).2.1) s (fun c3 => ?_) (fun c3 => ?_) (rdI (rfl) (by omega) (hE j (by omega)).2.1) (rfl) (by have := (hO j (by omega)).2.1; omega) (by omega)⟩
        · refine gT_n 2 ?_
          have e := ih (j + 1) (by omega) (by omega) (fun k hk q => by
            rcases Nat.lt_or_ge k j with z | z
            · exact hno k z q
            · have : k = j := by omega
              subst this
              first | exact c2 q.1 | exact c3 q.2)
          rw [← nI_1] at e
          exact e
        · refine gT_n 2 ?_
          exact ⟨rfl, Or.inl ⟨j, ⟨by omega, c2, c3⟩, rfl⟩⟩
  refine gT_n 2 ?_
  exact loop 0 (by omega) (fun k hk => absurd hk (by omega))
theorem c_indexOf_18 {d n s : Nat} {l : zR} {I : Nat → Nat → Int32} {J : Nat → Nat → Int64} {P : Nat → Nat} (hr : rOK l) (hR : cR (I 18 3) (J 19) (I 20) (I 21) l) (hn : vn n) (hs : s < 3) : gTM d 78 [.ref 18, .long (lN n), .int (nI s)] (gST I J P) (rIx l n s (gST I J P)) := by
  obtain ⟨hc, hE⟩ := hR
  have hO := hr.o
  have h24 := hr.1
  have loop : ∀ j, j ≤ l.length → (∀ k, k < j → ¬ ((rg l k).1 = n ∧ (rg l k).2.1 = s)) → gT d 78 3 [(4, .int (nI j)), (0, .ref 18), (1, .long (lN n)), (3, .int (nI s))] [] (0, 0) (gST I J P) (rIx l n s (gST I J P)) := by
    refine loopU l.length (fun j hj ih hno => ?_)
    refine gT_n 4 ?_
    refine ⟨rfl, pk_le l.length j (fun c1 => ?_) (fun c1 => ?_) (hc) (rfl) (by omega) (by omega)⟩
    · refine gT_n 2 ?_
      exact ⟨rfl, Or.inr ⟨fun k hk => hno k (by omega), rfl⟩⟩
    · refine gT_n 7 ?_
      refine ⟨rfl, rfl, (pk_in j 24 (by omega) (rfl)), pl_ne ((rg l j).1) n (fun c2 => ?_) (fun c2 => ?_) (rdJ (rfl) (by omega) (hE j (by omega)).1) (rfl) ((hO j (by omega)).1.lt) (hn.lt)⟩
      · refine gT_n 2 ?_
        have e := ih (j + 1) (by omega) (by omega) (fun k hk q => by
          rcases Nat.lt_or_ge k j with z | z
          · exact hno k z q
          · have : k = j := by omega
            subst this
            first | exact c2 q.1 | exact c3 q.2)
        rw [← nI_1] at e
        exact e
      · refine gT_n 6 ?_
        refine ⟨rfl, rfl, (pk_in j 24 (by omega) (rfl)), pk_ne ((rg l j).2.1) s (fun c3 => ?_) (fun c3 => ?_) (rdI (rfl) (by omega) (hE j (by omega)).2.1) (rfl) (by have := (hO j (by omega)).2.1; omega) (by omega)⟩
        · refine gT_n 2 ?_
          have e := ih (j + 1) (by omega) (by omega) (fun k hk q => by
            rcases Nat.lt_or_ge k j with z | z
            · exact hno k z q
            · have : k = j := by omega
              subst this
              first | exact c2 q.1 | exact c3 q.2)
          rw [← nI_1] at e
          exact e
        · refine gT_n 2 ?_
          exact ⟨rfl, Or.inl ⟨j, ⟨by omega, c2, c3⟩, rfl⟩⟩
  refine gT_n 2 ?_
  exact loop 0 (by omega) (fun k hk => absurd hk (by omega))
theorem m_recordOf_171 {d n s : Nat} {l : zR} {I : Nat → Nat → Int32} {J : Nat → Nat → Int64} {P : Nat → Nat} (hr : rOK l) (hR : mR (I 171 7) (J 174) (I 175) (I 176) l) (hn : vn n) (hs : s < 3) : gTM d 178 [.ref 171, .long (lN (mo n)), .int (nI s)] (gST I J P) (rIx l n s (gST I J P)) := by
  obtain ⟨hc, hE⟩ := hR
  have hO := hr.o
  have h24 := hr.1
  have loop : ∀ j, j ≤ l.length → (∀ k, k < j → ¬ ((rg l k).1 = n ∧ (rg l k).2.1 = s)) → gT d 178 3 [(4, .int (nI j)), (0, .ref 171), (1, .long (lN (mo n))), (3, .int (nI s))] [] (0, 0) (gST I J P) (rIx l n s (gST I J P)) := by
    refine loopU l.length (fun j hj ih hno => ?_)
    refine gT_n 4 ?_
    refine ⟨rfl, pk_le l.length j (fun c1 => ?_) (fun c1 => ?_) (hc) (rfl) (by omega) (by omega)⟩
    · refine gT_n 2 ?_
      exact ⟨rfl, Or.inr ⟨fun k hk => hno k (by omega), rfl⟩⟩
    · refine gT_n 7 ?_
      refine ⟨rfl, rfl, (pk_in j 25 (by omega) (rfl)), pm_ne ((rg l j).1) n (fun c2 => ?_) (fun c2 => ?_) (rdJ (rfl) (by omega) (hE j (by omega)).1) (rfl) ((hO j (by omega)).1) (hn)⟩
      · refine gT_n 2 ?_
        have e := ih (j + 1) (by omega) (by omega) (fun k hk q => by
          rcases Nat.lt_or_ge k j with z | z
          · exact hno k z q
          · have : k = j := by omega
            subst this
            first | exact c2 q.1 | exact c3 q.2)
        rw [← nI_1] at e
        exact e
      · refine gT_n 6 ?_
        refine ⟨rfl, rfl, (pk_in j 25 (by omega) (rfl)), pk_ne ((rg l j).2.1) s (fun c3 => ?_) (fun c3 => ?_) (rdI (rfl) (by omega) (hE j (by omega)).2.1) (rfl) (by have := (hO j (by omega)).2.1; omega) (by omega)⟩
        · refine gT_n 2 ?_
          have e := ih (j + 1) (by omega) (by omega) (fun k hk q => by
            rcases Nat.lt_or_ge k j with z | z
            · exact hno k z q
            · have : k = j := by omega
              subst this
              first | exact c2 q.1 | exact c3 q.2)
          rw [← nI_1] at e
          exact e
        · refine gT_n 2 ?_
          exact ⟨rfl, Or.inl ⟨j, ⟨by omega, c2, c3⟩, rfl⟩⟩
  refine gT_n 2 ?_
  exact loop 0 (by omega) (fun k hk => absurd hk (by omega))
/-- valueOf -/
theorem c_valueOf {d n s : Nat} {l : zR} {I : Nat → Nat → Int32} {J : Nat → Nat → Int64} {P : Nat → Nat} (hr : rOK l) (hR : cR (I 18 3) (J 19) (I 20) (I 21) l) (hn : vn n) (hs : s < 3) : gTM (d + 1) 79 [.ref 18, .long (lN n), .int (nI s)] (gST I J P) (fun r u => u = gST I J P ∧ ∃ x, rVal l n s x ∧ r = some (.int x)) := by
  have hc := hR.1
  have hE := hR.2
  have hO := hr.o
  have h24 := hr.1
  refine gT_n 4 ?_
  refine ⟨rfl, rfl, gTM.use (c_indexOf_18 hr hR hn hs) (Nat.le_refl _) (fun r u hq => ?_)⟩
  obtain ⟨rfl, ⟨i, hi, rfl⟩ | ⟨hi, rfl⟩⟩ := hq  -- X7_indexOf[R18, lN n, nI s]
  · refine gT_n 3 ?_
    refine ⟨fun _ => ?_, fun c => absurd (nI_pos' (by have := hi.1; omega)) c⟩
    refine gT_n 5 ?_
    refine ⟨rfl, rfl, (pk_in i 24 (by have := hi.1; omega) (rfl)), ?_⟩
    exact ⟨rfl, _, Or.inl ⟨_, rhit_mem hi, rfl⟩, ri (rdI rfl (by have := hi.1; omega) (hE i hi.1).2.2)⟩
  · refine gT_n 3 ?_
    refine ⟨fun c => absurd c (by decide), fun _ => ?_⟩
    refine gT_n 3 ?_
    exact ⟨rfl, _, Or.inr ⟨rno_mem.mp hi, rfl⟩, rfl⟩
