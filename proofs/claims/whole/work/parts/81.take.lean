/-! numbers taken: the class -/
theorem cm3_amo {q : Int32 × Int32 × Int32} {k : Int32} (hk : 0 < k) : ((cm3 q).1 = k ∨ (cm3 q).2.1 = k ∨ (cm3 q).2.2 = k) ↔ amo q k := by
  have h0 : ¬ (0 : Int32) = k := fun e => absurd hk (by rw [← e]; decide)
  have hn : ∀ x : Int32, ¬ 0 < x → ¬ x = k := fun x h e => h (e ▸ hk)
  unfold cm3 amo
  have d : ∀ {A B C : Prop}, (A ∨ B ∨ C ↔ 0 < k ∧ (A ∨ B ∨ C)) := fun {A B C} => ⟨fun h => ⟨hk, h⟩, fun h => h.2⟩
  by_cases h1 : 0 < q.1
  · rw [if_pos h1]
    by_cases h2 : 0 < q.2.1
    · rw [if_pos h2]
      by_cases h3 : 0 < q.2.2
      · rw [if_pos h3]; exact d
      · rw [if_neg h3]
        have := hn _ h3
        exact ⟨fun h => ⟨hk, h.elim Or.inl (fun h => h.elim (fun h => Or.inr (Or.inl h)) (fun h => absurd h h0))⟩, fun h => h.2.elim Or.inl (fun h => h.elim (fun h => Or.inr (Or.inl h)) (fun h => absurd h this))⟩
    · rw [if_neg h2]
      have n2 := hn _ h2
      by_cases h3 : 0 < q.2.2
      · rw [if_pos h3]
        exact ⟨fun h => ⟨hk, h.elim Or.inl (fun h => h.elim (fun h => Or.inr (Or.inr h)) (fun h => absurd h h0))⟩, fun h => h.2.elim Or.inl (fun h => h.elim (fun h => absurd h n2) (fun h => Or.inr (Or.inl h)))⟩
      · rw [if_neg h3]
        have n3 := hn _ h3
        exact ⟨fun h => ⟨hk, h.elim Or.inl (fun h => h.elim (fun h => absurd h h0) (fun h => absurd h h0))⟩, fun h => h.2.elim Or.inl (fun h => h.elim (fun h => absurd h n2) (fun h => absurd h n3))⟩
  · rw [if_neg h1]
    have n1 := hn _ h1
    by_cases h2 : 0 < q.2.1
    · rw [if_pos h2]
      by_cases h3 : 0 < q.2.2
      · rw [if_pos h3]
        exact ⟨fun h => ⟨hk, h.elim (fun h => Or.inr (Or.inl h)) (fun h => h.elim (fun h => Or.inr (Or.inr h)) (fun h => absurd h h0))⟩, fun h => h.2.elim (fun h => absurd h n1) (fun h => h.elim Or.inl (fun h => Or.inr (Or.inl h)))⟩
      · rw [if_neg h3]
        have n3 := hn _ h3
        exact ⟨fun h => ⟨hk, h.elim (fun h => Or.inr (Or.inl h)) (fun h => h.elim (fun h => absurd h h0) (fun h => absurd h h0))⟩, fun h => h.2.elim (fun h => absurd h n1) (fun h => h.elim Or.inl (fun h => absurd h n3))⟩
    · rw [if_neg h2]
      have n2 := hn _ h2
      by_cases h3 : 0 < q.2.2
      · rw [if_pos h3]
        exact ⟨fun h => ⟨hk, h.elim (fun h => Or.inr (Or.inr h)) (fun h => h.elim (fun h => absurd h h0) (fun h => absurd h h0))⟩, fun h => h.2.elim (fun h => absurd h n1) (fun h => h.elim (fun h => absurd h n2) Or.inl)⟩
      · rw [if_neg h3]
        have n3 := hn _ h3
        exact ⟨fun h => h.elim (fun h => absurd h h0) (fun h => h.elim (fun h => absurd h h0) (fun h => absurd h h0)), fun h => h.2.elim (fun h => absurd h n1) (fun h => h.elim (fun h => absurd h n2) (fun h => absurd h n3))⟩
def eOK (t : zT) (C : List zE) : Prop := C.length ≤ 4 ∧ ∀ q ∈ C, q.1 < t.1
theorem eg_mem {C : List zE} {j : Nat} (h : j < C.length) : eg C j ∈ C := by
  unfold eg
  rw [List.getD_eq_getElem?_getD, List.getElem?_eq_getElem h]; exact List.getElem_mem h
theorem eOK_4 {t : zT} {C : List zE} (hz : zOK t) (h : eOK t C) : ∀ j, j < C.length → (eg C j).1 < 4 := fun j hj => by
  have := h.2 _ (eg_mem hj)
  have := hz.2.1
  omega
theorem eOK_app {t : zT} {C : List zE} {e : zE} {z : Nat} {k : Int32} {r : Option Nat} (h : eOK t C) (hr : isE C z k r) (he : e.1 < t.1) : eOK t (sE C r ++ [e]) := by
  refine ⟨by rw [List.length_append]; have := sE_len h.1 hr; show (sE C r).length + 1 ≤ 4; omega, fun q hq => ?_⟩
  rcases List.mem_append.mp hq with g | g
  · refine h.2 q ?_
    cases r with
    | some a => exact List.mem_of_mem_eraseIdx g
    | none =>
      have g : q ∈ (if C.length = 4 then C.tail else C) := g
      by_cases e : C.length = 4
      · rw [if_pos e] at g; exact List.mem_of_mem_tail g
      · rw [if_neg e] at g; exact g
  · rw [List.mem_singleton.mp g]; exact he
theorem gT_kD {I V : Nat → Nat → Int32} {J' : Nat → Nat → Int64} {P : Nat → Nat} {b c d y pc : Nat} {L : gL} {st : List Value} {cu : Nat × Nat} {Q : Option Value → gW → Prop} (h : kIn b = true) (hc : kIn c = false) (g : gT d y pc L st cu (gST (kM I (va_up V b (va_cpy (I c) (V b) 0 0 3))) J' P) Q) : gT d y pc L st cu ((gST (kM I V) J' P).1, va_up (gST (kM I V) J' P).2.1 b (va_cpy ((gST (kM I V) J' P).2.1 c) ((gST (kM I V) J' P).2.1 b) (0 : Int32).toNatClampNeg (0 : Int32).toNatClampNeg (3 : Int32).toNatClampNeg), (gST (kM I V) J' P).2.2) Q := by
  show gT d y pc L st cu (gST (va_up (kM I V) b (va_cpy (kM I V c) (kM I V b) 0 0 3)) J' P) Q
  have e : kM I V c = I c := by unfold kM; rw [hc]; rfl
  rw [kM_at h, e, vup_kM h]; exact g
def tll (t : zT) (ck : Int32) : Int64 := ck.toInt64 + (nI t.2.2.2).toInt64
theorem c_takeT168 {d : Nat} {ck : Int32} {I X : Nat → Nat → Int32} {J : Nat → Nat → Int64} {Y : Nat → Int64} {P : Nat → Nat} {t : zT} (hz : zOK t)  {l : List zI} (hit : itm I J P l) (h10 : l.length ≤ 10) (hok : vIs t l) {i : Nat} (hi : i < l.length) {C : List zE} (hH : cH X Y C) (hE : eOK t C) (hck : I 145 6 = ck) (hsp : I 12 5 = nI t.2.2.2) : gT (d + 2) 102 73 [(0, .ref 167), (2, .ref 168), (3, .ref (P i))] [] (0, 0) (gST (kM I X) (m1 J 28 Y) P) (fun r u => r = none ∧ ∃ X' Y' r0, isE C (ig l i).2.1 (ig l i).1 r0 ∧ u = gST (kM I X') (m1 J 28 Y') P ∧ cH X' Y' (sE C r0 ++ [((ig l i).2.1, (ig l i).1, (X 168 0, X 168 1, X 168 2), tll t ck)]) ∧ (∀ j, 168 ≤ j → X' j = X j) ∧ X' 167 3 = X 167 3 + 1 ∧ (∀ f, ¬ f = 3 → X' 167 f = X 167 f)) := by
  have h4 := hz.2.1
  obtain ⟨hrr, hb, hI⟩ := hit i hi
  have hbb : 147 ≤ P i ∧ P i ≤ 166 := by omega
  have hbb1 : 147 ≤ P i + 1 ∧ P i + 1 ≤ 166 := by omega
  have hq := hok _ (ig_mem hi)
  refine gT_n 18 ?_
  refine ⟨rfl, rfl, hb.ob, hb.ob, rfl, rfl, rfl, rfl, rfl, rfl, gTM.useA (c_store168 hH hE.1 (eOK_4 hz hE) (by have := hq.1; omega)) (Nat.le_refl _) (aR (aI ((Eq.trans (kM_r hbb) (hI.1.2.1))) (aI ((Eq.trans (kM_r hbb) (hI.1.1))) (aR (aL ((k2J (f := fun x y : Int64 => x + y) ((congrArg Int32.toInt64 (hck))) ((congrArg Int32.toInt64 (hsp))) rfl)) (rfl)))))) (fun r u hq => ?_)⟩
  obtain ⟨rfl, X1, Y1, r0, hr0, rfl, hFr, hH1⟩ := hq  -- X0_store[R25, nI ((ig l i).2.1), (ig l i).1, R168, L((ck).toInt64 + ((nI t.2.2.2)).toInt64)]
  refine gT_n 6 ?_
  refine ⟨rfl, rfl, ?_⟩
  refine gT_kP (b := 167) rfl (X := ((X 167 3) + (1 : Int32))) ((k2E (f := fun x y : Int32 => x + y) ((congrFun (hFr 167 (by decide)) 3)) (rfl) rfl)) ?_
  refine gT_n 1 ?_
  refine ⟨rfl, ?_⟩
  refine ⟨rfl, _, _, r0, hr0, rfl, cH_fr (eOK_app hE hr0 hq.1).1 (fun j hj => gupI_n (by omega)) hH1, fun j hj => ?_, gupI_rr, fun f hf => ?_⟩
  · rw [gupI_n (by omega), hFr j (by omega)]
  · rw [gupI_b, upd_ne hf, hFr 167 (by decide)]
theorem c_take168 {d : Nat} {ck : Int32} {I X : Nat → Nat → Int32} {J : Nat → Nat → Int64} {Y : Nat → Int64} {P : Nat → Nat} {t : zT} (hz : zOK t)  {l : List zI} (hit : itm I J P l) (h10 : l.length ≤ 10) (hok : vIs t l) {i : Nat} (hi : i < l.length) {C : List zE} (hH : cH X Y C) (hE : eOK t C) (hck : I 145 6 = ck) (hsp : I 12 5 = nI t.2.2.2) : gTM (d + 2) 102 [.ref 167, .int (nI i), .ref 168] (gST (kM I X) (m1 J 28 Y) P) (fun r u => r = none ∧ ∃ X' Y' r0, isE C (ig l i).2.1 (ig l i).1 r0 ∧ u = gST (kM I X') (m1 J 28 Y') P ∧ cH X' Y' (sE C r0 ++ [((ig l i).2.1, (ig l i).1, cm3 (ig l i).2.2.2.2.2.1, tll t ck)]) ∧ (X' 168 0 = (cm3 (ig l i).2.2.2.2.2.1).1 ∧ X' 168 1 = (cm3 (ig l i).2.2.2.2.2.1).2.1 ∧ X' 168 2 = (cm3 (ig l i).2.2.2.2.2.1).2.2) ∧ X' 167 3 = X 167 3 + 1 ∧ (∀ f, ¬ f = 3 → X' 167 f = X 167 f) ∧ (∀ j, 167 < j → ¬ j = 168 → X' j = X j)) := by
  have h4 := hz.2.1
  obtain ⟨hrr, hb, hI⟩ := hit i hi
  have hbb : 147 ≤ P i ∧ P i ≤ 166 := by omega
  have hbb1 : 147 ≤ P i + 1 ∧ P i + 1 ≤ 166 := by omega
  have hq := hok _ (ig_mem hi)
  refine gT_n 5 ?_
  refine ⟨rfl, rfl, rfl, (pk_in i 10 (by omega) (rfl)), ?_⟩
  refine gT_top (aa_ref (b := P i) (rfl) (by omega) rfl) ?_
  refine gT_n 5 ?_
  refine gT_k (L := [(5, .int 0), (4, .int 0), (3, .ref (P i)), (0, .ref 167), (1, .int (nI i)), (2, .ref 168)]) ?_ ⟨rfl, rfl, rfl, rfl, rfl, rfl, trivial⟩ rfl
  refine gT_n 3 ?_
  refine ⟨fun c => absurd c (by decide), fun _ => ?_⟩
  refine gT_n 2 ?_
  refine ⟨hb.ob, ?_⟩
  refine gT_top (hb.v5) ?_
  refine gT_n 3 ?_
  refine ⟨hb.ar1, (pk_inS (m := 3) (k := 0) (hb.ln1) (by decide) (rfl)), px_le (X := (ig l i).2.2.2.2.2.1.1) (Y := (0)) ((Eq.trans (kM_r hbb1) (hI.2.2.1))) (rfl) (fun κ1 => ?_) (fun κ1 => ?_)⟩
  · refine gT_n 2 ?_
    refine gT_k (L := [(5, .int 1), (4, .int 0), (3, .ref (P i)), (0, .ref 167), (1, .int (nI i)), (2, .ref 168)]) ?_ ⟨rfl, rfl, rfl, rfl, rfl, rfl, trivial⟩ rfl
    refine gT_n 3 ?_
    refine ⟨fun c => absurd c (by decide), fun _ => ?_⟩
    refine gT_n 2 ?_
    refine ⟨hb.ob, ?_⟩
    refine gT_top (hb.v5) ?_
    refine gT_n 3 ?_
    refine ⟨hb.ar1, (pk_inS (m := 3) (k := 1) (hb.ln1) (by decide) (rfl)), px_le (X := (ig l i).2.2.2.2.2.1.2.1) (Y := (0)) ((Eq.trans (kM_r hbb1) (hI.2.2.2.1))) (rfl) (fun κ2 => ?_) (fun κ2 => ?_)⟩
    · refine gT_n 2 ?_
      refine gT_k (L := [(5, .int 2), (4, .int 0), (3, .ref (P i)), (0, .ref 167), (1, .int (nI i)), (2, .ref 168)]) ?_ ⟨rfl, rfl, rfl, rfl, rfl, rfl, trivial⟩ rfl
      refine gT_n 3 ?_
      refine ⟨fun c => absurd c (by decide), fun _ => ?_⟩
      refine gT_n 2 ?_
      refine ⟨hb.ob, ?_⟩
      refine gT_top (hb.v5) ?_
      refine gT_n 3 ?_
      refine ⟨hb.ar1, (pk_inS (m := 3) (k := 2) (hb.ln1) (by decide) (rfl)), px_le (X := (ig l i).2.2.2.2.2.1.2.2) (Y := (0)) ((Eq.trans (kM_r hbb1) (hI.2.2.2.2))) (rfl) (fun κ3 => ?_) (fun κ3 => ?_)⟩
      · refine gT_n 2 ?_
        refine gT_k (L := [(5, .int 3), (4, .int 0), (3, .ref (P i)), (0, .ref 167), (1, .int (nI i)), (2, .ref 168)]) ?_ ⟨rfl, rfl, rfl, rfl, rfl, rfl, trivial⟩ rfl
        refine gT_n 3 ?_
        refine ⟨fun _ => ?_, fun c => absurd (by decide) c⟩
        refine gT_n 2 ?_
        refine gT_k (L := [(5, .int 0), (4, .int 0), (3, .ref (P i)), (0, .ref 167), (1, .int (nI i)), (2, .ref 168)]) ?_ ⟨rfl, rfl, rfl, rfl, rfl, rfl, trivial⟩ rfl
        refine gT_n 3 ?_
        refine ⟨fun c => absurd c (by decide), fun _ => ?_⟩
        refine gT_n 4 ?_
        refine ⟨rfl, (pk_inS (m := 3) (k := 0) (rfl) (by decide) (rfl)), ?_⟩
        refine gT_kA (b := 168) rfl (n := 0) (X := 0) (rfl) (by omega) (rfl) ?_
        refine gT_n 2 ?_
        refine gT_k (L := [(5, .int 1), (4, .int 0), (3, .ref (P i)), (0, .ref 167), (1, .int (nI i)), (2, .ref 168)]) ?_ ⟨rfl, rfl, rfl, rfl, rfl, rfl, trivial⟩ rfl
        refine gT_n 3 ?_
        refine ⟨fun c => absurd c (by decide), fun _ => ?_⟩
        refine gT_n 4 ?_
        refine ⟨rfl, (pk_inS (m := 3) (k := 1) (rfl) (by decide) (rfl)), ?_⟩
        refine gT_kA (b := 168) rfl (n := 1) (X := 0) (rfl) (by omega) (rfl) ?_
        refine gT_n 2 ?_
        refine gT_k (L := [(5, .int 2), (4, .int 0), (3, .ref (P i)), (0, .ref 167), (1, .int (nI i)), (2, .ref 168)]) ?_ ⟨rfl, rfl, rfl, rfl, rfl, rfl, trivial⟩ rfl
        refine gT_n 3 ?_
        refine ⟨fun c => absurd c (by decide), fun _ => ?_⟩
        refine gT_n 4 ?_
        refine ⟨rfl, (pk_inS (m := 3) (k := 2) (rfl) (by decide) (rfl)), ?_⟩
        refine gT_kA (b := 168) rfl (n := 2) (X := 0) (rfl) (by omega) (rfl) ?_
        refine gT_n 2 ?_
        refine gT_k (L := [(5, .int 3), (4, .int 0), (3, .ref (P i)), (0, .ref 167), (1, .int (nI i)), (2, .ref 168)]) ?_ ⟨rfl, rfl, rfl, rfl, rfl, rfl, trivial⟩ rfl
        refine gT_n 3 ?_
        refine ⟨fun _ => ?_, fun c => absurd (by decide) c⟩
        have e : cm3 (ig l i).2.2.2.2.2.1 = (0, 0, 0) := by unfold cm3; rw [if_neg (Int32.not_lt.mpr κ1), if_neg (Int32.not_lt.mpr κ2), if_neg (Int32.not_lt.mpr κ3)]
        refine gT_k (gT_mono _ _ _ _ _ _ _ _ _ (fun r u h => ?_) (c_takeT168 (d := d) hz hit h10 hok hi (cH_fr hE.1 (fun j hj => by rw [gupI_n (by omega), gupI_n (by omega), gupI_n (by omega)]) hH) hE hck hsp)) ⟨rfl, rfl, rfl, trivial⟩ rfl
        obtain ⟨h1, X1, Y1, r0, hr0, h2, hH1, hFr, hc, hf⟩ := h
        refine ⟨h1, X1, Y1, r0, hr0, h2, ?_, ?_, hc, hf, fun j h1 h2 => ?_⟩
        · rw [e]; exact hH1
        · rw [e, hFr 168 (by decide)]
          exact ⟨rfl, rfl, rfl⟩
        · rw [hFr j (by omega), gupI_n h2, gupI_n h2, gupI_n h2]
      · refine gT_n 4 ?_
        refine ⟨hb.ob, ?_⟩
        refine gT_top (hb.v5) ?_
        refine gT_n 3 ?_
        refine ⟨hb.ar1, (pk_inS (m := 3) (k := 2) (hb.ln1) (by decide) (rfl)), rfl, (pk_inS (m := 3) (k := 0) (rfl) (by decide) (rfl)), ?_⟩
        refine gT_kA (b := 168) rfl (n := 0) (X := (ig l i).2.2.2.2.2.1.2.2) (rfl) (by omega) ((Eq.trans (kM_r hbb1) (hI.2.2.2.2))) ?_
        refine gT_n 3 ?_
        refine gT_k (L := [(5, .int 3), (4, .int 1), (3, .ref (P i)), (0, .ref 167), (1, .int (nI i)), (2, .ref 168)]) ?_ ⟨rfl, rfl, rfl, rfl, rfl, rfl, trivial⟩ rfl
        refine gT_n 3 ?_
        refine ⟨fun _ => ?_, fun c => absurd (by decide) c⟩
        refine gT_n 2 ?_
        refine gT_k (L := [(5, .int 1), (4, .int 1), (3, .ref (P i)), (0, .ref 167), (1, .int (nI i)), (2, .ref 168)]) ?_ ⟨rfl, rfl, rfl, rfl, rfl, rfl, trivial⟩ rfl
        refine gT_n 3 ?_
        refine ⟨fun c => absurd c (by decide), fun _ => ?_⟩
        refine gT_n 4 ?_
        refine ⟨rfl, (pk_inS (m := 3) (k := 1) (rfl) (by decide) (rfl)), ?_⟩
        refine gT_kA (b := 168) rfl (n := 1) (X := 0) (rfl) (by omega) (rfl) ?_
        refine gT_n 2 ?_
        refine gT_k (L := [(5, .int 2), (4, .int 1), (3, .ref (P i)), (0, .ref 167), (1, .int (nI i)), (2, .ref 168)]) ?_ ⟨rfl, rfl, rfl, rfl, rfl, rfl, trivial⟩ rfl
        refine gT_n 3 ?_
        refine ⟨fun c => absurd c (by decide), fun _ => ?_⟩
        refine gT_n 4 ?_
        refine ⟨rfl, (pk_inS (m := 3) (k := 2) (rfl) (by decide) (rfl)), ?_⟩
        refine gT_kA (b := 168) rfl (n := 2) (X := 0) (rfl) (by omega) (rfl) ?_
        refine gT_n 2 ?_
        refine gT_k (L := [(5, .int 3), (4, .int 1), (3, .ref (P i)), (0, .ref 167), (1, .int (nI i)), (2, .ref 168)]) ?_ ⟨rfl, rfl, rfl, rfl, rfl, rfl, trivial⟩ rfl
        refine gT_n 3 ?_
        refine ⟨fun _ => ?_, fun c => absurd (by decide) c⟩
        have e : cm3 (ig l i).2.2.2.2.2.1 = ((ig l i).2.2.2.2.2.1.2.2, 0, 0) := by unfold cm3; rw [if_neg (Int32.not_lt.mpr κ1), if_neg (Int32.not_lt.mpr κ2), if_pos (Int32.not_le.mp κ3)]
        refine gT_k (gT_mono _ _ _ _ _ _ _ _ _ (fun r u h => ?_) (c_takeT168 (d := d) hz hit h10 hok hi (cH_fr hE.1 (fun j hj => by rw [gupI_n (by omega), gupI_n (by omega), gupI_n (by omega)]) hH) hE hck hsp)) ⟨rfl, rfl, rfl, trivial⟩ rfl
        obtain ⟨h1, X1, Y1, r0, hr0, h2, hH1, hFr, hc, hf⟩ := h
        refine ⟨h1, X1, Y1, r0, hr0, h2, ?_, ?_, hc, hf, fun j h1 h2 => ?_⟩
        · rw [e]; exact hH1
        · rw [e, hFr 168 (by decide)]
          exact ⟨rfl, rfl, rfl⟩
        · rw [hFr j (by omega), gupI_n h2, gupI_n h2, gupI_n h2]
    · refine gT_n 4 ?_
      refine ⟨hb.ob, ?_⟩
      refine gT_top (hb.v5) ?_
      refine gT_n 3 ?_
      refine ⟨hb.ar1, (pk_inS (m := 3) (k := 1) (hb.ln1) (by decide) (rfl)), rfl, (pk_inS (m := 3) (k := 0) (rfl) (by decide) (rfl)), ?_⟩
      refine gT_kA (b := 168) rfl (n := 0) (X := (ig l i).2.2.2.2.2.1.2.1) (rfl) (by omega) ((Eq.trans (kM_r hbb1) (hI.2.2.2.1))) ?_
      refine gT_n 3 ?_
      refine gT_k (L := [(5, .int 2), (4, .int 1), (3, .ref (P i)), (0, .ref 167), (1, .int (nI i)), (2, .ref 168)]) ?_ ⟨rfl, rfl, rfl, rfl, rfl, rfl, trivial⟩ rfl
      refine gT_n 3 ?_
      refine ⟨fun c => absurd c (by decide), fun _ => ?_⟩
      refine gT_n 2 ?_
      refine ⟨hb.ob, ?_⟩
      refine gT_top (hb.v5) ?_
      refine gT_n 3 ?_
      refine ⟨hb.ar1, (pk_inS (m := 3) (k := 2) (hb.ln1) (by decide) (rfl)), px_le (X := (ig l i).2.2.2.2.2.1.2.2) (Y := (0)) ((Eq.trans (kM_r hbb1) (hI.2.2.2.2))) (rfl) (fun κ4 => ?_) (fun κ4 => ?_)⟩
      · refine gT_n 2 ?_
        refine gT_k (L := [(5, .int 3), (4, .int 1), (3, .ref (P i)), (0, .ref 167), (1, .int (nI i)), (2, .ref 168)]) ?_ ⟨rfl, rfl, rfl, rfl, rfl, rfl, trivial⟩ rfl
        refine gT_n 3 ?_
        refine ⟨fun _ => ?_, fun c => absurd (by decide) c⟩
        refine gT_n 2 ?_
        refine gT_k (L := [(5, .int 1), (4, .int 1), (3, .ref (P i)), (0, .ref 167), (1, .int (nI i)), (2, .ref 168)]) ?_ ⟨rfl, rfl, rfl, rfl, rfl, rfl, trivial⟩ rfl
        refine gT_n 3 ?_
        refine ⟨fun c => absurd c (by decide), fun _ => ?_⟩
        refine gT_n 4 ?_
        refine ⟨rfl, (pk_inS (m := 3) (k := 1) (rfl) (by decide) (rfl)), ?_⟩
        refine gT_kA (b := 168) rfl (n := 1) (X := 0) (rfl) (by omega) (rfl) ?_
        refine gT_n 2 ?_
        refine gT_k (L := [(5, .int 2), (4, .int 1), (3, .ref (P i)), (0, .ref 167), (1, .int (nI i)), (2, .ref 168)]) ?_ ⟨rfl, rfl, rfl, rfl, rfl, rfl, trivial⟩ rfl
        refine gT_n 3 ?_
        refine ⟨fun c => absurd c (by decide), fun _ => ?_⟩
        refine gT_n 4 ?_
        refine ⟨rfl, (pk_inS (m := 3) (k := 2) (rfl) (by decide) (rfl)), ?_⟩
        refine gT_kA (b := 168) rfl (n := 2) (X := 0) (rfl) (by omega) (rfl) ?_
        refine gT_n 2 ?_
        refine gT_k (L := [(5, .int 3), (4, .int 1), (3, .ref (P i)), (0, .ref 167), (1, .int (nI i)), (2, .ref 168)]) ?_ ⟨rfl, rfl, rfl, rfl, rfl, rfl, trivial⟩ rfl
        refine gT_n 3 ?_
        refine ⟨fun _ => ?_, fun c => absurd (by decide) c⟩
        have e : cm3 (ig l i).2.2.2.2.2.1 = ((ig l i).2.2.2.2.2.1.2.1, 0, 0) := by unfold cm3; rw [if_neg (Int32.not_lt.mpr κ1), if_pos (Int32.not_le.mp κ2), if_neg (Int32.not_lt.mpr κ4)]
        refine gT_k (gT_mono _ _ _ _ _ _ _ _ _ (fun r u h => ?_) (c_takeT168 (d := d) hz hit h10 hok hi (cH_fr hE.1 (fun j hj => by rw [gupI_n (by omega), gupI_n (by omega), gupI_n (by omega)]) hH) hE hck hsp)) ⟨rfl, rfl, rfl, trivial⟩ rfl
        obtain ⟨h1, X1, Y1, r0, hr0, h2, hH1, hFr, hc, hf⟩ := h
        refine ⟨h1, X1, Y1, r0, hr0, h2, ?_, ?_, hc, hf, fun j h1 h2 => ?_⟩
        · rw [e]; exact hH1
        · rw [e, hFr 168 (by decide)]
          exact ⟨rfl, rfl, rfl⟩
        · rw [hFr j (by omega), gupI_n h2, gupI_n h2, gupI_n h2]
      · refine gT_n 4 ?_
        refine ⟨hb.ob, ?_⟩
        refine gT_top (hb.v5) ?_
        refine gT_n 3 ?_
        refine ⟨hb.ar1, (pk_inS (m := 3) (k := 2) (hb.ln1) (by decide) (rfl)), rfl, (pk_inS (m := 3) (k := 1) (rfl) (by decide) (rfl)), ?_⟩
        refine gT_kA (b := 168) rfl (n := 1) (X := (ig l i).2.2.2.2.2.1.2.2) (rfl) (by omega) ((Eq.trans (kM_r hbb1) (hI.2.2.2.2))) ?_
        refine gT_n 3 ?_
        refine gT_k (L := [(5, .int 3), (4, .int 2), (3, .ref (P i)), (0, .ref 167), (1, .int (nI i)), (2, .ref 168)]) ?_ ⟨rfl, rfl, rfl, rfl, rfl, rfl, trivial⟩ rfl
        refine gT_n 3 ?_
        refine ⟨fun _ => ?_, fun c => absurd (by decide) c⟩
        refine gT_n 2 ?_
        refine gT_k (L := [(5, .int 2), (4, .int 2), (3, .ref (P i)), (0, .ref 167), (1, .int (nI i)), (2, .ref 168)]) ?_ ⟨rfl, rfl, rfl, rfl, rfl, rfl, trivial⟩ rfl
        refine gT_n 3 ?_
        refine ⟨fun c => absurd c (by decide), fun _ => ?_⟩
        refine gT_n 4 ?_
        refine ⟨rfl, (pk_inS (m := 3) (k := 2) (rfl) (by decide) (rfl)), ?_⟩
        refine gT_kA (b := 168) rfl (n := 2) (X := 0) (rfl) (by omega) (rfl) ?_
        refine gT_n 2 ?_
        refine gT_k (L := [(5, .int 3), (4, .int 2), (3, .ref (P i)), (0, .ref 167), (1, .int (nI i)), (2, .ref 168)]) ?_ ⟨rfl, rfl, rfl, rfl, rfl, rfl, trivial⟩ rfl
        refine gT_n 3 ?_
        refine ⟨fun _ => ?_, fun c => absurd (by decide) c⟩
        have e : cm3 (ig l i).2.2.2.2.2.1 = ((ig l i).2.2.2.2.2.1.2.1, (ig l i).2.2.2.2.2.1.2.2, 0) := by unfold cm3; rw [if_neg (Int32.not_lt.mpr κ1), if_pos (Int32.not_le.mp κ2), if_pos (Int32.not_le.mp κ4)]
        refine gT_k (gT_mono _ _ _ _ _ _ _ _ _ (fun r u h => ?_) (c_takeT168 (d := d) hz hit h10 hok hi (cH_fr hE.1 (fun j hj => by rw [gupI_n (by omega), gupI_n (by omega), gupI_n (by omega)]) hH) hE hck hsp)) ⟨rfl, rfl, rfl, trivial⟩ rfl
        obtain ⟨h1, X1, Y1, r0, hr0, h2, hH1, hFr, hc, hf⟩ := h
        refine ⟨h1, X1, Y1, r0, hr0, h2, ?_, ?_, hc, hf, fun j h1 h2 => ?_⟩
        · rw [e]; exact hH1
        · rw [e, hFr 168 (by decide)]
          exact ⟨rfl, rfl, rfl⟩
        · rw [hFr j (by omega), gupI_n h2, gupI_n h2, gupI_n h2]
  · refine gT_n 4 ?_
    refine ⟨hb.ob, ?_⟩
    refine gT_top (hb.v5) ?_
    refine gT_n 3 ?_
    refine ⟨hb.ar1, (pk_inS (m := 3) (k := 0) (hb.ln1) (by decide) (rfl)), rfl, (pk_inS (m := 3) (k := 0) (rfl) (by decide) (rfl)), ?_⟩
    refine gT_kA (b := 168) rfl (n := 0) (X := (ig l i).2.2.2.2.2.1.1) (rfl) (by omega) ((Eq.trans (kM_r hbb1) (hI.2.2.1))) ?_
    refine gT_n 3 ?_
    refine gT_k (L := [(5, .int 1), (4, .int 1), (3, .ref (P i)), (0, .ref 167), (1, .int (nI i)), (2, .ref 168)]) ?_ ⟨rfl, rfl, rfl, rfl, rfl, rfl, trivial⟩ rfl
    refine gT_n 3 ?_
    refine ⟨fun c => absurd c (by decide), fun _ => ?_⟩
    refine gT_n 2 ?_
    refine ⟨hb.ob, ?_⟩
    refine gT_top (hb.v5) ?_
    refine gT_n 3 ?_
    refine ⟨hb.ar1, (pk_inS (m := 3) (k := 1) (hb.ln1) (by decide) (rfl)), px_le (X := (ig l i).2.2.2.2.2.1.2.1) (Y := (0)) ((Eq.trans (kM_r hbb1) (hI.2.2.2.1))) (rfl) (fun κ5 => ?_) (fun κ5 => ?_)⟩
    · refine gT_n 2 ?_
      refine gT_k (L := [(5, .int 2), (4, .int 1), (3, .ref (P i)), (0, .ref 167), (1, .int (nI i)), (2, .ref 168)]) ?_ ⟨rfl, rfl, rfl, rfl, rfl, rfl, trivial⟩ rfl
      refine gT_n 3 ?_
      refine ⟨fun c => absurd c (by decide), fun _ => ?_⟩
      refine gT_n 2 ?_
      refine ⟨hb.ob, ?_⟩
      refine gT_top (hb.v5) ?_
      refine gT_n 3 ?_
      refine ⟨hb.ar1, (pk_inS (m := 3) (k := 2) (hb.ln1) (by decide) (rfl)), px_le (X := (ig l i).2.2.2.2.2.1.2.2) (Y := (0)) ((Eq.trans (kM_r hbb1) (hI.2.2.2.2))) (rfl) (fun κ6 => ?_) (fun κ6 => ?_)⟩
      · refine gT_n 2 ?_
        refine gT_k (L := [(5, .int 3), (4, .int 1), (3, .ref (P i)), (0, .ref 167), (1, .int (nI i)), (2, .ref 168)]) ?_ ⟨rfl, rfl, rfl, rfl, rfl, rfl, trivial⟩ rfl
        refine gT_n 3 ?_
        refine ⟨fun _ => ?_, fun c => absurd (by decide) c⟩
        refine gT_n 2 ?_
        refine gT_k (L := [(5, .int 1), (4, .int 1), (3, .ref (P i)), (0, .ref 167), (1, .int (nI i)), (2, .ref 168)]) ?_ ⟨rfl, rfl, rfl, rfl, rfl, rfl, trivial⟩ rfl
        refine gT_n 3 ?_
        refine ⟨fun c => absurd c (by decide), fun _ => ?_⟩
        refine gT_n 4 ?_
        refine ⟨rfl, (pk_inS (m := 3) (k := 1) (rfl) (by decide) (rfl)), ?_⟩
        refine gT_kA (b := 168) rfl (n := 1) (X := 0) (rfl) (by omega) (rfl) ?_
        refine gT_n 2 ?_
        refine gT_k (L := [(5, .int 2), (4, .int 1), (3, .ref (P i)), (0, .ref 167), (1, .int (nI i)), (2, .ref 168)]) ?_ ⟨rfl, rfl, rfl, rfl, rfl, rfl, trivial⟩ rfl
        refine gT_n 3 ?_
        refine ⟨fun c => absurd c (by decide), fun _ => ?_⟩
        refine gT_n 4 ?_
        refine ⟨rfl, (pk_inS (m := 3) (k := 2) (rfl) (by decide) (rfl)), ?_⟩
        refine gT_kA (b := 168) rfl (n := 2) (X := 0) (rfl) (by omega) (rfl) ?_
        refine gT_n 2 ?_
        refine gT_k (L := [(5, .int 3), (4, .int 1), (3, .ref (P i)), (0, .ref 167), (1, .int (nI i)), (2, .ref 168)]) ?_ ⟨rfl, rfl, rfl, rfl, rfl, rfl, trivial⟩ rfl
        refine gT_n 3 ?_
        refine ⟨fun _ => ?_, fun c => absurd (by decide) c⟩
        have e : cm3 (ig l i).2.2.2.2.2.1 = ((ig l i).2.2.2.2.2.1.1, 0, 0) := by unfold cm3; rw [if_pos (Int32.not_le.mp κ1), if_neg (Int32.not_lt.mpr κ5), if_neg (Int32.not_lt.mpr κ6)]
        refine gT_k (gT_mono _ _ _ _ _ _ _ _ _ (fun r u h => ?_) (c_takeT168 (d := d) hz hit h10 hok hi (cH_fr hE.1 (fun j hj => by rw [gupI_n (by omega), gupI_n (by omega), gupI_n (by omega)]) hH) hE hck hsp)) ⟨rfl, rfl, rfl, trivial⟩ rfl
        obtain ⟨h1, X1, Y1, r0, hr0, h2, hH1, hFr, hc, hf⟩ := h
        refine ⟨h1, X1, Y1, r0, hr0, h2, ?_, ?_, hc, hf, fun j h1 h2 => ?_⟩
        · rw [e]; exact hH1
        · rw [e, hFr 168 (by decide)]
          exact ⟨rfl, rfl, rfl⟩
        · rw [hFr j (by omega), gupI_n h2, gupI_n h2, gupI_n h2]
      · refine gT_n 4 ?_
        refine ⟨hb.ob, ?_⟩
        refine gT_top (hb.v5) ?_
        refine gT_n 3 ?_
        refine ⟨hb.ar1, (pk_inS (m := 3) (k := 2) (hb.ln1) (by decide) (rfl)), rfl, (pk_inS (m := 3) (k := 1) (rfl) (by decide) (rfl)), ?_⟩
        refine gT_kA (b := 168) rfl (n := 1) (X := (ig l i).2.2.2.2.2.1.2.2) (rfl) (by omega) ((Eq.trans (kM_r hbb1) (hI.2.2.2.2))) ?_
        refine gT_n 3 ?_
        refine gT_k (L := [(5, .int 3), (4, .int 2), (3, .ref (P i)), (0, .ref 167), (1, .int (nI i)), (2, .ref 168)]) ?_ ⟨rfl, rfl, rfl, rfl, rfl, rfl, trivial⟩ rfl
        refine gT_n 3 ?_
        refine ⟨fun _ => ?_, fun c => absurd (by decide) c⟩
        refine gT_n 2 ?_
        refine gT_k (L := [(5, .int 2), (4, .int 2), (3, .ref (P i)), (0, .ref 167), (1, .int (nI i)), (2, .ref 168)]) ?_ ⟨rfl, rfl, rfl, rfl, rfl, rfl, trivial⟩ rfl
        refine gT_n 3 ?_
        refine ⟨fun c => absurd c (by decide), fun _ => ?_⟩
        refine gT_n 4 ?_
        refine ⟨rfl, (pk_inS (m := 3) (k := 2) (rfl) (by decide) (rfl)), ?_⟩
        refine gT_kA (b := 168) rfl (n := 2) (X := 0) (rfl) (by omega) (rfl) ?_
        refine gT_n 2 ?_
        refine gT_k (L := [(5, .int 3), (4, .int 2), (3, .ref (P i)), (0, .ref 167), (1, .int (nI i)), (2, .ref 168)]) ?_ ⟨rfl, rfl, rfl, rfl, rfl, rfl, trivial⟩ rfl
        refine gT_n 3 ?_
        refine ⟨fun _ => ?_, fun c => absurd (by decide) c⟩
        have e : cm3 (ig l i).2.2.2.2.2.1 = ((ig l i).2.2.2.2.2.1.1, (ig l i).2.2.2.2.2.1.2.2, 0) := by unfold cm3; rw [if_pos (Int32.not_le.mp κ1), if_neg (Int32.not_lt.mpr κ5), if_pos (Int32.not_le.mp κ6)]
        refine gT_k (gT_mono _ _ _ _ _ _ _ _ _ (fun r u h => ?_) (c_takeT168 (d := d) hz hit h10 hok hi (cH_fr hE.1 (fun j hj => by rw [gupI_n (by omega), gupI_n (by omega), gupI_n (by omega)]) hH) hE hck hsp)) ⟨rfl, rfl, rfl, trivial⟩ rfl
        obtain ⟨h1, X1, Y1, r0, hr0, h2, hH1, hFr, hc, hf⟩ := h
        refine ⟨h1, X1, Y1, r0, hr0, h2, ?_, ?_, hc, hf, fun j h1 h2 => ?_⟩
        · rw [e]; exact hH1
        · rw [e, hFr 168 (by decide)]
          exact ⟨rfl, rfl, rfl⟩
        · rw [hFr j (by omega), gupI_n h2, gupI_n h2, gupI_n h2]
    · refine gT_n 4 ?_
      refine ⟨hb.ob, ?_⟩
      refine gT_top (hb.v5) ?_
      refine gT_n 3 ?_
      refine ⟨hb.ar1, (pk_inS (m := 3) (k := 1) (hb.ln1) (by decide) (rfl)), rfl, (pk_inS (m := 3) (k := 1) (rfl) (by decide) (rfl)), ?_⟩
      refine gT_kA (b := 168) rfl (n := 1) (X := (ig l i).2.2.2.2.2.1.2.1) (rfl) (by omega) ((Eq.trans (kM_r hbb1) (hI.2.2.2.1))) ?_
      refine gT_n 3 ?_
      refine gT_k (L := [(5, .int 2), (4, .int 2), (3, .ref (P i)), (0, .ref 167), (1, .int (nI i)), (2, .ref 168)]) ?_ ⟨rfl, rfl, rfl, rfl, rfl, rfl, trivial⟩ rfl
      refine gT_n 3 ?_
      refine ⟨fun c => absurd c (by decide), fun _ => ?_⟩
      refine gT_n 2 ?_
      refine ⟨hb.ob, ?_⟩
      refine gT_top (hb.v5) ?_
      refine gT_n 3 ?_
      refine ⟨hb.ar1, (pk_inS (m := 3) (k := 2) (hb.ln1) (by decide) (rfl)), px_le (X := (ig l i).2.2.2.2.2.1.2.2) (Y := (0)) ((Eq.trans (kM_r hbb1) (hI.2.2.2.2))) (rfl) (fun κ7 => ?_) (fun κ7 => ?_)⟩
      · refine gT_n 2 ?_
        refine gT_k (L := [(5, .int 3), (4, .int 2), (3, .ref (P i)), (0, .ref 167), (1, .int (nI i)), (2, .ref 168)]) ?_ ⟨rfl, rfl, rfl, rfl, rfl, rfl, trivial⟩ rfl
        refine gT_n 3 ?_
        refine ⟨fun _ => ?_, fun c => absurd (by decide) c⟩
        refine gT_n 2 ?_
        refine gT_k (L := [(5, .int 2), (4, .int 2), (3, .ref (P i)), (0, .ref 167), (1, .int (nI i)), (2, .ref 168)]) ?_ ⟨rfl, rfl, rfl, rfl, rfl, rfl, trivial⟩ rfl
        refine gT_n 3 ?_
        refine ⟨fun c => absurd c (by decide), fun _ => ?_⟩
        refine gT_n 4 ?_
        refine ⟨rfl, (pk_inS (m := 3) (k := 2) (rfl) (by decide) (rfl)), ?_⟩
        refine gT_kA (b := 168) rfl (n := 2) (X := 0) (rfl) (by omega) (rfl) ?_
        refine gT_n 2 ?_
        refine gT_k (L := [(5, .int 3), (4, .int 2), (3, .ref (P i)), (0, .ref 167), (1, .int (nI i)), (2, .ref 168)]) ?_ ⟨rfl, rfl, rfl, rfl, rfl, rfl, trivial⟩ rfl
        refine gT_n 3 ?_
        refine ⟨fun _ => ?_, fun c => absurd (by decide) c⟩
        have e : cm3 (ig l i).2.2.2.2.2.1 = ((ig l i).2.2.2.2.2.1.1, (ig l i).2.2.2.2.2.1.2.1, 0) := by unfold cm3; rw [if_pos (Int32.not_le.mp κ1), if_pos (Int32.not_le.mp κ5), if_neg (Int32.not_lt.mpr κ7)]
        refine gT_k (gT_mono _ _ _ _ _ _ _ _ _ (fun r u h => ?_) (c_takeT168 (d := d) hz hit h10 hok hi (cH_fr hE.1 (fun j hj => by rw [gupI_n (by omega), gupI_n (by omega), gupI_n (by omega)]) hH) hE hck hsp)) ⟨rfl, rfl, rfl, trivial⟩ rfl
        obtain ⟨h1, X1, Y1, r0, hr0, h2, hH1, hFr, hc, hf⟩ := h
        refine ⟨h1, X1, Y1, r0, hr0, h2, ?_, ?_, hc, hf, fun j h1 h2 => ?_⟩
        · rw [e]; exact hH1
        · rw [e, hFr 168 (by decide)]
          exact ⟨rfl, rfl, rfl⟩
        · rw [hFr j (by omega), gupI_n h2, gupI_n h2, gupI_n h2]
      · refine gT_n 4 ?_
        refine ⟨hb.ob, ?_⟩
        refine gT_top (hb.v5) ?_
        refine gT_n 3 ?_
        refine ⟨hb.ar1, (pk_inS (m := 3) (k := 2) (hb.ln1) (by decide) (rfl)), rfl, (pk_inS (m := 3) (k := 2) (rfl) (by decide) (rfl)), ?_⟩
        refine gT_kA (b := 168) rfl (n := 2) (X := (ig l i).2.2.2.2.2.1.2.2) (rfl) (by omega) ((Eq.trans (kM_r hbb1) (hI.2.2.2.2))) ?_
        refine gT_n 3 ?_
        refine gT_k (L := [(5, .int 3), (4, .int 3), (3, .ref (P i)), (0, .ref 167), (1, .int (nI i)), (2, .ref 168)]) ?_ ⟨rfl, rfl, rfl, rfl, rfl, rfl, trivial⟩ rfl
        refine gT_n 3 ?_
        refine ⟨fun _ => ?_, fun c => absurd (by decide) c⟩
        refine gT_n 2 ?_
        refine gT_k (L := [(5, .int 3), (4, .int 3), (3, .ref (P i)), (0, .ref 167), (1, .int (nI i)), (2, .ref 168)]) ?_ ⟨rfl, rfl, rfl, rfl, rfl, rfl, trivial⟩ rfl
        refine gT_n 3 ?_
        refine ⟨fun _ => ?_, fun c => absurd (by decide) c⟩
        have e : cm3 (ig l i).2.2.2.2.2.1 = ((ig l i).2.2.2.2.2.1.1, (ig l i).2.2.2.2.2.1.2.1, (ig l i).2.2.2.2.2.1.2.2) := by unfold cm3; rw [if_pos (Int32.not_le.mp κ1), if_pos (Int32.not_le.mp κ5), if_pos (Int32.not_le.mp κ7)]
        refine gT_k (gT_mono _ _ _ _ _ _ _ _ _ (fun r u h => ?_) (c_takeT168 (d := d) hz hit h10 hok hi (cH_fr hE.1 (fun j hj => by rw [gupI_n (by omega), gupI_n (by omega), gupI_n (by omega)]) hH) hE hck hsp)) ⟨rfl, rfl, rfl, trivial⟩ rfl
        obtain ⟨h1, X1, Y1, r0, hr0, h2, hH1, hFr, hc, hf⟩ := h
        refine ⟨h1, X1, Y1, r0, hr0, h2, ?_, ?_, hc, hf, fun j h1 h2 => ?_⟩
        · rw [e]; exact hH1
        · rw [e, hFr 168 (by decide)]
          exact ⟨rfl, rfl, rfl⟩
        · rw [hFr j (by omega), gupI_n h2, gupI_n h2, gupI_n h2]
theorem c_takeT169 {d : Nat} {ck : Int32} {I X : Nat → Nat → Int32} {J : Nat → Nat → Int64} {Y : Nat → Int64} {P : Nat → Nat} {t : zT} (hz : zOK t)  {l : List zI} (hit : itm I J P l) (h10 : l.length ≤ 10) (hok : vIs t l) {i : Nat} (hi : i < l.length) {C : List zE} (hH : cH X Y C) (hE : eOK t C) (hck : I 145 6 = ck) (hsp : I 12 5 = nI t.2.2.2) : gT (d + 2) 102 73 [(0, .ref 167), (2, .ref 169), (3, .ref (P i))] [] (0, 0) (gST (kM I X) (m1 J 28 Y) P) (fun r u => r = none ∧ ∃ X' Y' r0, isE C (ig l i).2.1 (ig l i).1 r0 ∧ u = gST (kM I X') (m1 J 28 Y') P ∧ cH X' Y' (sE C r0 ++ [((ig l i).2.1, (ig l i).1, (X 169 0, X 169 1, X 169 2), tll t ck)]) ∧ (∀ j, 168 ≤ j → X' j = X j) ∧ X' 167 3 = X 167 3 + 1 ∧ (∀ f, ¬ f = 3 → X' 167 f = X 167 f)) := by
  have h4 := hz.2.1
  obtain ⟨hrr, hb, hI⟩ := hit i hi
  have hbb : 147 ≤ P i ∧ P i ≤ 166 := by omega
  have hbb1 : 147 ≤ P i + 1 ∧ P i + 1 ≤ 166 := by omega
  have hq := hok _ (ig_mem hi)
  refine gT_n 18 ?_
  refine ⟨rfl, rfl, hb.ob, hb.ob, rfl, rfl, rfl, rfl, rfl, rfl, gTM.useA (c_store169 hH hE.1 (eOK_4 hz hE) (by have := hq.1; omega)) (Nat.le_refl _) (aR (aI ((Eq.trans (kM_r hbb) (hI.1.2.1))) (aI ((Eq.trans (kM_r hbb) (hI.1.1))) (aR (aL ((k2J (f := fun x y : Int64 => x + y) ((congrArg Int32.toInt64 (hck))) ((congrArg Int32.toInt64 (hsp))) rfl)) (rfl)))))) (fun r u hq => ?_)⟩
  obtain ⟨rfl, X1, Y1, r0, hr0, rfl, hFr, hH1⟩ := hq  -- X0_store[R25, nI ((ig l i).2.1), (ig l i).1, R169, L((ck).toInt64 + ((nI t.2.2.2)).toInt64)]
  refine gT_n 6 ?_
  refine ⟨rfl, rfl, ?_⟩
  refine gT_kP (b := 167) rfl (X := ((X 167 3) + (1 : Int32))) ((k2E (f := fun x y : Int32 => x + y) ((congrFun (hFr 167 (by decide)) 3)) (rfl) rfl)) ?_
  refine gT_n 1 ?_
  refine ⟨rfl, ?_⟩
  refine ⟨rfl, _, _, r0, hr0, rfl, cH_fr (eOK_app hE hr0 hq.1).1 (fun j hj => gupI_n (by omega)) hH1, fun j hj => ?_, gupI_rr, fun f hf => ?_⟩
  · rw [gupI_n (by omega), hFr j (by omega)]
  · rw [gupI_b, upd_ne hf, hFr 167 (by decide)]
theorem c_take169 {d : Nat} {ck : Int32} {I X : Nat → Nat → Int32} {J : Nat → Nat → Int64} {Y : Nat → Int64} {P : Nat → Nat} {t : zT} (hz : zOK t)  {l : List zI} (hit : itm I J P l) (h10 : l.length ≤ 10) (hok : vIs t l) {i : Nat} (hi : i < l.length) {C : List zE} (hH : cH X Y C) (hE : eOK t C) (hck : I 145 6 = ck) (hsp : I 12 5 = nI t.2.2.2) : gTM (d + 2) 102 [.ref 167, .int (nI i), .ref 169] (gST (kM I X) (m1 J 28 Y) P) (fun r u => r = none ∧ ∃ X' Y' r0, isE C (ig l i).2.1 (ig l i).1 r0 ∧ u = gST (kM I X') (m1 J 28 Y') P ∧ cH X' Y' (sE C r0 ++ [((ig l i).2.1, (ig l i).1, cm3 (ig l i).2.2.2.2.2.1, tll t ck)]) ∧ (X' 169 0 = (cm3 (ig l i).2.2.2.2.2.1).1 ∧ X' 169 1 = (cm3 (ig l i).2.2.2.2.2.1).2.1 ∧ X' 169 2 = (cm3 (ig l i).2.2.2.2.2.1).2.2) ∧ X' 167 3 = X 167 3 + 1 ∧ (∀ f, ¬ f = 3 → X' 167 f = X 167 f) ∧ (∀ j, 167 < j → ¬ j = 169 → X' j = X j)) := by
  have h4 := hz.2.1
  obtain ⟨hrr, hb, hI⟩ := hit i hi
  have hbb : 147 ≤ P i ∧ P i ≤ 166 := by omega
  have hbb1 : 147 ≤ P i + 1 ∧ P i + 1 ≤ 166 := by omega
  have hq := hok _ (ig_mem hi)
  refine gT_n 5 ?_
  refine ⟨rfl, rfl, rfl, (pk_in i 10 (by omega) (rfl)), ?_⟩
  refine gT_top (aa_ref (b := P i) (rfl) (by omega) rfl) ?_
  refine gT_n 5 ?_
  refine gT_k (L := [(5, .int 0), (4, .int 0), (3, .ref (P i)), (0, .ref 167), (1, .int (nI i)), (2, .ref 169)]) ?_ ⟨rfl, rfl, rfl, rfl, rfl, rfl, trivial⟩ rfl
  refine gT_n 3 ?_
  refine ⟨fun c => absurd c (by decide), fun _ => ?_⟩
  refine gT_n 2 ?_
  refine ⟨hb.ob, ?_⟩
  refine gT_top (hb.v5) ?_
  refine gT_n 3 ?_
  refine ⟨hb.ar1, (pk_inS (m := 3) (k := 0) (hb.ln1) (by decide) (rfl)), px_le (X := (ig l i).2.2.2.2.2.1.1) (Y := (0)) ((Eq.trans (kM_r hbb1) (hI.2.2.1))) (rfl) (fun κ1 => ?_) (fun κ1 => ?_)⟩
  · refine gT_n 2 ?_
    refine gT_k (L := [(5, .int 1), (4, .int 0), (3, .ref (P i)), (0, .ref 167), (1, .int (nI i)), (2, .ref 169)]) ?_ ⟨rfl, rfl, rfl, rfl, rfl, rfl, trivial⟩ rfl
    refine gT_n 3 ?_
    refine ⟨fun c => absurd c (by decide), fun _ => ?_⟩
    refine gT_n 2 ?_
    refine ⟨hb.ob, ?_⟩
    refine gT_top (hb.v5) ?_
    refine gT_n 3 ?_
    refine ⟨hb.ar1, (pk_inS (m := 3) (k := 1) (hb.ln1) (by decide) (rfl)), px_le (X := (ig l i).2.2.2.2.2.1.2.1) (Y := (0)) ((Eq.trans (kM_r hbb1) (hI.2.2.2.1))) (rfl) (fun κ2 => ?_) (fun κ2 => ?_)⟩
    · refine gT_n 2 ?_
      refine gT_k (L := [(5, .int 2), (4, .int 0), (3, .ref (P i)), (0, .ref 167), (1, .int (nI i)), (2, .ref 169)]) ?_ ⟨rfl, rfl, rfl, rfl, rfl, rfl, trivial⟩ rfl
      refine gT_n 3 ?_
      refine ⟨fun c => absurd c (by decide), fun _ => ?_⟩
      refine gT_n 2 ?_
      refine ⟨hb.ob, ?_⟩
      refine gT_top (hb.v5) ?_
      refine gT_n 3 ?_
      refine ⟨hb.ar1, (pk_inS (m := 3) (k := 2) (hb.ln1) (by decide) (rfl)), px_le (X := (ig l i).2.2.2.2.2.1.2.2) (Y := (0)) ((Eq.trans (kM_r hbb1) (hI.2.2.2.2))) (rfl) (fun κ3 => ?_) (fun κ3 => ?_)⟩
      · refine gT_n 2 ?_
        refine gT_k (L := [(5, .int 3), (4, .int 0), (3, .ref (P i)), (0, .ref 167), (1, .int (nI i)), (2, .ref 169)]) ?_ ⟨rfl, rfl, rfl, rfl, rfl, rfl, trivial⟩ rfl
        refine gT_n 3 ?_
        refine ⟨fun _ => ?_, fun c => absurd (by decide) c⟩
        refine gT_n 2 ?_
        refine gT_k (L := [(5, .int 0), (4, .int 0), (3, .ref (P i)), (0, .ref 167), (1, .int (nI i)), (2, .ref 169)]) ?_ ⟨rfl, rfl, rfl, rfl, rfl, rfl, trivial⟩ rfl
        refine gT_n 3 ?_
        refine ⟨fun c => absurd c (by decide), fun _ => ?_⟩
        refine gT_n 4 ?_
        refine ⟨rfl, (pk_inS (m := 3) (k := 0) (rfl) (by decide) (rfl)), ?_⟩
        refine gT_kA (b := 169) rfl (n := 0) (X := 0) (rfl) (by omega) (rfl) ?_
        refine gT_n 2 ?_
        refine gT_k (L := [(5, .int 1), (4, .int 0), (3, .ref (P i)), (0, .ref 167), (1, .int (nI i)), (2, .ref 169)]) ?_ ⟨rfl, rfl, rfl, rfl, rfl, rfl, trivial⟩ rfl
        refine gT_n 3 ?_
        refine ⟨fun c => absurd c (by decide), fun _ => ?_⟩
        refine gT_n 4 ?_
        refine ⟨rfl, (pk_inS (m := 3) (k := 1) (rfl) (by decide) (rfl)), ?_⟩
        refine gT_kA (b := 169) rfl (n := 1) (X := 0) (rfl) (by omega) (rfl) ?_
        refine gT_n 2 ?_
        refine gT_k (L := [(5, .int 2), (4, .int 0), (3, .ref (P i)), (0, .ref 167), (1, .int (nI i)), (2, .ref 169)]) ?_ ⟨rfl, rfl, rfl, rfl, rfl, rfl, trivial⟩ rfl
        refine gT_n 3 ?_
        refine ⟨fun c => absurd c (by decide), fun _ => ?_⟩
        refine gT_n 4 ?_
        refine ⟨rfl, (pk_inS (m := 3) (k := 2) (rfl) (by decide) (rfl)), ?_⟩
        refine gT_kA (b := 169) rfl (n := 2) (X := 0) (rfl) (by omega) (rfl) ?_
        refine gT_n 2 ?_
        refine gT_k (L := [(5, .int 3), (4, .int 0), (3, .ref (P i)), (0, .ref 167), (1, .int (nI i)), (2, .ref 169)]) ?_ ⟨rfl, rfl, rfl, rfl, rfl, rfl, trivial⟩ rfl
        refine gT_n 3 ?_
        refine ⟨fun _ => ?_, fun c => absurd (by decide) c⟩
        have e : cm3 (ig l i).2.2.2.2.2.1 = (0, 0, 0) := by unfold cm3; rw [if_neg (Int32.not_lt.mpr κ1), if_neg (Int32.not_lt.mpr κ2), if_neg (Int32.not_lt.mpr κ3)]
        refine gT_k (gT_mono _ _ _ _ _ _ _ _ _ (fun r u h => ?_) (c_takeT169 (d := d) hz hit h10 hok hi (cH_fr hE.1 (fun j hj => by rw [gupI_n (by omega), gupI_n (by omega), gupI_n (by omega)]) hH) hE hck hsp)) ⟨rfl, rfl, rfl, trivial⟩ rfl
        obtain ⟨h1, X1, Y1, r0, hr0, h2, hH1, hFr, hc, hf⟩ := h
        refine ⟨h1, X1, Y1, r0, hr0, h2, ?_, ?_, hc, hf, fun j h1 h2 => ?_⟩
        · rw [e]; exact hH1
        · rw [e, hFr 169 (by decide)]
          exact ⟨rfl, rfl, rfl⟩
        · rw [hFr j (by omega), gupI_n h2, gupI_n h2, gupI_n h2]
      · refine gT_n 4 ?_
        refine ⟨hb.ob, ?_⟩
        refine gT_top (hb.v5) ?_
        refine gT_n 3 ?_
        refine ⟨hb.ar1, (pk_inS (m := 3) (k := 2) (hb.ln1) (by decide) (rfl)), rfl, (pk_inS (m := 3) (k := 0) (rfl) (by decide) (rfl)), ?_⟩
        refine gT_kA (b := 169) rfl (n := 0) (X := (ig l i).2.2.2.2.2.1.2.2) (rfl) (by omega) ((Eq.trans (kM_r hbb1) (hI.2.2.2.2))) ?_
        refine gT_n 3 ?_
        refine gT_k (L := [(5, .int 3), (4, .int 1), (3, .ref (P i)), (0, .ref 167), (1, .int (nI i)), (2, .ref 169)]) ?_ ⟨rfl, rfl, rfl, rfl, rfl, rfl, trivial⟩ rfl
        refine gT_n 3 ?_
        refine ⟨fun _ => ?_, fun c => absurd (by decide) c⟩
        refine gT_n 2 ?_
        refine gT_k (L := [(5, .int 1), (4, .int 1), (3, .ref (P i)), (0, .ref 167), (1, .int (nI i)), (2, .ref 169)]) ?_ ⟨rfl, rfl, rfl, rfl, rfl, rfl, trivial⟩ rfl
        refine gT_n 3 ?_
        refine ⟨fun c => absurd c (by decide), fun _ => ?_⟩
        refine gT_n 4 ?_
        refine ⟨rfl, (pk_inS (m := 3) (k := 1) (rfl) (by decide) (rfl)), ?_⟩
        refine gT_kA (b := 169) rfl (n := 1) (X := 0) (rfl) (by omega) (rfl) ?_
        refine gT_n 2 ?_
        refine gT_k (L := [(5, .int 2), (4, .int 1), (3, .ref (P i)), (0, .ref 167), (1, .int (nI i)), (2, .ref 169)]) ?_ ⟨rfl, rfl, rfl, rfl, rfl, rfl, trivial⟩ rfl
        refine gT_n 3 ?_
        refine ⟨fun c => absurd c (by decide), fun _ => ?_⟩
        refine gT_n 4 ?_
        refine ⟨rfl, (pk_inS (m := 3) (k := 2) (rfl) (by decide) (rfl)), ?_⟩
        refine gT_kA (b := 169) rfl (n := 2) (X := 0) (rfl) (by omega) (rfl) ?_
        refine gT_n 2 ?_
        refine gT_k (L := [(5, .int 3), (4, .int 1), (3, .ref (P i)), (0, .ref 167), (1, .int (nI i)), (2, .ref 169)]) ?_ ⟨rfl, rfl, rfl, rfl, rfl, rfl, trivial⟩ rfl
        refine gT_n 3 ?_
        refine ⟨fun _ => ?_, fun c => absurd (by decide) c⟩
        have e : cm3 (ig l i).2.2.2.2.2.1 = ((ig l i).2.2.2.2.2.1.2.2, 0, 0) := by unfold cm3; rw [if_neg (Int32.not_lt.mpr κ1), if_neg (Int32.not_lt.mpr κ2), if_pos (Int32.not_le.mp κ3)]
        refine gT_k (gT_mono _ _ _ _ _ _ _ _ _ (fun r u h => ?_) (c_takeT169 (d := d) hz hit h10 hok hi (cH_fr hE.1 (fun j hj => by rw [gupI_n (by omega), gupI_n (by omega), gupI_n (by omega)]) hH) hE hck hsp)) ⟨rfl, rfl, rfl, trivial⟩ rfl
        obtain ⟨h1, X1, Y1, r0, hr0, h2, hH1, hFr, hc, hf⟩ := h
        refine ⟨h1, X1, Y1, r0, hr0, h2, ?_, ?_, hc, hf, fun j h1 h2 => ?_⟩
        · rw [e]; exact hH1
        · rw [e, hFr 169 (by decide)]
          exact ⟨rfl, rfl, rfl⟩
        · rw [hFr j (by omega), gupI_n h2, gupI_n h2, gupI_n h2]
    · refine gT_n 4 ?_
      refine ⟨hb.ob, ?_⟩
      refine gT_top (hb.v5) ?_
      refine gT_n 3 ?_
      refine ⟨hb.ar1, (pk_inS (m := 3) (k := 1) (hb.ln1) (by decide) (rfl)), rfl, (pk_inS (m := 3) (k := 0) (rfl) (by decide) (rfl)), ?_⟩
      refine gT_kA (b := 169) rfl (n := 0) (X := (ig l i).2.2.2.2.2.1.2.1) (rfl) (by omega) ((Eq.trans (kM_r hbb1) (hI.2.2.2.1))) ?_
      refine gT_n 3 ?_
      refine gT_k (L := [(5, .int 2), (4, .int 1), (3, .ref (P i)), (0, .ref 167), (1, .int (nI i)), (2, .ref 169)]) ?_ ⟨rfl, rfl, rfl, rfl, rfl, rfl, trivial⟩ rfl
      refine gT_n 3 ?_
      refine ⟨fun c => absurd c (by decide), fun _ => ?_⟩
      refine gT_n 2 ?_
      refine ⟨hb.ob, ?_⟩
      refine gT_top (hb.v5) ?_
      refine gT_n 3 ?_
      refine ⟨hb.ar1, (pk_inS (m := 3) (k := 2) (hb.ln1) (by decide) (rfl)), px_le (X := (ig l i).2.2.2.2.2.1.2.2) (Y := (0)) ((Eq.trans (kM_r hbb1) (hI.2.2.2.2))) (rfl) (fun κ4 => ?_) (fun κ4 => ?_)⟩
      · refine gT_n 2 ?_
        refine gT_k (L := [(5, .int 3), (4, .int 1), (3, .ref (P i)), (0, .ref 167), (1, .int (nI i)), (2, .ref 169)]) ?_ ⟨rfl, rfl, rfl, rfl, rfl, rfl, trivial⟩ rfl
        refine gT_n 3 ?_
        refine ⟨fun _ => ?_, fun c => absurd (by decide) c⟩
        refine gT_n 2 ?_
        refine gT_k (L := [(5, .int 1), (4, .int 1), (3, .ref (P i)), (0, .ref 167), (1, .int (nI i)), (2, .ref 169)]) ?_ ⟨rfl, rfl, rfl, rfl, rfl, rfl, trivial⟩ rfl
        refine gT_n 3 ?_
        refine ⟨fun c => absurd c (by decide), fun _ => ?_⟩
        refine gT_n 4 ?_
        refine ⟨rfl, (pk_inS (m := 3) (k := 1) (rfl) (by decide) (rfl)), ?_⟩
        refine gT_kA (b := 169) rfl (n := 1) (X := 0) (rfl) (by omega) (rfl) ?_
        refine gT_n 2 ?_
        refine gT_k (L := [(5, .int 2), (4, .int 1), (3, .ref (P i)), (0, .ref 167), (1, .int (nI i)), (2, .ref 169)]) ?_ ⟨rfl, rfl, rfl, rfl, rfl, rfl, trivial⟩ rfl
        refine gT_n 3 ?_
        refine ⟨fun c => absurd c (by decide), fun _ => ?_⟩
        refine gT_n 4 ?_
        refine ⟨rfl, (pk_inS (m := 3) (k := 2) (rfl) (by decide) (rfl)), ?_⟩
        refine gT_kA (b := 169) rfl (n := 2) (X := 0) (rfl) (by omega) (rfl) ?_
        refine gT_n 2 ?_
        refine gT_k (L := [(5, .int 3), (4, .int 1), (3, .ref (P i)), (0, .ref 167), (1, .int (nI i)), (2, .ref 169)]) ?_ ⟨rfl, rfl, rfl, rfl, rfl, rfl, trivial⟩ rfl
        refine gT_n 3 ?_
        refine ⟨fun _ => ?_, fun c => absurd (by decide) c⟩
        have e : cm3 (ig l i).2.2.2.2.2.1 = ((ig l i).2.2.2.2.2.1.2.1, 0, 0) := by unfold cm3; rw [if_neg (Int32.not_lt.mpr κ1), if_pos (Int32.not_le.mp κ2), if_neg (Int32.not_lt.mpr κ4)]
        refine gT_k (gT_mono _ _ _ _ _ _ _ _ _ (fun r u h => ?_) (c_takeT169 (d := d) hz hit h10 hok hi (cH_fr hE.1 (fun j hj => by rw [gupI_n (by omega), gupI_n (by omega), gupI_n (by omega)]) hH) hE hck hsp)) ⟨rfl, rfl, rfl, trivial⟩ rfl
        obtain ⟨h1, X1, Y1, r0, hr0, h2, hH1, hFr, hc, hf⟩ := h
        refine ⟨h1, X1, Y1, r0, hr0, h2, ?_, ?_, hc, hf, fun j h1 h2 => ?_⟩
        · rw [e]; exact hH1
        · rw [e, hFr 169 (by decide)]
          exact ⟨rfl, rfl, rfl⟩
        · rw [hFr j (by omega), gupI_n h2, gupI_n h2, gupI_n h2]
      · refine gT_n 4 ?_
        refine ⟨hb.ob, ?_⟩
        refine gT_top (hb.v5) ?_
        refine gT_n 3 ?_
        refine ⟨hb.ar1, (pk_inS (m := 3) (k := 2) (hb.ln1) (by decide) (rfl)), rfl, (pk_inS (m := 3) (k := 1) (rfl) (by decide) (rfl)), ?_⟩
        refine gT_kA (b := 169) rfl (n := 1) (X := (ig l i).2.2.2.2.2.1.2.2) (rfl) (by omega) ((Eq.trans (kM_r hbb1) (hI.2.2.2.2))) ?_
        refine gT_n 3 ?_
        refine gT_k (L := [(5, .int 3), (4, .int 2), (3, .ref (P i)), (0, .ref 167), (1, .int (nI i)), (2, .ref 169)]) ?_ ⟨rfl, rfl, rfl, rfl, rfl, rfl, trivial⟩ rfl
        refine gT_n 3 ?_
        refine ⟨fun _ => ?_, fun c => absurd (by decide) c⟩
        refine gT_n 2 ?_
        refine gT_k (L := [(5, .int 2), (4, .int 2), (3, .ref (P i)), (0, .ref 167), (1, .int (nI i)), (2, .ref 169)]) ?_ ⟨rfl, rfl, rfl, rfl, rfl, rfl, trivial⟩ rfl
        refine gT_n 3 ?_
        refine ⟨fun c => absurd c (by decide), fun _ => ?_⟩
        refine gT_n 4 ?_
        refine ⟨rfl, (pk_inS (m := 3) (k := 2) (rfl) (by decide) (rfl)), ?_⟩
        refine gT_kA (b := 169) rfl (n := 2) (X := 0) (rfl) (by omega) (rfl) ?_
        refine gT_n 2 ?_
        refine gT_k (L := [(5, .int 3), (4, .int 2), (3, .ref (P i)), (0, .ref 167), (1, .int (nI i)), (2, .ref 169)]) ?_ ⟨rfl, rfl, rfl, rfl, rfl, rfl, trivial⟩ rfl
        refine gT_n 3 ?_
        refine ⟨fun _ => ?_, fun c => absurd (by decide) c⟩
        have e : cm3 (ig l i).2.2.2.2.2.1 = ((ig l i).2.2.2.2.2.1.2.1, (ig l i).2.2.2.2.2.1.2.2, 0) := by unfold cm3; rw [if_neg (Int32.not_lt.mpr κ1), if_pos (Int32.not_le.mp κ2), if_pos (Int32.not_le.mp κ4)]
        refine gT_k (gT_mono _ _ _ _ _ _ _ _ _ (fun r u h => ?_) (c_takeT169 (d := d) hz hit h10 hok hi (cH_fr hE.1 (fun j hj => by rw [gupI_n (by omega), gupI_n (by omega), gupI_n (by omega)]) hH) hE hck hsp)) ⟨rfl, rfl, rfl, trivial⟩ rfl
        obtain ⟨h1, X1, Y1, r0, hr0, h2, hH1, hFr, hc, hf⟩ := h
        refine ⟨h1, X1, Y1, r0, hr0, h2, ?_, ?_, hc, hf, fun j h1 h2 => ?_⟩
        · rw [e]; exact hH1
        · rw [e, hFr 169 (by decide)]
          exact ⟨rfl, rfl, rfl⟩
        · rw [hFr j (by omega), gupI_n h2, gupI_n h2, gupI_n h2]
  · refine gT_n 4 ?_
    refine ⟨hb.ob, ?_⟩
    refine gT_top (hb.v5) ?_
    refine gT_n 3 ?_
    refine ⟨hb.ar1, (pk_inS (m := 3) (k := 0) (hb.ln1) (by decide) (rfl)), rfl, (pk_inS (m := 3) (k := 0) (rfl) (by decide) (rfl)), ?_⟩
    refine gT_kA (b := 169) rfl (n := 0) (X := (ig l i).2.2.2.2.2.1.1) (rfl) (by omega) ((Eq.trans (kM_r hbb1) (hI.2.2.1))) ?_
    refine gT_n 3 ?_
    refine gT_k (L := [(5, .int 1), (4, .int 1), (3, .ref (P i)), (0, .ref 167), (1, .int (nI i)), (2, .ref 169)]) ?_ ⟨rfl, rfl, rfl, rfl, rfl, rfl, trivial⟩ rfl
    refine gT_n 3 ?_
    refine ⟨fun c => absurd c (by decide), fun _ => ?_⟩
    refine gT_n 2 ?_
    refine ⟨hb.ob, ?_⟩
    refine gT_top (hb.v5) ?_
    refine gT_n 3 ?_
    refine ⟨hb.ar1, (pk_inS (m := 3) (k := 1) (hb.ln1) (by decide) (rfl)), px_le (X := (ig l i).2.2.2.2.2.1.2.1) (Y := (0)) ((Eq.trans (kM_r hbb1) (hI.2.2.2.1))) (rfl) (fun κ5 => ?_) (fun κ5 => ?_)⟩
    · refine gT_n 2 ?_
      refine gT_k (L := [(5, .int 2), (4, .int 1), (3, .ref (P i)), (0, .ref 167), (1, .int (nI i)), (2, .ref 169)]) ?_ ⟨rfl, rfl, rfl, rfl, rfl, rfl, trivial⟩ rfl
      refine gT_n 3 ?_
      refine ⟨fun c => absurd c (by decide), fun _ => ?_⟩
      refine gT_n 2 ?_
      refine ⟨hb.ob, ?_⟩
      refine gT_top (hb.v5) ?_
      refine gT_n 3 ?_
      refine ⟨hb.ar1, (pk_inS (m := 3) (k := 2) (hb.ln1) (by decide) (rfl)), px_le (X := (ig l i).2.2.2.2.2.1.2.2) (Y := (0)) ((Eq.trans (kM_r hbb1) (hI.2.2.2.2))) (rfl) (fun κ6 => ?_) (fun κ6 => ?_)⟩
      · refine gT_n 2 ?_
        refine gT_k (L := [(5, .int 3), (4, .int 1), (3, .ref (P i)), (0, .ref 167), (1, .int (nI i)), (2, .ref 169)]) ?_ ⟨rfl, rfl, rfl, rfl, rfl, rfl, trivial⟩ rfl
        refine gT_n 3 ?_
        refine ⟨fun _ => ?_, fun c => absurd (by decide) c⟩
        refine gT_n 2 ?_
        refine gT_k (L := [(5, .int 1), (4, .int 1), (3, .ref (P i)), (0, .ref 167), (1, .int (nI i)), (2, .ref 169)]) ?_ ⟨rfl, rfl, rfl, rfl, rfl, rfl, trivial⟩ rfl
        refine gT_n 3 ?_
        refine ⟨fun c => absurd c (by decide), fun _ => ?_⟩
        refine gT_n 4 ?_
        refine ⟨rfl, (pk_inS (m := 3) (k := 1) (rfl) (by decide) (rfl)), ?_⟩
        refine gT_kA (b := 169) rfl (n := 1) (X := 0) (rfl) (by omega) (rfl) ?_
        refine gT_n 2 ?_
        refine gT_k (L := [(5, .int 2), (4, .int 1), (3, .ref (P i)), (0, .ref 167), (1, .int (nI i)), (2, .ref 169)]) ?_ ⟨rfl, rfl, rfl, rfl, rfl, rfl, trivial⟩ rfl
        refine gT_n 3 ?_
        refine ⟨fun c => absurd c (by decide), fun _ => ?_⟩
        refine gT_n 4 ?_
        refine ⟨rfl, (pk_inS (m := 3) (k := 2) (rfl) (by decide) (rfl)), ?_⟩
        refine gT_kA (b := 169) rfl (n := 2) (X := 0) (rfl) (by omega) (rfl) ?_
        refine gT_n 2 ?_
        refine gT_k (L := [(5, .int 3), (4, .int 1), (3, .ref (P i)), (0, .ref 167), (1, .int (nI i)), (2, .ref 169)]) ?_ ⟨rfl, rfl, rfl, rfl, rfl, rfl, trivial⟩ rfl
        refine gT_n 3 ?_
        refine ⟨fun _ => ?_, fun c => absurd (by decide) c⟩
        have e : cm3 (ig l i).2.2.2.2.2.1 = ((ig l i).2.2.2.2.2.1.1, 0, 0) := by unfold cm3; rw [if_pos (Int32.not_le.mp κ1), if_neg (Int32.not_lt.mpr κ5), if_neg (Int32.not_lt.mpr κ6)]
        refine gT_k (gT_mono _ _ _ _ _ _ _ _ _ (fun r u h => ?_) (c_takeT169 (d := d) hz hit h10 hok hi (cH_fr hE.1 (fun j hj => by rw [gupI_n (by omega), gupI_n (by omega), gupI_n (by omega)]) hH) hE hck hsp)) ⟨rfl, rfl, rfl, trivial⟩ rfl
        obtain ⟨h1, X1, Y1, r0, hr0, h2, hH1, hFr, hc, hf⟩ := h
        refine ⟨h1, X1, Y1, r0, hr0, h2, ?_, ?_, hc, hf, fun j h1 h2 => ?_⟩
        · rw [e]; exact hH1
        · rw [e, hFr 169 (by decide)]
          exact ⟨rfl, rfl, rfl⟩
        · rw [hFr j (by omega), gupI_n h2, gupI_n h2, gupI_n h2]
      · refine gT_n 4 ?_
        refine ⟨hb.ob, ?_⟩
        refine gT_top (hb.v5) ?_
        refine gT_n 3 ?_
        refine ⟨hb.ar1, (pk_inS (m := 3) (k := 2) (hb.ln1) (by decide) (rfl)), rfl, (pk_inS (m := 3) (k := 1) (rfl) (by decide) (rfl)), ?_⟩
        refine gT_kA (b := 169) rfl (n := 1) (X := (ig l i).2.2.2.2.2.1.2.2) (rfl) (by omega) ((Eq.trans (kM_r hbb1) (hI.2.2.2.2))) ?_
        refine gT_n 3 ?_
        refine gT_k (L := [(5, .int 3), (4, .int 2), (3, .ref (P i)), (0, .ref 167), (1, .int (nI i)), (2, .ref 169)]) ?_ ⟨rfl, rfl, rfl, rfl, rfl, rfl, trivial⟩ rfl
        refine gT_n 3 ?_
        refine ⟨fun _ => ?_, fun c => absurd (by decide) c⟩
        refine gT_n 2 ?_
        refine gT_k (L := [(5, .int 2), (4, .int 2), (3, .ref (P i)), (0, .ref 167), (1, .int (nI i)), (2, .ref 169)]) ?_ ⟨rfl, rfl, rfl, rfl, rfl, rfl, trivial⟩ rfl
        refine gT_n 3 ?_
        refine ⟨fun c => absurd c (by decide), fun _ => ?_⟩
        refine gT_n 4 ?_
        refine ⟨rfl, (pk_inS (m := 3) (k := 2) (rfl) (by decide) (rfl)), ?_⟩
        refine gT_kA (b := 169) rfl (n := 2) (X := 0) (rfl) (by omega) (rfl) ?_
        refine gT_n 2 ?_
        refine gT_k (L := [(5, .int 3), (4, .int 2), (3, .ref (P i)), (0, .ref 167), (1, .int (nI i)), (2, .ref 169)]) ?_ ⟨rfl, rfl, rfl, rfl, rfl, rfl, trivial⟩ rfl
        refine gT_n 3 ?_
        refine ⟨fun _ => ?_, fun c => absurd (by decide) c⟩
        have e : cm3 (ig l i).2.2.2.2.2.1 = ((ig l i).2.2.2.2.2.1.1, (ig l i).2.2.2.2.2.1.2.2, 0) := by unfold cm3; rw [if_pos (Int32.not_le.mp κ1), if_neg (Int32.not_lt.mpr κ5), if_pos (Int32.not_le.mp κ6)]
        refine gT_k (gT_mono _ _ _ _ _ _ _ _ _ (fun r u h => ?_) (c_takeT169 (d := d) hz hit h10 hok hi (cH_fr hE.1 (fun j hj => by rw [gupI_n (by omega), gupI_n (by omega), gupI_n (by omega)]) hH) hE hck hsp)) ⟨rfl, rfl, rfl, trivial⟩ rfl
        obtain ⟨h1, X1, Y1, r0, hr0, h2, hH1, hFr, hc, hf⟩ := h
        refine ⟨h1, X1, Y1, r0, hr0, h2, ?_, ?_, hc, hf, fun j h1 h2 => ?_⟩
        · rw [e]; exact hH1
        · rw [e, hFr 169 (by decide)]
          exact ⟨rfl, rfl, rfl⟩
        · rw [hFr j (by omega), gupI_n h2, gupI_n h2, gupI_n h2]
    · refine gT_n 4 ?_
      refine ⟨hb.ob, ?_⟩
      refine gT_top (hb.v5) ?_
      refine gT_n 3 ?_
      refine ⟨hb.ar1, (pk_inS (m := 3) (k := 1) (hb.ln1) (by decide) (rfl)), rfl, (pk_inS (m := 3) (k := 1) (rfl) (by decide) (rfl)), ?_⟩
      refine gT_kA (b := 169) rfl (n := 1) (X := (ig l i).2.2.2.2.2.1.2.1) (rfl) (by omega) ((Eq.trans (kM_r hbb1) (hI.2.2.2.1))) ?_
      refine gT_n 3 ?_
      refine gT_k (L := [(5, .int 2), (4, .int 2), (3, .ref (P i)), (0, .ref 167), (1, .int (nI i)), (2, .ref 169)]) ?_ ⟨rfl, rfl, rfl, rfl, rfl, rfl, trivial⟩ rfl
      refine gT_n 3 ?_
      refine ⟨fun c => absurd c (by decide), fun _ => ?_⟩
      refine gT_n 2 ?_
      refine ⟨hb.ob, ?_⟩
      refine gT_top (hb.v5) ?_
      refine gT_n 3 ?_
      refine ⟨hb.ar1, (pk_inS (m := 3) (k := 2) (hb.ln1) (by decide) (rfl)), px_le (X := (ig l i).2.2.2.2.2.1.2.2) (Y := (0)) ((Eq.trans (kM_r hbb1) (hI.2.2.2.2))) (rfl) (fun κ7 => ?_) (fun κ7 => ?_)⟩
      · refine gT_n 2 ?_
        refine gT_k (L := [(5, .int 3), (4, .int 2), (3, .ref (P i)), (0, .ref 167), (1, .int (nI i)), (2, .ref 169)]) ?_ ⟨rfl, rfl, rfl, rfl, rfl, rfl, trivial⟩ rfl
        refine gT_n 3 ?_
        refine ⟨fun _ => ?_, fun c => absurd (by decide) c⟩
        refine gT_n 2 ?_
        refine gT_k (L := [(5, .int 2), (4, .int 2), (3, .ref (P i)), (0, .ref 167), (1, .int (nI i)), (2, .ref 169)]) ?_ ⟨rfl, rfl, rfl, rfl, rfl, rfl, trivial⟩ rfl
        refine gT_n 3 ?_
        refine ⟨fun c => absurd c (by decide), fun _ => ?_⟩
        refine gT_n 4 ?_
        refine ⟨rfl, (pk_inS (m := 3) (k := 2) (rfl) (by decide) (rfl)), ?_⟩
        refine gT_kA (b := 169) rfl (n := 2) (X := 0) (rfl) (by omega) (rfl) ?_
        refine gT_n 2 ?_
        refine gT_k (L := [(5, .int 3), (4, .int 2), (3, .ref (P i)), (0, .ref 167), (1, .int (nI i)), (2, .ref 169)]) ?_ ⟨rfl, rfl, rfl, rfl, rfl, rfl, trivial⟩ rfl
        refine gT_n 3 ?_
        refine ⟨fun _ => ?_, fun c => absurd (by decide) c⟩
        have e : cm3 (ig l i).2.2.2.2.2.1 = ((ig l i).2.2.2.2.2.1.1, (ig l i).2.2.2.2.2.1.2.1, 0) := by unfold cm3; rw [if_pos (Int32.not_le.mp κ1), if_pos (Int32.not_le.mp κ5), if_neg (Int32.not_lt.mpr κ7)]
        refine gT_k (gT_mono _ _ _ _ _ _ _ _ _ (fun r u h => ?_) (c_takeT169 (d := d) hz hit h10 hok hi (cH_fr hE.1 (fun j hj => by rw [gupI_n (by omega), gupI_n (by omega), gupI_n (by omega)]) hH) hE hck hsp)) ⟨rfl, rfl, rfl, trivial⟩ rfl
        obtain ⟨h1, X1, Y1, r0, hr0, h2, hH1, hFr, hc, hf⟩ := h
        refine ⟨h1, X1, Y1, r0, hr0, h2, ?_, ?_, hc, hf, fun j h1 h2 => ?_⟩
        · rw [e]; exact hH1
        · rw [e, hFr 169 (by decide)]
          exact ⟨rfl, rfl, rfl⟩
        · rw [hFr j (by omega), gupI_n h2, gupI_n h2, gupI_n h2]
      · refine gT_n 4 ?_
        refine ⟨hb.ob, ?_⟩
        refine gT_top (hb.v5) ?_
        refine gT_n 3 ?_
        refine ⟨hb.ar1, (pk_inS (m := 3) (k := 2) (hb.ln1) (by decide) (rfl)), rfl, (pk_inS (m := 3) (k := 2) (rfl) (by decide) (rfl)), ?_⟩
        refine gT_kA (b := 169) rfl (n := 2) (X := (ig l i).2.2.2.2.2.1.2.2) (rfl) (by omega) ((Eq.trans (kM_r hbb1) (hI.2.2.2.2))) ?_
        refine gT_n 3 ?_
        refine gT_k (L := [(5, .int 3), (4, .int 3), (3, .ref (P i)), (0, .ref 167), (1, .int (nI i)), (2, .ref 169)]) ?_ ⟨rfl, rfl, rfl, rfl, rfl, rfl, trivial⟩ rfl
        refine gT_n 3 ?_
        refine ⟨fun _ => ?_, fun c => absurd (by decide) c⟩
        refine gT_n 2 ?_
        refine gT_k (L := [(5, .int 3), (4, .int 3), (3, .ref (P i)), (0, .ref 167), (1, .int (nI i)), (2, .ref 169)]) ?_ ⟨rfl, rfl, rfl, rfl, rfl, rfl, trivial⟩ rfl
        refine gT_n 3 ?_
        refine ⟨fun _ => ?_, fun c => absurd (by decide) c⟩
        have e : cm3 (ig l i).2.2.2.2.2.1 = ((ig l i).2.2.2.2.2.1.1, (ig l i).2.2.2.2.2.1.2.1, (ig l i).2.2.2.2.2.1.2.2) := by unfold cm3; rw [if_pos (Int32.not_le.mp κ1), if_pos (Int32.not_le.mp κ5), if_pos (Int32.not_le.mp κ7)]
        refine gT_k (gT_mono _ _ _ _ _ _ _ _ _ (fun r u h => ?_) (c_takeT169 (d := d) hz hit h10 hok hi (cH_fr hE.1 (fun j hj => by rw [gupI_n (by omega), gupI_n (by omega), gupI_n (by omega)]) hH) hE hck hsp)) ⟨rfl, rfl, rfl, trivial⟩ rfl
        obtain ⟨h1, X1, Y1, r0, hr0, h2, hH1, hFr, hc, hf⟩ := h
        refine ⟨h1, X1, Y1, r0, hr0, h2, ?_, ?_, hc, hf, fun j h1 h2 => ?_⟩
        · rw [e]; exact hH1
        · rw [e, hFr 169 (by decide)]
          exact ⟨rfl, rfl, rfl⟩
        · rw [hFr j (by omega), gupI_n h2, gupI_n h2, gupI_n h2]
