/-! keys and digests of a zone: rows of at most three -/
def khas (l : zK) (k : Int32) : Prop := match l with
  | [] => False
  | [a] => a.1 = k
  | [a, b] => a.1 = k ∨ b.1 = k
  | [a, b, c] => a.1 = k ∨ b.1 = k ∨ c.1 = k
  | _ => False
/-- since when -/
def ksin (l : zK) (k : Int32) : Int32 := match l with
  | [a] => a.2
  | [a, b] => if a.1 = k then a.2 else b.2
  | [a, b, c] => if a.1 = k then a.2 else if b.1 = k then b.2 else c.2
  | _ => 0
def kins (l : zK) (k c : Int32) : zK := match l with
  | [] => [(k, c)]
  | [a] => if k < a.1 then [(k, c), a] else [a, (k, c)]
  | [a, b] => if k < b.1 then (if k < a.1 then [(k, c), a, b] else [a, (k, c), b]) else [a, b, (k, c)]
  | l => l
def kdel (l : zK) (k : Int32) : zK := match l with
  | [a] => if a.1 = k then [] else [a]
  | [a, b] => if a.1 = k then [b] else if b.1 = k then [a] else [a, b]
  | [a, b, c] => if a.1 = k then [b, c] else if b.1 = k then [a, c] else if c.1 = k then [a, b] else [a, b, c]
  | l => l
theorem zK3 {l : zK} (h : l.length ≤ 3) : l = [] ∨ (∃ a1 a2, l = [(a1, a2)]) ∨ (∃ a1 a2 b1 b2, l = [(a1, a2), (b1, b2)]) ∨ ∃ a1 a2 b1 b2 c1 c2, l = [(a1, a2), (b1, b2), (c1, c2)] := by
  match l, h with
  | [], _ => exact Or.inl rfl
  | [(a1, a2)], _ => exact Or.inr (Or.inl ⟨_, _, rfl⟩)
  | [(a1, a2), (b1, b2)], _ => exact Or.inr (Or.inr (Or.inl ⟨_, _, _, _, rfl⟩))
  | [(a1, a2), (b1, b2), (c1, c2)], _ => exact Or.inr (Or.inr (Or.inr ⟨_, _, _, _, _, _, rfl⟩))
  | _ :: _ :: _ :: _ :: _, h => simp at h
theorem zK2 {l : zK} (h : l.length ≤ 2) : l = [] ∨ (∃ a1 a2, l = [(a1, a2)]) ∨ ∃ a1 a2 b1 b2, l = [(a1, a2), (b1, b2)] := by
  match l, h with
  | [], _ => exact Or.inl rfl
  | [(a1, a2)], _ => exact Or.inr (Or.inl ⟨_, _, rfl⟩)
  | [(a1, a2), (b1, b2)], _ => exact Or.inr (Or.inr ⟨_, _, _, _, rfl⟩)
  | _ :: _ :: _ :: _, h => simp at h
def kup (f : Nat → zK) (n : Nat) (l : zK) : Nat → zK := fun i => cond (Nat.beq i n) l (f i)
def aup (f : Nat → Int32) (n : Nat) (x : Int32) : Nat → Int32 := fun i => cond (Nat.beq i n) x (f i)
theorem kup_len {f : Nat → zK} {n m : Nat} {l : zK} (h : ∀ z, z < 4 → (f z).length ≤ m) (hl : l.length ≤ m) : ∀ z, z < 4 → (kup f n l z).length ≤ m := by
  intro z hz
  unfold kup
  cases Nat.beq z n
  · exact h z hz
  · exact hl
/-- the reference's row of a zone -/
def mQ3 (mn a0 a1 a2 b0 b1 b2 : Int32) (l : zK) : Prop := mn = nI l.length ∧ (0 < l.length → a0 = (kg l 0).1 ∧ b0 = (kg l 0).2) ∧ (1 < l.length → a1 = (kg l 1).1 ∧ b1 = (kg l 1).2) ∧ (2 < l.length → a2 = (kg l 2).1 ∧ b2 = (kg l 2).2)
def mQ2 (mn a0 a1 b0 b1 : Int32) (l : zK) : Prop := mn = nI l.length ∧ (0 < l.length → a0 = (kg l 0).1 ∧ b0 = (kg l 0).2) ∧ (1 < l.length → a1 = (kg l 1).1 ∧ b1 = (kg l 1).2)
theorem mKs3_get {mn ks ss : Nat → Int32} {l : Nat → zK} (h : mKs 3 mn ks ss l) : mQ3 (mn 0) (ks 0) (ks 1) (ks 2) (ss 0) (ss 1) (ss 2) (l 0) ∧ mQ3 (mn 1) (ks 3) (ks 4) (ks 5) (ss 3) (ss 4) (ss 5) (l 1) ∧ mQ3 (mn 2) (ks 6) (ks 7) (ks 8) (ss 6) (ss 7) (ss 8) (l 2) ∧ mQ3 (mn 3) (ks 9) (ks 10) (ks 11) (ss 9) (ss 10) (ss 11) (l 3) := by
  refine ⟨?_, ?_, ?_, ?_⟩
  · exact ⟨(h 0 (by omega)).1, (h 0 (by omega)).2 0, (h 0 (by omega)).2 1, (h 0 (by omega)).2 2⟩
  · exact ⟨(h 1 (by omega)).1, (h 1 (by omega)).2 0, (h 1 (by omega)).2 1, (h 1 (by omega)).2 2⟩
  · exact ⟨(h 2 (by omega)).1, (h 2 (by omega)).2 0, (h 2 (by omega)).2 1, (h 2 (by omega)).2 2⟩
  · exact ⟨(h 3 (by omega)).1, (h 3 (by omega)).2 0, (h 3 (by omega)).2 1, (h 3 (by omega)).2 2⟩
theorem mQ3_at {mn ks ss : Nat → Int32} {l : zK} {z : Nat} (hl : l.length ≤ 3) (h : mQ3 (mn z) (ks (3 * z)) (ks (3 * z + 1)) (ks (3 * z + 2)) (ss (3 * z)) (ss (3 * z + 1)) (ss (3 * z + 2)) l) : mn z = nI l.length ∧ ∀ i, i < l.length → ks (3 * z + i) = (kg l i).1 ∧ ss (3 * z + i) = (kg l i).2 := by
  refine ⟨h.1, fun i hi => ?_⟩
  have : i = 0 ∨ i = 1 ∨ i = 2 := by omega
  rcases this with rfl | rfl | rfl
  · exact h.2.1 hi
  · exact h.2.2.1 hi
  · exact h.2.2.2 hi
theorem mKs3_mk {mn ks ss : Nat → Int32} {l : Nat → zK} (hl : ∀ z, z < 4 → (l z).length ≤ 3) (h : mQ3 (mn 0) (ks 0) (ks 1) (ks 2) (ss 0) (ss 1) (ss 2) (l 0) ∧ mQ3 (mn 1) (ks 3) (ks 4) (ks 5) (ss 3) (ss 4) (ss 5) (l 1) ∧ mQ3 (mn 2) (ks 6) (ks 7) (ks 8) (ss 6) (ss 7) (ss 8) (l 2) ∧ mQ3 (mn 3) (ks 9) (ks 10) (ks 11) (ss 9) (ss 10) (ss 11) (l 3)) : mKs 3 mn ks ss l := by
  intro z hz
  have : z = 0 ∨ z = 1 ∨ z = 2 ∨ z = 3 := by omega
  rcases this with rfl | rfl | rfl | rfl
  · exact mQ3_at (hl 0 hz) h.1
  · exact mQ3_at (hl 1 hz) h.2.1
  · exact mQ3_at (hl 2 hz) h.2.2.1
  · exact mQ3_at (hl 3 hz) h.2.2.2
theorem mKs2_get {mn ks ss : Nat → Int32} {l : Nat → zK} (h : mKs 2 mn ks ss l) : mQ2 (mn 0) (ks 0) (ks 1) (ss 0) (ss 1) (l 0) ∧ mQ2 (mn 1) (ks 2) (ks 3) (ss 2) (ss 3) (l 1) ∧ mQ2 (mn 2) (ks 4) (ks 5) (ss 4) (ss 5) (l 2) ∧ mQ2 (mn 3) (ks 6) (ks 7) (ss 6) (ss 7) (l 3) := by
  refine ⟨?_, ?_, ?_, ?_⟩
  · exact ⟨(h 0 (by omega)).1, (h 0 (by omega)).2 0, (h 0 (by omega)).2 1⟩
  · exact ⟨(h 1 (by omega)).1, (h 1 (by omega)).2 0, (h 1 (by omega)).2 1⟩
  · exact ⟨(h 2 (by omega)).1, (h 2 (by omega)).2 0, (h 2 (by omega)).2 1⟩
  · exact ⟨(h 3 (by omega)).1, (h 3 (by omega)).2 0, (h 3 (by omega)).2 1⟩
theorem mQ2_at {mn ks ss : Nat → Int32} {l : zK} {z : Nat} (hl : l.length ≤ 2) (h : mQ2 (mn z) (ks (2 * z)) (ks (2 * z + 1)) (ss (2 * z)) (ss (2 * z + 1)) l) : mn z = nI l.length ∧ ∀ i, i < l.length → ks (2 * z + i) = (kg l i).1 ∧ ss (2 * z + i) = (kg l i).2 := by
  refine ⟨h.1, fun i hi => ?_⟩
  have : i = 0 ∨ i = 1 := by omega
  rcases this with rfl | rfl
  · exact h.2.1 hi
  · exact h.2.2 hi
theorem mKs2_mk {mn ks ss : Nat → Int32} {l : Nat → zK} (hl : ∀ z, z < 4 → (l z).length ≤ 2) (h : mQ2 (mn 0) (ks 0) (ks 1) (ss 0) (ss 1) (l 0) ∧ mQ2 (mn 1) (ks 2) (ks 3) (ss 2) (ss 3) (l 1) ∧ mQ2 (mn 2) (ks 4) (ks 5) (ss 4) (ss 5) (l 2) ∧ mQ2 (mn 3) (ks 6) (ks 7) (ss 6) (ss 7) (l 3)) : mKs 2 mn ks ss l := by
  intro z hz
  have : z = 0 ∨ z = 1 ∨ z = 2 ∨ z = 3 := by omega
  rcases this with rfl | rfl | rfl | rfl
  · exact mQ2_at (hl 0 hz) h.1
  · exact mQ2_at (hl 1 hz) h.2.1
  · exact mQ2_at (hl 2 hz) h.2.2.1
  · exact mQ2_at (hl 3 hz) h.2.2.2
theorem inZ4 {n : Nat} {z : Int32} (h4 : n ≤ 4) (h : inZ n z) : (z = 0 ∧ 0 < n) ∨ (z = 1 ∧ 1 < n) ∨ (z = 2 ∧ 2 < n) ∨ (z = 3 ∧ 3 < n) := by
  obtain ⟨k, hk, rfl⟩ := h
  have : k = 0 ∨ k = 1 ∨ k = 2 ∨ k = 3 := by omega
  rcases this with rfl | rfl | rfl | rfl
  · exact Or.inl ⟨rfl, hk⟩
  · exact Or.inr (Or.inl ⟨rfl, hk⟩)
  · exact Or.inr (Or.inr (Or.inl ⟨rfl, hk⟩))
  · exact Or.inr (Or.inr (Or.inr ⟨rfl, hk⟩))
theorem c_khas34 {d : Nat} {k : Int32} {l : zK} {I : Nat → Nat → Int32} {J : Nat → Nat → Int64} {P : Nat → Nat} (hl : l.length ≤ 3) (hK : cK (I 34 2) (I 35) (I 36) l) : gTM (d + 1) 24 [.ref 34, .int k] (gST I J P) (gB (gST I J P) (khas l k)) := by
  rcases zK3 hl with rfl | ⟨a1, a2, rfl⟩ | ⟨a1, a2, b1, b2, rfl⟩ | ⟨a1, a2, b1, b2, c1, c2, rfl⟩
  · refine gT_n 3 ?_
    refine ⟨rfl, rfl, ?_⟩
    refine gT_n 6 ?_
    refine ⟨rfl, fun _ => ?_, fun c => absurd (kpT (p := fun z : Int32 => z ≤ 0) (show _ = (0 : Int32) from hK.1) (by decide)) c⟩
    refine gT_n 2 ?_
    show gT _ 24 5 _ _ _ _ _
    refine gT_n 1 ?_
    refine ⟨fun _ => ?_, fun c => absurd (by decide) c⟩
    refine gT_n 2 ?_
    refine ⟨(Or.inl rfl), ?_⟩
    exact ⟨rfl, Or.inr ⟨rfl, id⟩⟩
  · refine gT_n 3 ?_
    refine ⟨rfl, rfl, ?_⟩
    refine gT_n 6 ?_
    refine ⟨rfl, fun c => absurd c (kpT (p := fun z : Int32 => ¬ (z ≤ 0)) (show _ = (1 : Int32) from hK.1) (by decide)), fun _ => ?_⟩
    refine gT_n 6 ?_
    refine ⟨rfl, rfl, (pk_in 0 3 (by decide) rfl), px_ne (X := a1) (Y := k) (hK.2.1.1) (rfl) (fun κ1 => ?_) (fun κ1 => ?_)⟩
    · refine gT_n 6 ?_
      refine ⟨rfl, fun _ => ?_, fun c => absurd (kpT (p := fun z : Int32 => z ≤ 1) (show _ = (1 : Int32) from hK.1) (by decide)) c⟩
      refine gT_n 2 ?_
      show gT _ 24 5 _ _ _ _ _
      refine gT_n 1 ?_
      refine ⟨fun _ => ?_, fun c => absurd (by decide) c⟩
      refine gT_n 2 ?_
      refine ⟨(Or.inl rfl), ?_⟩
      exact ⟨rfl, Or.inr ⟨rfl, κ1⟩⟩
    · refine gT_n 2 ?_
      show gT _ 24 5 _ _ _ _ _
      refine gT_n 1 ?_
      refine ⟨fun c => absurd c (by decide), fun _ => ?_⟩
      refine gT_n 3 ?_
      refine ⟨(Or.inr rfl), ?_⟩
      exact ⟨rfl, Or.inl ⟨rfl, κ1⟩⟩
  · refine gT_n 3 ?_
    refine ⟨rfl, rfl, ?_⟩
    refine gT_n 6 ?_
    refine ⟨rfl, fun c => absurd c (kpT (p := fun z : Int32 => ¬ (z ≤ 0)) (show _ = (2 : Int32) from hK.1) (by decide)), fun _ => ?_⟩
    refine gT_n 6 ?_
    refine ⟨rfl, rfl, (pk_in 0 3 (by decide) rfl), px_ne (X := a1) (Y := k) (hK.2.1.1) (rfl) (fun κ1 => ?_) (fun κ1 => ?_)⟩
    · refine gT_n 6 ?_
      refine ⟨rfl, fun c => absurd c (kpT (p := fun z : Int32 => ¬ (z ≤ 1)) (show _ = (2 : Int32) from hK.1) (by decide)), fun _ => ?_⟩
      refine gT_n 6 ?_
      refine ⟨rfl, rfl, (pk_in 1 3 (by decide) rfl), px_ne (X := b1) (Y := k) (hK.2.1.2.1) (rfl) (fun κ2 => ?_) (fun κ2 => ?_)⟩
      · refine gT_n 6 ?_
        refine ⟨rfl, fun _ => ?_, fun c => absurd (kpT (p := fun z : Int32 => z ≤ 2) (show _ = (2 : Int32) from hK.1) (by decide)) c⟩
        refine gT_n 2 ?_
        show gT _ 24 5 _ _ _ _ _
        refine gT_n 1 ?_
        refine ⟨fun _ => ?_, fun c => absurd (by decide) c⟩
        refine gT_n 2 ?_
        refine ⟨(Or.inl rfl), ?_⟩
        exact ⟨rfl, Or.inr ⟨rfl, (fun z => Or.elim z κ1 κ2)⟩⟩
      · refine gT_n 2 ?_
        show gT _ 24 5 _ _ _ _ _
        refine gT_n 1 ?_
        refine ⟨fun c => absurd c (by decide), fun _ => ?_⟩
        refine gT_n 3 ?_
        refine ⟨(Or.inr rfl), ?_⟩
        exact ⟨rfl, Or.inl ⟨rfl, (Or.inr (κ2))⟩⟩
    · refine gT_n 2 ?_
      show gT _ 24 5 _ _ _ _ _
      refine gT_n 1 ?_
      refine ⟨fun c => absurd c (by decide), fun _ => ?_⟩
      refine gT_n 3 ?_
      refine ⟨(Or.inr rfl), ?_⟩
      exact ⟨rfl, Or.inl ⟨rfl, (Or.inl κ1)⟩⟩
  · refine gT_n 3 ?_
    refine ⟨rfl, rfl, ?_⟩
    refine gT_n 6 ?_
    refine ⟨rfl, fun c => absurd c (kpT (p := fun z : Int32 => ¬ (z ≤ 0)) (show _ = (3 : Int32) from hK.1) (by decide)), fun _ => ?_⟩
    refine gT_n 6 ?_
    refine ⟨rfl, rfl, (pk_in 0 3 (by decide) rfl), px_ne (X := a1) (Y := k) (hK.2.1.1) (rfl) (fun κ1 => ?_) (fun κ1 => ?_)⟩
    · refine gT_n 6 ?_
      refine ⟨rfl, fun c => absurd c (kpT (p := fun z : Int32 => ¬ (z ≤ 1)) (show _ = (3 : Int32) from hK.1) (by decide)), fun _ => ?_⟩
      refine gT_n 6 ?_
      refine ⟨rfl, rfl, (pk_in 1 3 (by decide) rfl), px_ne (X := b1) (Y := k) (hK.2.1.2.1) (rfl) (fun κ2 => ?_) (fun κ2 => ?_)⟩
      · refine gT_n 6 ?_
        refine ⟨rfl, fun c => absurd c (kpT (p := fun z : Int32 => ¬ (z ≤ 2)) (show _ = (3 : Int32) from hK.1) (by decide)), fun _ => ?_⟩
        refine gT_n 6 ?_
        refine ⟨rfl, rfl, (pk_in 2 3 (by decide) rfl), px_ne (X := c1) (Y := k) (hK.2.1.2.2) (rfl) (fun κ3 => ?_) (fun κ3 => ?_)⟩
        · refine gT_n 6 ?_
          refine ⟨rfl, fun _ => ?_, fun c => absurd (kpT (p := fun z : Int32 => z ≤ 3) (show _ = (3 : Int32) from hK.1) (by decide)) c⟩
          refine gT_n 2 ?_
          show gT _ 24 5 _ _ _ _ _
          refine gT_n 1 ?_
          refine ⟨fun _ => ?_, fun c => absurd (by decide) c⟩
          refine gT_n 2 ?_
          refine ⟨(Or.inl rfl), ?_⟩
          exact ⟨rfl, Or.inr ⟨rfl, (fun z => Or.elim z κ1 (fun z => Or.elim z κ2 κ3))⟩⟩
        · refine gT_n 2 ?_
          show gT _ 24 5 _ _ _ _ _
          refine gT_n 1 ?_
          refine ⟨fun c => absurd c (by decide), fun _ => ?_⟩
          refine gT_n 3 ?_
          refine ⟨(Or.inr rfl), ?_⟩
          exact ⟨rfl, Or.inl ⟨rfl, (Or.inr (Or.inr (κ3)))⟩⟩
      · refine gT_n 2 ?_
        show gT _ 24 5 _ _ _ _ _
        refine gT_n 1 ?_
        refine ⟨fun c => absurd c (by decide), fun _ => ?_⟩
        refine gT_n 3 ?_
        refine ⟨(Or.inr rfl), ?_⟩
        exact ⟨rfl, Or.inl ⟨rfl, (Or.inr (Or.inl κ2))⟩⟩
    · refine gT_n 2 ?_
      show gT _ 24 5 _ _ _ _ _
      refine gT_n 1 ?_
      refine ⟨fun c => absurd c (by decide), fun _ => ?_⟩
      refine gT_n 3 ?_
      refine ⟨(Or.inr rfl), ?_⟩
      exact ⟨rfl, Or.inl ⟨rfl, (Or.inl κ1)⟩⟩
theorem c_kage34 {d : Nat} {k ck : Int32} {l : zK} {I : Nat → Nat → Int32} {J : Nat → Nat → Int64} {P : Nat → Nat} (hl : l.length ≤ 3) (hK : cK (I 34 2) (I 35) (I 36) l) (hk : khas l k) : gTM (d + 1) 25 [.ref 34, .int k, .int ck] (gST I J P) (fun r u => u = gST I J P ∧ r = some (.int (ck - ksin l k))) := by
  rcases zK3 hl with rfl | ⟨a1, a2, rfl⟩ | ⟨a1, a2, b1, b2, rfl⟩ | ⟨a1, a2, b1, b2, c1, c2, rfl⟩
  · exact hk.elim
  · refine gT_n 3 ?_
    refine ⟨rfl, rfl, ?_⟩
    refine gT_n 6 ?_
    refine ⟨rfl, fun c => absurd c (kpT (p := fun z : Int32 => ¬ (z ≤ 0)) (show _ = (1 : Int32) from hK.1) (by decide)), fun _ => ?_⟩
    refine gT_n 6 ?_
    refine ⟨rfl, rfl, (pk_in 0 3 (by decide) rfl), px_ne (X := a1) (Y := k) (hK.2.1.1) (rfl) (fun κ1 => ?_) (fun κ1 => ?_)⟩
    · refine gT_n 6 ?_
      refine ⟨rfl, fun _ => ?_, fun c => absurd (kpT (p := fun z : Int32 => z ≤ 1) (show _ = (1 : Int32) from hK.1) (by decide)) c⟩
      refine gT_n 2 ?_
      show gT _ 25 5 _ _ _ _ _
      refine gT_n 3 ?_
      refine ⟨fun c => absurd c (by decide), fun _ => ?_⟩
      refine gT_n 3 ?_
      exact absurd hk κ1
    · refine gT_n 2 ?_
      show gT _ 25 5 _ _ _ _ _
      refine gT_n 3 ?_
      refine ⟨fun _ => ?_, fun c => absurd (by decide) c⟩
      refine gT_n 7 ?_
      refine ⟨rfl, rfl, (pk_in 0 3 (by decide) rfl), ?_⟩
      exact ⟨rfl, ri (congrArg (ck - ·) ((hK.2.2.1).trans (Eq.symm rfl)))⟩
  · refine gT_n 3 ?_
    refine ⟨rfl, rfl, ?_⟩
    refine gT_n 6 ?_
    refine ⟨rfl, fun c => absurd c (kpT (p := fun z : Int32 => ¬ (z ≤ 0)) (show _ = (2 : Int32) from hK.1) (by decide)), fun _ => ?_⟩
    refine gT_n 6 ?_
    refine ⟨rfl, rfl, (pk_in 0 3 (by decide) rfl), px_ne (X := a1) (Y := k) (hK.2.1.1) (rfl) (fun κ1 => ?_) (fun κ1 => ?_)⟩
    · refine gT_n 6 ?_
      refine ⟨rfl, fun c => absurd c (kpT (p := fun z : Int32 => ¬ (z ≤ 1)) (show _ = (2 : Int32) from hK.1) (by decide)), fun _ => ?_⟩
      refine gT_n 6 ?_
      refine ⟨rfl, rfl, (pk_in 1 3 (by decide) rfl), px_ne (X := b1) (Y := k) (hK.2.1.2.1) (rfl) (fun κ2 => ?_) (fun κ2 => ?_)⟩
      · refine gT_n 6 ?_
        refine ⟨rfl, fun _ => ?_, fun c => absurd (kpT (p := fun z : Int32 => z ≤ 2) (show _ = (2 : Int32) from hK.1) (by decide)) c⟩
        refine gT_n 2 ?_
        show gT _ 25 5 _ _ _ _ _
        refine gT_n 3 ?_
        refine ⟨fun c => absurd c (by decide), fun _ => ?_⟩
        refine gT_n 3 ?_
        exact absurd hk (fun z => Or.elim z κ1 κ2)
      · refine gT_n 2 ?_
        show gT _ 25 5 _ _ _ _ _
        refine gT_n 3 ?_
        refine ⟨fun _ => ?_, fun c => absurd (by decide) c⟩
        refine gT_n 7 ?_
        refine ⟨rfl, rfl, (pk_in 1 3 (by decide) rfl), ?_⟩
        exact ⟨rfl, ri (congrArg (ck - ·) ((hK.2.2.2.1).trans (Eq.symm (if_neg κ1))))⟩
    · refine gT_n 2 ?_
      show gT _ 25 5 _ _ _ _ _
      refine gT_n 3 ?_
      refine ⟨fun _ => ?_, fun c => absurd (by decide) c⟩
      refine gT_n 7 ?_
      refine ⟨rfl, rfl, (pk_in 0 3 (by decide) rfl), ?_⟩
      exact ⟨rfl, ri (congrArg (ck - ·) ((hK.2.2.1).trans (Eq.symm (if_pos κ1))))⟩
  · refine gT_n 3 ?_
    refine ⟨rfl, rfl, ?_⟩
    refine gT_n 6 ?_
    refine ⟨rfl, fun c => absurd c (kpT (p := fun z : Int32 => ¬ (z ≤ 0)) (show _ = (3 : Int32) from hK.1) (by decide)), fun _ => ?_⟩
    refine gT_n 6 ?_
    refine ⟨rfl, rfl, (pk_in 0 3 (by decide) rfl), px_ne (X := a1) (Y := k) (hK.2.1.1) (rfl) (fun κ1 => ?_) (fun κ1 => ?_)⟩
    · refine gT_n 6 ?_
      refine ⟨rfl, fun c => absurd c (kpT (p := fun z : Int32 => ¬ (z ≤ 1)) (show _ = (3 : Int32) from hK.1) (by decide)), fun _ => ?_⟩
      refine gT_n 6 ?_
      refine ⟨rfl, rfl, (pk_in 1 3 (by decide) rfl), px_ne (X := b1) (Y := k) (hK.2.1.2.1) (rfl) (fun κ2 => ?_) (fun κ2 => ?_)⟩
      · refine gT_n 6 ?_
        refine ⟨rfl, fun c => absurd c (kpT (p := fun z : Int32 => ¬ (z ≤ 2)) (show _ = (3 : Int32) from hK.1) (by decide)), fun _ => ?_⟩
        refine gT_n 6 ?_
        refine ⟨rfl, rfl, (pk_in 2 3 (by decide) rfl), px_ne (X := c1) (Y := k) (hK.2.1.2.2) (rfl) (fun κ3 => ?_) (fun κ3 => ?_)⟩
        · refine gT_n 6 ?_
          refine ⟨rfl, fun _ => ?_, fun c => absurd (kpT (p := fun z : Int32 => z ≤ 3) (show _ = (3 : Int32) from hK.1) (by decide)) c⟩
          refine gT_n 2 ?_
          show gT _ 25 5 _ _ _ _ _
          refine gT_n 3 ?_
          refine ⟨fun c => absurd c (by decide), fun _ => ?_⟩
          refine gT_n 3 ?_
          exact absurd hk (fun z => Or.elim z κ1 (fun z => Or.elim z κ2 κ3))
        · refine gT_n 2 ?_
          show gT _ 25 5 _ _ _ _ _
          refine gT_n 3 ?_
          refine ⟨fun _ => ?_, fun c => absurd (by decide) c⟩
          refine gT_n 7 ?_
          refine ⟨rfl, rfl, (pk_in 2 3 (by decide) rfl), ?_⟩
          exact ⟨rfl, ri (congrArg (ck - ·) ((hK.2.2.2.2).trans (Eq.symm (Eq.trans (if_neg κ1) (if_neg κ2)))))⟩
      · refine gT_n 2 ?_
        show gT _ 25 5 _ _ _ _ _
        refine gT_n 3 ?_
        refine ⟨fun _ => ?_, fun c => absurd (by decide) c⟩
        refine gT_n 7 ?_
        refine ⟨rfl, rfl, (pk_in 1 3 (by decide) rfl), ?_⟩
        exact ⟨rfl, ri (congrArg (ck - ·) ((hK.2.2.2.1).trans (Eq.symm (Eq.trans (if_neg κ1) (if_pos κ2)))))⟩
    · refine gT_n 2 ?_
      show gT _ 25 5 _ _ _ _ _
      refine gT_n 3 ?_
      refine ⟨fun _ => ?_, fun c => absurd (by decide) c⟩
      refine gT_n 7 ?_
      refine ⟨rfl, rfl, (pk_in 0 3 (by decide) rfl), ?_⟩
      exact ⟨rfl, ri (congrArg (ck - ·) ((hK.2.2.1).trans (Eq.symm (if_pos κ1))))⟩
theorem c_khas37 {d : Nat} {k : Int32} {l : zK} {I : Nat → Nat → Int32} {J : Nat → Nat → Int64} {P : Nat → Nat} (hl : l.length ≤ 3) (hK : cK (I 37 2) (I 38) (I 39) l) : gTM (d + 1) 24 [.ref 37, .int k] (gST I J P) (gB (gST I J P) (khas l k)) := by
  rcases zK3 hl with rfl | ⟨a1, a2, rfl⟩ | ⟨a1, a2, b1, b2, rfl⟩ | ⟨a1, a2, b1, b2, c1, c2, rfl⟩
  · refine gT_n 3 ?_
    refine ⟨rfl, rfl, ?_⟩
    refine gT_n 6 ?_
    refine ⟨rfl, fun _ => ?_, fun c => absurd (kpT (p := fun z : Int32 => z ≤ 0) (show _ = (0 : Int32) from hK.1) (by decide)) c⟩
    refine gT_n 2 ?_
    show gT _ 24 5 _ _ _ _ _
    refine gT_n 1 ?_
    refine ⟨fun _ => ?_, fun c => absurd (by decide) c⟩
    refine gT_n 2 ?_
    refine ⟨(Or.inl rfl), ?_⟩
    exact ⟨rfl, Or.inr ⟨rfl, id⟩⟩
  · refine gT_n 3 ?_
    refine ⟨rfl, rfl, ?_⟩
    refine gT_n 6 ?_
    refine ⟨rfl, fun c => absurd c (kpT (p := fun z : Int32 => ¬ (z ≤ 0)) (show _ = (1 : Int32) from hK.1) (by decide)), fun _ => ?_⟩
    refine gT_n 6 ?_
    refine ⟨rfl, rfl, (pk_in 0 3 (by decide) rfl), px_ne (X := a1) (Y := k) (hK.2.1.1) (rfl) (fun κ1 => ?_) (fun κ1 => ?_)⟩
    · refine gT_n 6 ?_
      refine ⟨rfl, fun _ => ?_, fun c => absurd (kpT (p := fun z : Int32 => z ≤ 1) (show _ = (1 : Int32) from hK.1) (by decide)) c⟩
      refine gT_n 2 ?_
      show gT _ 24 5 _ _ _ _ _
      refine gT_n 1 ?_
      refine ⟨fun _ => ?_, fun c => absurd (by decide) c⟩
      refine gT_n 2 ?_
      refine ⟨(Or.inl rfl), ?_⟩
      exact ⟨rfl, Or.inr ⟨rfl, κ1⟩⟩
    · refine gT_n 2 ?_
      show gT _ 24 5 _ _ _ _ _
      refine gT_n 1 ?_
      refine ⟨fun c => absurd c (by decide), fun _ => ?_⟩
      refine gT_n 3 ?_
      refine ⟨(Or.inr rfl), ?_⟩
      exact ⟨rfl, Or.inl ⟨rfl, κ1⟩⟩
  · refine gT_n 3 ?_
    refine ⟨rfl, rfl, ?_⟩
    refine gT_n 6 ?_
    refine ⟨rfl, fun c => absurd c (kpT (p := fun z : Int32 => ¬ (z ≤ 0)) (show _ = (2 : Int32) from hK.1) (by decide)), fun _ => ?_⟩
    refine gT_n 6 ?_
    refine ⟨rfl, rfl, (pk_in 0 3 (by decide) rfl), px_ne (X := a1) (Y := k) (hK.2.1.1) (rfl) (fun κ1 => ?_) (fun κ1 => ?_)⟩
    · refine gT_n 6 ?_
      refine ⟨rfl, fun c => absurd c (kpT (p := fun z : Int32 => ¬ (z ≤ 1)) (show _ = (2 : Int32) from hK.1) (by decide)), fun _ => ?_⟩
      refine gT_n 6 ?_
      refine ⟨rfl, rfl, (pk_in 1 3 (by decide) rfl), px_ne (X := b1) (Y := k) (hK.2.1.2.1) (rfl) (fun κ2 => ?_) (fun κ2 => ?_)⟩
      · refine gT_n 6 ?_
        refine ⟨rfl, fun _ => ?_, fun c => absurd (kpT (p := fun z : Int32 => z ≤ 2) (show _ = (2 : Int32) from hK.1) (by decide)) c⟩
        refine gT_n 2 ?_
        show gT _ 24 5 _ _ _ _ _
        refine gT_n 1 ?_
        refine ⟨fun _ => ?_, fun c => absurd (by decide) c⟩
        refine gT_n 2 ?_
        refine ⟨(Or.inl rfl), ?_⟩
        exact ⟨rfl, Or.inr ⟨rfl, (fun z => Or.elim z κ1 κ2)⟩⟩
      · refine gT_n 2 ?_
        show gT _ 24 5 _ _ _ _ _
        refine gT_n 1 ?_
        refine ⟨fun c => absurd c (by decide), fun _ => ?_⟩
        refine gT_n 3 ?_
        refine ⟨(Or.inr rfl), ?_⟩
        exact ⟨rfl, Or.inl ⟨rfl, (Or.inr (κ2))⟩⟩
    · refine gT_n 2 ?_
      show gT _ 24 5 _ _ _ _ _
      refine gT_n 1 ?_
      refine ⟨fun c => absurd c (by decide), fun _ => ?_⟩
      refine gT_n 3 ?_
      refine ⟨(Or.inr rfl), ?_⟩
      exact ⟨rfl, Or.inl ⟨rfl, (Or.inl κ1)⟩⟩
  · refine gT_n 3 ?_
    refine ⟨rfl, rfl, ?_⟩
    refine gT_n 6 ?_
    refine ⟨rfl, fun c => absurd c (kpT (p := fun z : Int32 => ¬ (z ≤ 0)) (show _ = (3 : Int32) from hK.1) (by decide)), fun _ => ?_⟩
    refine gT_n 6 ?_
    refine ⟨rfl, rfl, (pk_in 0 3 (by decide) rfl), px_ne (X := a1) (Y := k) (hK.2.1.1) (rfl) (fun κ1 => ?_) (fun κ1 => ?_)⟩
    · refine gT_n 6 ?_
      refine ⟨rfl, fun c => absurd c (kpT (p := fun z : Int32 => ¬ (z ≤ 1)) (show _ = (3 : Int32) from hK.1) (by decide)), fun _ => ?_⟩
      refine gT_n 6 ?_
      refine ⟨rfl, rfl, (pk_in 1 3 (by decide) rfl), px_ne (X := b1) (Y := k) (hK.2.1.2.1) (rfl) (fun κ2 => ?_) (fun κ2 => ?_)⟩
      · refine gT_n 6 ?_
        refine ⟨rfl, fun c => absurd c (kpT (p := fun z : Int32 => ¬ (z ≤ 2)) (show _ = (3 : Int32) from hK.1) (by decide)), fun _ => ?_⟩
        refine gT_n 6 ?_
        refine ⟨rfl, rfl, (pk_in 2 3 (by decide) rfl), px_ne (X := c1) (Y := k) (hK.2.1.2.2) (rfl) (fun κ3 => ?_) (fun κ3 => ?_)⟩
        · refine gT_n 6 ?_
          refine ⟨rfl, fun _ => ?_, fun c => absurd (kpT (p := fun z : Int32 => z ≤ 3) (show _ = (3 : Int32) from hK.1) (by decide)) c⟩
          refine gT_n 2 ?_
          show gT _ 24 5 _ _ _ _ _
          refine gT_n 1 ?_
          refine ⟨fun _ => ?_, fun c => absurd (by decide) c⟩
          refine gT_n 2 ?_
          refine ⟨(Or.inl rfl), ?_⟩
          exact ⟨rfl, Or.inr ⟨rfl, (fun z => Or.elim z κ1 (fun z => Or.elim z κ2 κ3))⟩⟩
        · refine gT_n 2 ?_
          show gT _ 24 5 _ _ _ _ _
          refine gT_n 1 ?_
          refine ⟨fun c => absurd c (by decide), fun _ => ?_⟩
          refine gT_n 3 ?_
          refine ⟨(Or.inr rfl), ?_⟩
          exact ⟨rfl, Or.inl ⟨rfl, (Or.inr (Or.inr (κ3)))⟩⟩
      · refine gT_n 2 ?_
        show gT _ 24 5 _ _ _ _ _
        refine gT_n 1 ?_
        refine ⟨fun c => absurd c (by decide), fun _ => ?_⟩
        refine gT_n 3 ?_
        refine ⟨(Or.inr rfl), ?_⟩
        exact ⟨rfl, Or.inl ⟨rfl, (Or.inr (Or.inl κ2))⟩⟩
    · refine gT_n 2 ?_
      show gT _ 24 5 _ _ _ _ _
      refine gT_n 1 ?_
      refine ⟨fun c => absurd c (by decide), fun _ => ?_⟩
      refine gT_n 3 ?_
      refine ⟨(Or.inr rfl), ?_⟩
      exact ⟨rfl, Or.inl ⟨rfl, (Or.inl κ1)⟩⟩
theorem c_kage37 {d : Nat} {k ck : Int32} {l : zK} {I : Nat → Nat → Int32} {J : Nat → Nat → Int64} {P : Nat → Nat} (hl : l.length ≤ 3) (hK : cK (I 37 2) (I 38) (I 39) l) (hk : khas l k) : gTM (d + 1) 25 [.ref 37, .int k, .int ck] (gST I J P) (fun r u => u = gST I J P ∧ r = some (.int (ck - ksin l k))) := by
  rcases zK3 hl with rfl | ⟨a1, a2, rfl⟩ | ⟨a1, a2, b1, b2, rfl⟩ | ⟨a1, a2, b1, b2, c1, c2, rfl⟩
  · exact hk.elim
  · refine gT_n 3 ?_
    refine ⟨rfl, rfl, ?_⟩
    refine gT_n 6 ?_
    refine ⟨rfl, fun c => absurd c (kpT (p := fun z : Int32 => ¬ (z ≤ 0)) (show _ = (1 : Int32) from hK.1) (by decide)), fun _ => ?_⟩
    refine gT_n 6 ?_
    refine ⟨rfl, rfl, (pk_in 0 3 (by decide) rfl), px_ne (X := a1) (Y := k) (hK.2.1.1) (rfl) (fun κ1 => ?_) (fun κ1 => ?_)⟩
    · refine gT_n 6 ?_
      refine ⟨rfl, fun _ => ?_, fun c => absurd (kpT (p := fun z : Int32 => z ≤ 1) (show _ = (1 : Int32) from hK.1) (by decide)) c⟩
      refine gT_n 2 ?_
      show gT _ 25 5 _ _ _ _ _
      refine gT_n 3 ?_
      refine ⟨fun c => absurd c (by decide), fun _ => ?_⟩
      refine gT_n 3 ?_
      exact absurd hk κ1
    · refine gT_n 2 ?_
      show gT _ 25 5 _ _ _ _ _
      refine gT_n 3 ?_
      refine ⟨fun _ => ?_, fun c => absurd (by decide) c⟩
      refine gT_n 7 ?_
      refine ⟨rfl, rfl, (pk_in 0 3 (by decide) rfl), ?_⟩
      exact ⟨rfl, ri (congrArg (ck - ·) ((hK.2.2.1).trans (Eq.symm rfl)))⟩
  · refine gT_n 3 ?_
    refine ⟨rfl, rfl, ?_⟩
    refine gT_n 6 ?_
    refine ⟨rfl, fun c => absurd c (kpT (p := fun z : Int32 => ¬ (z ≤ 0)) (show _ = (2 : Int32) from hK.1) (by decide)), fun _ => ?_⟩
    refine gT_n 6 ?_
    refine ⟨rfl, rfl, (pk_in 0 3 (by decide) rfl), px_ne (X := a1) (Y := k) (hK.2.1.1) (rfl) (fun κ1 => ?_) (fun κ1 => ?_)⟩
    · refine gT_n 6 ?_
      refine ⟨rfl, fun c => absurd c (kpT (p := fun z : Int32 => ¬ (z ≤ 1)) (show _ = (2 : Int32) from hK.1) (by decide)), fun _ => ?_⟩
      refine gT_n 6 ?_
      refine ⟨rfl, rfl, (pk_in 1 3 (by decide) rfl), px_ne (X := b1) (Y := k) (hK.2.1.2.1) (rfl) (fun κ2 => ?_) (fun κ2 => ?_)⟩
      · refine gT_n 6 ?_
        refine ⟨rfl, fun _ => ?_, fun c => absurd (kpT (p := fun z : Int32 => z ≤ 2) (show _ = (2 : Int32) from hK.1) (by decide)) c⟩
        refine gT_n 2 ?_
        show gT _ 25 5 _ _ _ _ _
        refine gT_n 3 ?_
        refine ⟨fun c => absurd c (by decide), fun _ => ?_⟩
        refine gT_n 3 ?_
        exact absurd hk (fun z => Or.elim z κ1 κ2)
      · refine gT_n 2 ?_
        show gT _ 25 5 _ _ _ _ _
        refine gT_n 3 ?_
        refine ⟨fun _ => ?_, fun c => absurd (by decide) c⟩
        refine gT_n 7 ?_
        refine ⟨rfl, rfl, (pk_in 1 3 (by decide) rfl), ?_⟩
        exact ⟨rfl, ri (congrArg (ck - ·) ((hK.2.2.2.1).trans (Eq.symm (if_neg κ1))))⟩
    · refine gT_n 2 ?_
      show gT _ 25 5 _ _ _ _ _
      refine gT_n 3 ?_
      refine ⟨fun _ => ?_, fun c => absurd (by decide) c⟩
      refine gT_n 7 ?_
      refine ⟨rfl, rfl, (pk_in 0 3 (by decide) rfl), ?_⟩
      exact ⟨rfl, ri (congrArg (ck - ·) ((hK.2.2.1).trans (Eq.symm (if_pos κ1))))⟩
  · refine gT_n 3 ?_
    refine ⟨rfl, rfl, ?_⟩
    refine gT_n 6 ?_
    refine ⟨rfl, fun c => absurd c (kpT (p := fun z : Int32 => ¬ (z ≤ 0)) (show _ = (3 : Int32) from hK.1) (by decide)), fun _ => ?_⟩
    refine gT_n 6 ?_
    refine ⟨rfl, rfl, (pk_in 0 3 (by decide) rfl), px_ne (X := a1) (Y := k) (hK.2.1.1) (rfl) (fun κ1 => ?_) (fun κ1 => ?_)⟩
    · refine gT_n 6 ?_
      refine ⟨rfl, fun c => absurd c (kpT (p := fun z : Int32 => ¬ (z ≤ 1)) (show _ = (3 : Int32) from hK.1) (by decide)), fun _ => ?_⟩
      refine gT_n 6 ?_
      refine ⟨rfl, rfl, (pk_in 1 3 (by decide) rfl), px_ne (X := b1) (Y := k) (hK.2.1.2.1) (rfl) (fun κ2 => ?_) (fun κ2 => ?_)⟩
      · refine gT_n 6 ?_
        refine ⟨rfl, fun c => absurd c (kpT (p := fun z : Int32 => ¬ (z ≤ 2)) (show _ = (3 : Int32) from hK.1) (by decide)), fun _ => ?_⟩
        refine gT_n 6 ?_
        refine ⟨rfl, rfl, (pk_in 2 3 (by decide) rfl), px_ne (X := c1) (Y := k) (hK.2.1.2.2) (rfl) (fun κ3 => ?_) (fun κ3 => ?_)⟩
        · refine gT_n 6 ?_
          refine ⟨rfl, fun _ => ?_, fun c => absurd (kpT (p := fun z : Int32 => z ≤ 3) (show _ = (3 : Int32) from hK.1) (by decide)) c⟩
          refine gT_n 2 ?_
          show gT _ 25 5 _ _ _ _ _
          refine gT_n 3 ?_
          refine ⟨fun c => absurd c (by decide), fun _ => ?_⟩
          refine gT_n 3 ?_
          exact absurd hk (fun z => Or.elim z κ1 (fun z => Or.elim z κ2 κ3))
        · refine gT_n 2 ?_
          show gT _ 25 5 _ _ _ _ _
          refine gT_n 3 ?_
          refine ⟨fun _ => ?_, fun c => absurd (by decide) c⟩
          refine gT_n 7 ?_
          refine ⟨rfl, rfl, (pk_in 2 3 (by decide) rfl), ?_⟩
          exact ⟨rfl, ri (congrArg (ck - ·) ((hK.2.2.2.2).trans (Eq.symm (Eq.trans (if_neg κ1) (if_neg κ2)))))⟩
      · refine gT_n 2 ?_
        show gT _ 25 5 _ _ _ _ _
        refine gT_n 3 ?_
        refine ⟨fun _ => ?_, fun c => absurd (by decide) c⟩
        refine gT_n 7 ?_
        refine ⟨rfl, rfl, (pk_in 1 3 (by decide) rfl), ?_⟩
        exact ⟨rfl, ri (congrArg (ck - ·) ((hK.2.2.2.1).trans (Eq.symm (Eq.trans (if_neg κ1) (if_pos κ2)))))⟩
    · refine gT_n 2 ?_
      show gT _ 25 5 _ _ _ _ _
      refine gT_n 3 ?_
      refine ⟨fun _ => ?_, fun c => absurd (by decide) c⟩
      refine gT_n 7 ?_
      refine ⟨rfl, rfl, (pk_in 0 3 (by decide) rfl), ?_⟩
      exact ⟨rfl, ri (congrArg (ck - ·) ((hK.2.2.1).trans (Eq.symm (if_pos κ1))))⟩
theorem c_khas40 {d : Nat} {k : Int32} {l : zK} {I : Nat → Nat → Int32} {J : Nat → Nat → Int64} {P : Nat → Nat} (hl : l.length ≤ 3) (hK : cK (I 40 2) (I 41) (I 42) l) : gTM (d + 1) 24 [.ref 40, .int k] (gST I J P) (gB (gST I J P) (khas l k)) := by
  rcases zK3 hl with rfl | ⟨a1, a2, rfl⟩ | ⟨a1, a2, b1, b2, rfl⟩ | ⟨a1, a2, b1, b2, c1, c2, rfl⟩
  · refine gT_n 3 ?_
    refine ⟨rfl, rfl, ?_⟩
    refine gT_n 6 ?_
    refine ⟨rfl, fun _ => ?_, fun c => absurd (kpT (p := fun z : Int32 => z ≤ 0) (show _ = (0 : Int32) from hK.1) (by decide)) c⟩
    refine gT_n 2 ?_
    show gT _ 24 5 _ _ _ _ _
    refine gT_n 1 ?_
    refine ⟨fun _ => ?_, fun c => absurd (by decide) c⟩
    refine gT_n 2 ?_
    refine ⟨(Or.inl rfl), ?_⟩
    exact ⟨rfl, Or.inr ⟨rfl, id⟩⟩
  · refine gT_n 3 ?_
    refine ⟨rfl, rfl, ?_⟩
    refine gT_n 6 ?_
    refine ⟨rfl, fun c => absurd c (kpT (p := fun z : Int32 => ¬ (z ≤ 0)) (show _ = (1 : Int32) from hK.1) (by decide)), fun _ => ?_⟩
    refine gT_n 6 ?_
    refine ⟨rfl, rfl, (pk_in 0 3 (by decide) rfl), px_ne (X := a1) (Y := k) (hK.2.1.1) (rfl) (fun κ1 => ?_) (fun κ1 => ?_)⟩
    · refine gT_n 6 ?_
      refine ⟨rfl, fun _ => ?_, fun c => absurd (kpT (p := fun z : Int32 => z ≤ 1) (show _ = (1 : Int32) from hK.1) (by decide)) c⟩
      refine gT_n 2 ?_
      show gT _ 24 5 _ _ _ _ _
      refine gT_n 1 ?_
      refine ⟨fun _ => ?_, fun c => absurd (by decide) c⟩
      refine gT_n 2 ?_
      refine ⟨(Or.inl rfl), ?_⟩
      exact ⟨rfl, Or.inr ⟨rfl, κ1⟩⟩
    · refine gT_n 2 ?_
      show gT _ 24 5 _ _ _ _ _
      refine gT_n 1 ?_
      refine ⟨fun c => absurd c (by decide), fun _ => ?_⟩
      refine gT_n 3 ?_
      refine ⟨(Or.inr rfl), ?_⟩
      exact ⟨rfl, Or.inl ⟨rfl, κ1⟩⟩
  · refine gT_n 3 ?_
    refine ⟨rfl, rfl, ?_⟩
    refine gT_n 6 ?_
    refine ⟨rfl, fun c => absurd c (kpT (p := fun z : Int32 => ¬ (z ≤ 0)) (show _ = (2 : Int32) from hK.1) (by decide)), fun _ => ?_⟩
    refine gT_n 6 ?_
    refine ⟨rfl, rfl, (pk_in 0 3 (by decide) rfl), px_ne (X := a1) (Y := k) (hK.2.1.1) (rfl) (fun κ1 => ?_) (fun κ1 => ?_)⟩
    · refine gT_n 6 ?_
      refine ⟨rfl, fun c => absurd c (kpT (p := fun z : Int32 => ¬ (z ≤ 1)) (show _ = (2 : Int32) from hK.1) (by decide)), fun _ => ?_⟩
      refine gT_n 6 ?_
      refine ⟨rfl, rfl, (pk_in 1 3 (by decide) rfl), px_ne (X := b1) (Y := k) (hK.2.1.2.1) (rfl) (fun κ2 => ?_) (fun κ2 => ?_)⟩
      · refine gT_n 6 ?_
        refine ⟨rfl, fun _ => ?_, fun c => absurd (kpT (p := fun z : Int32 => z ≤ 2) (show _ = (2 : Int32) from hK.1) (by decide)) c⟩
        refine gT_n 2 ?_
        show gT _ 24 5 _ _ _ _ _
        refine gT_n 1 ?_
        refine ⟨fun _ => ?_, fun c => absurd (by decide) c⟩
        refine gT_n 2 ?_
        refine ⟨(Or.inl rfl), ?_⟩
        exact ⟨rfl, Or.inr ⟨rfl, (fun z => Or.elim z κ1 κ2)⟩⟩
      · refine gT_n 2 ?_
        show gT _ 24 5 _ _ _ _ _
        refine gT_n 1 ?_
        refine ⟨fun c => absurd c (by decide), fun _ => ?_⟩
        refine gT_n 3 ?_
        refine ⟨(Or.inr rfl), ?_⟩
        exact ⟨rfl, Or.inl ⟨rfl, (Or.inr (κ2))⟩⟩
    · refine gT_n 2 ?_
      show gT _ 24 5 _ _ _ _ _
      refine gT_n 1 ?_
      refine ⟨fun c => absurd c (by decide), fun _ => ?_⟩
      refine gT_n 3 ?_
      refine ⟨(Or.inr rfl), ?_⟩
      exact ⟨rfl, Or.inl ⟨rfl, (Or.inl κ1)⟩⟩
  · refine gT_n 3 ?_
    refine ⟨rfl, rfl, ?_⟩
    refine gT_n 6 ?_
    refine ⟨rfl, fun c => absurd c (kpT (p := fun z : Int32 => ¬ (z ≤ 0)) (show _ = (3 : Int32) from hK.1) (by decide)), fun _ => ?_⟩
    refine gT_n 6 ?_
    refine ⟨rfl, rfl, (pk_in 0 3 (by decide) rfl), px_ne (X := a1) (Y := k) (hK.2.1.1) (rfl) (fun κ1 => ?_) (fun κ1 => ?_)⟩
    · refine gT_n 6 ?_
      refine ⟨rfl, fun c => absurd c (kpT (p := fun z : Int32 => ¬ (z ≤ 1)) (show _ = (3 : Int32) from hK.1) (by decide)), fun _ => ?_⟩
      refine gT_n 6 ?_
      refine ⟨rfl, rfl, (pk_in 1 3 (by decide) rfl), px_ne (X := b1) (Y := k) (hK.2.1.2.1) (rfl) (fun κ2 => ?_) (fun κ2 => ?_)⟩
      · refine gT_n 6 ?_
        refine ⟨rfl, fun c => absurd c (kpT (p := fun z : Int32 => ¬ (z ≤ 2)) (show _ = (3 : Int32) from hK.1) (by decide)), fun _ => ?_⟩
        refine gT_n 6 ?_
        refine ⟨rfl, rfl, (pk_in 2 3 (by decide) rfl), px_ne (X := c1) (Y := k) (hK.2.1.2.2) (rfl) (fun κ3 => ?_) (fun κ3 => ?_)⟩
        · refine gT_n 6 ?_
          refine ⟨rfl, fun _ => ?_, fun c => absurd (kpT (p := fun z : Int32 => z ≤ 3) (show _ = (3 : Int32) from hK.1) (by decide)) c⟩
          refine gT_n 2 ?_
          show gT _ 24 5 _ _ _ _ _
          refine gT_n 1 ?_
          refine ⟨fun _ => ?_, fun c => absurd (by decide) c⟩
          refine gT_n 2 ?_
          refine ⟨(Or.inl rfl), ?_⟩
          exact ⟨rfl, Or.inr ⟨rfl, (fun z => Or.elim z κ1 (fun z => Or.elim z κ2 κ3))⟩⟩
        · refine gT_n 2 ?_
          show gT _ 24 5 _ _ _ _ _
          refine gT_n 1 ?_
          refine ⟨fun c => absurd c (by decide), fun _ => ?_⟩
          refine gT_n 3 ?_
          refine ⟨(Or.inr rfl), ?_⟩
          exact ⟨rfl, Or.inl ⟨rfl, (Or.inr (Or.inr (κ3)))⟩⟩
      · refine gT_n 2 ?_
        show gT _ 24 5 _ _ _ _ _
        refine gT_n 1 ?_
        refine ⟨fun c => absurd c (by decide), fun _ => ?_⟩
        refine gT_n 3 ?_
        refine ⟨(Or.inr rfl), ?_⟩
        exact ⟨rfl, Or.inl ⟨rfl, (Or.inr (Or.inl κ2))⟩⟩
    · refine gT_n 2 ?_
      show gT _ 24 5 _ _ _ _ _
      refine gT_n 1 ?_
      refine ⟨fun c => absurd c (by decide), fun _ => ?_⟩
      refine gT_n 3 ?_
      refine ⟨(Or.inr rfl), ?_⟩
      exact ⟨rfl, Or.inl ⟨rfl, (Or.inl κ1)⟩⟩
theorem c_kage40 {d : Nat} {k ck : Int32} {l : zK} {I : Nat → Nat → Int32} {J : Nat → Nat → Int64} {P : Nat → Nat} (hl : l.length ≤ 3) (hK : cK (I 40 2) (I 41) (I 42) l) (hk : khas l k) : gTM (d + 1) 25 [.ref 40, .int k, .int ck] (gST I J P) (fun r u => u = gST I J P ∧ r = some (.int (ck - ksin l k))) := by
  rcases zK3 hl with rfl | ⟨a1, a2, rfl⟩ | ⟨a1, a2, b1, b2, rfl⟩ | ⟨a1, a2, b1, b2, c1, c2, rfl⟩
  · exact hk.elim
  · refine gT_n 3 ?_
    refine ⟨rfl, rfl, ?_⟩
    refine gT_n 6 ?_
    refine ⟨rfl, fun c => absurd c (kpT (p := fun z : Int32 => ¬ (z ≤ 0)) (show _ = (1 : Int32) from hK.1) (by decide)), fun _ => ?_⟩
    refine gT_n 6 ?_
    refine ⟨rfl, rfl, (pk_in 0 3 (by decide) rfl), px_ne (X := a1) (Y := k) (hK.2.1.1) (rfl) (fun κ1 => ?_) (fun κ1 => ?_)⟩
    · refine gT_n 6 ?_
      refine ⟨rfl, fun _ => ?_, fun c => absurd (kpT (p := fun z : Int32 => z ≤ 1) (show _ = (1 : Int32) from hK.1) (by decide)) c⟩
      refine gT_n 2 ?_
      show gT _ 25 5 _ _ _ _ _
      refine gT_n 3 ?_
      refine ⟨fun c => absurd c (by decide), fun _ => ?_⟩
      refine gT_n 3 ?_
      exact absurd hk κ1
    · refine gT_n 2 ?_
      show gT _ 25 5 _ _ _ _ _
      refine gT_n 3 ?_
      refine ⟨fun _ => ?_, fun c => absurd (by decide) c⟩
      refine gT_n 7 ?_
      refine ⟨rfl, rfl, (pk_in 0 3 (by decide) rfl), ?_⟩
      exact ⟨rfl, ri (congrArg (ck - ·) ((hK.2.2.1).trans (Eq.symm rfl)))⟩
  · refine gT_n 3 ?_
    refine ⟨rfl, rfl, ?_⟩
    refine gT_n 6 ?_
    refine ⟨rfl, fun c => absurd c (kpT (p := fun z : Int32 => ¬ (z ≤ 0)) (show _ = (2 : Int32) from hK.1) (by decide)), fun _ => ?_⟩
    refine gT_n 6 ?_
    refine ⟨rfl, rfl, (pk_in 0 3 (by decide) rfl), px_ne (X := a1) (Y := k) (hK.2.1.1) (rfl) (fun κ1 => ?_) (fun κ1 => ?_)⟩
    · refine gT_n 6 ?_
      refine ⟨rfl, fun c => absurd c (kpT (p := fun z : Int32 => ¬ (z ≤ 1)) (show _ = (2 : Int32) from hK.1) (by decide)), fun _ => ?_⟩
      refine gT_n 6 ?_
      refine ⟨rfl, rfl, (pk_in 1 3 (by decide) rfl), px_ne (X := b1) (Y := k) (hK.2.1.2.1) (rfl) (fun κ2 => ?_) (fun κ2 => ?_)⟩
      · refine gT_n 6 ?_
        refine ⟨rfl, fun _ => ?_, fun c => absurd (kpT (p := fun z : Int32 => z ≤ 2) (show _ = (2 : Int32) from hK.1) (by decide)) c⟩
        refine gT_n 2 ?_
        show gT _ 25 5 _ _ _ _ _
        refine gT_n 3 ?_
        refine ⟨fun c => absurd c (by decide), fun _ => ?_⟩
        refine gT_n 3 ?_
        exact absurd hk (fun z => Or.elim z κ1 κ2)
      · refine gT_n 2 ?_
        show gT _ 25 5 _ _ _ _ _
        refine gT_n 3 ?_
        refine ⟨fun _ => ?_, fun c => absurd (by decide) c⟩
        refine gT_n 7 ?_
        refine ⟨rfl, rfl, (pk_in 1 3 (by decide) rfl), ?_⟩
        exact ⟨rfl, ri (congrArg (ck - ·) ((hK.2.2.2.1).trans (Eq.symm (if_neg κ1))))⟩
    · refine gT_n 2 ?_
      show gT _ 25 5 _ _ _ _ _
      refine gT_n 3 ?_
      refine ⟨fun _ => ?_, fun c => absurd (by decide) c⟩
      refine gT_n 7 ?_
      refine ⟨rfl, rfl, (pk_in 0 3 (by decide) rfl), ?_⟩
      exact ⟨rfl, ri (congrArg (ck - ·) ((hK.2.2.1).trans (Eq.symm (if_pos κ1))))⟩
  · refine gT_n 3 ?_
    refine ⟨rfl, rfl, ?_⟩
    refine gT_n 6 ?_
    refine ⟨rfl, fun c => absurd c (kpT (p := fun z : Int32 => ¬ (z ≤ 0)) (show _ = (3 : Int32) from hK.1) (by decide)), fun _ => ?_⟩
    refine gT_n 6 ?_
    refine ⟨rfl, rfl, (pk_in 0 3 (by decide) rfl), px_ne (X := a1) (Y := k) (hK.2.1.1) (rfl) (fun κ1 => ?_) (fun κ1 => ?_)⟩
    · refine gT_n 6 ?_
      refine ⟨rfl, fun c => absurd c (kpT (p := fun z : Int32 => ¬ (z ≤ 1)) (show _ = (3 : Int32) from hK.1) (by decide)), fun _ => ?_⟩
      refine gT_n 6 ?_
      refine ⟨rfl, rfl, (pk_in 1 3 (by decide) rfl), px_ne (X := b1) (Y := k) (hK.2.1.2.1) (rfl) (fun κ2 => ?_) (fun κ2 => ?_)⟩
      · refine gT_n 6 ?_
        refine ⟨rfl, fun c => absurd c (kpT (p := fun z : Int32 => ¬ (z ≤ 2)) (show _ = (3 : Int32) from hK.1) (by decide)), fun _ => ?_⟩
        refine gT_n 6 ?_
        refine ⟨rfl, rfl, (pk_in 2 3 (by decide) rfl), px_ne (X := c1) (Y := k) (hK.2.1.2.2) (rfl) (fun κ3 => ?_) (fun κ3 => ?_)⟩
        · refine gT_n 6 ?_
          refine ⟨rfl, fun _ => ?_, fun c => absurd (kpT (p := fun z : Int32 => z ≤ 3) (show _ = (3 : Int32) from hK.1) (by decide)) c⟩
          refine gT_n 2 ?_
          show gT _ 25 5 _ _ _ _ _
          refine gT_n 3 ?_
          refine ⟨fun c => absurd c (by decide), fun _ => ?_⟩
          refine gT_n 3 ?_
          exact absurd hk (fun z => Or.elim z κ1 (fun z => Or.elim z κ2 κ3))
        · refine gT_n 2 ?_
          show gT _ 25 5 _ _ _ _ _
          refine gT_n 3 ?_
          refine ⟨fun _ => ?_, fun c => absurd (by decide) c⟩
          refine gT_n 7 ?_
          refine ⟨rfl, rfl, (pk_in 2 3 (by decide) rfl), ?_⟩
          exact ⟨rfl, ri (congrArg (ck - ·) ((hK.2.2.2.2).trans (Eq.symm (Eq.trans (if_neg κ1) (if_neg κ2)))))⟩
      · refine gT_n 2 ?_
        show gT _ 25 5 _ _ _ _ _
        refine gT_n 3 ?_
        refine ⟨fun _ => ?_, fun c => absurd (by decide) c⟩
        refine gT_n 7 ?_
        refine ⟨rfl, rfl, (pk_in 1 3 (by decide) rfl), ?_⟩
        exact ⟨rfl, ri (congrArg (ck - ·) ((hK.2.2.2.1).trans (Eq.symm (Eq.trans (if_neg κ1) (if_pos κ2)))))⟩
    · refine gT_n 2 ?_
      show gT _ 25 5 _ _ _ _ _
      refine gT_n 3 ?_
      refine ⟨fun _ => ?_, fun c => absurd (by decide) c⟩
      refine gT_n 7 ?_
      refine ⟨rfl, rfl, (pk_in 0 3 (by decide) rfl), ?_⟩
      exact ⟨rfl, ri (congrArg (ck - ·) ((hK.2.2.1).trans (Eq.symm (if_pos κ1))))⟩
theorem c_khas43 {d : Nat} {k : Int32} {l : zK} {I : Nat → Nat → Int32} {J : Nat → Nat → Int64} {P : Nat → Nat} (hl : l.length ≤ 3) (hK : cK (I 43 2) (I 44) (I 45) l) : gTM (d + 1) 24 [.ref 43, .int k] (gST I J P) (gB (gST I J P) (khas l k)) := by
  rcases zK3 hl with rfl | ⟨a1, a2, rfl⟩ | ⟨a1, a2, b1, b2, rfl⟩ | ⟨a1, a2, b1, b2, c1, c2, rfl⟩
  · refine gT_n 3 ?_
    refine ⟨rfl, rfl, ?_⟩
    refine gT_n 6 ?_
    refine ⟨rfl, fun _ => ?_, fun c => absurd (kpT (p := fun z : Int32 => z ≤ 0) (show _ = (0 : Int32) from hK.1) (by decide)) c⟩
    refine gT_n 2 ?_
    show gT _ 24 5 _ _ _ _ _
    refine gT_n 1 ?_
    refine ⟨fun _ => ?_, fun c => absurd (by decide) c⟩
    refine gT_n 2 ?_
    refine ⟨(Or.inl rfl), ?_⟩
    exact ⟨rfl, Or.inr ⟨rfl, id⟩⟩
  · refine gT_n 3 ?_
    refine ⟨rfl, rfl, ?_⟩
    refine gT_n 6 ?_
    refine ⟨rfl, fun c => absurd c (kpT (p := fun z : Int32 => ¬ (z ≤ 0)) (show _ = (1 : Int32) from hK.1) (by decide)), fun _ => ?_⟩
    refine gT_n 6 ?_
    refine ⟨rfl, rfl, (pk_in 0 3 (by decide) rfl), px_ne (X := a1) (Y := k) (hK.2.1.1) (rfl) (fun κ1 => ?_) (fun κ1 => ?_)⟩
    · refine gT_n 6 ?_
      refine ⟨rfl, fun _ => ?_, fun c => absurd (kpT (p := fun z : Int32 => z ≤ 1) (show _ = (1 : Int32) from hK.1) (by decide)) c⟩
      refine gT_n 2 ?_
      show gT _ 24 5 _ _ _ _ _
      refine gT_n 1 ?_
      refine ⟨fun _ => ?_, fun c => absurd (by decide) c⟩
      refine gT_n 2 ?_
      refine ⟨(Or.inl rfl), ?_⟩
      exact ⟨rfl, Or.inr ⟨rfl, κ1⟩⟩
    · refine gT_n 2 ?_
      show gT _ 24 5 _ _ _ _ _
      refine gT_n 1 ?_
      refine ⟨fun c => absurd c (by decide), fun _ => ?_⟩
      refine gT_n 3 ?_
      refine ⟨(Or.inr rfl), ?_⟩
      exact ⟨rfl, Or.inl ⟨rfl, κ1⟩⟩
  · refine gT_n 3 ?_
    refine ⟨rfl, rfl, ?_⟩
    refine gT_n 6 ?_
    refine ⟨rfl, fun c => absurd c (kpT (p := fun z : Int32 => ¬ (z ≤ 0)) (show _ = (2 : Int32) from hK.1) (by decide)), fun _ => ?_⟩
    refine gT_n 6 ?_
    refine ⟨rfl, rfl, (pk_in 0 3 (by decide) rfl), px_ne (X := a1) (Y := k) (hK.2.1.1) (rfl) (fun κ1 => ?_) (fun κ1 => ?_)⟩
    · refine gT_n 6 ?_
      refine ⟨rfl, fun c => absurd c (kpT (p := fun z : Int32 => ¬ (z ≤ 1)) (show _ = (2 : Int32) from hK.1) (by decide)), fun _ => ?_⟩
      refine gT_n 6 ?_
      refine ⟨rfl, rfl, (pk_in 1 3 (by decide) rfl), px_ne (X := b1) (Y := k) (hK.2.1.2.1) (rfl) (fun κ2 => ?_) (fun κ2 => ?_)⟩
      · refine gT_n 6 ?_
        refine ⟨rfl, fun _ => ?_, fun c => absurd (kpT (p := fun z : Int32 => z ≤ 2) (show _ = (2 : Int32) from hK.1) (by decide)) c⟩
        refine gT_n 2 ?_
        show gT _ 24 5 _ _ _ _ _
        refine gT_n 1 ?_
        refine ⟨fun _ => ?_, fun c => absurd (by decide) c⟩
        refine gT_n 2 ?_
        refine ⟨(Or.inl rfl), ?_⟩
        exact ⟨rfl, Or.inr ⟨rfl, (fun z => Or.elim z κ1 κ2)⟩⟩
      · refine gT_n 2 ?_
        show gT _ 24 5 _ _ _ _ _
        refine gT_n 1 ?_
        refine ⟨fun c => absurd c (by decide), fun _ => ?_⟩
        refine gT_n 3 ?_
        refine ⟨(Or.inr rfl), ?_⟩
        exact ⟨rfl, Or.inl ⟨rfl, (Or.inr (κ2))⟩⟩
    · refine gT_n 2 ?_
      show gT _ 24 5 _ _ _ _ _
      refine gT_n 1 ?_
      refine ⟨fun c => absurd c (by decide), fun _ => ?_⟩
      refine gT_n 3 ?_
      refine ⟨(Or.inr rfl), ?_⟩
      exact ⟨rfl, Or.inl ⟨rfl, (Or.inl κ1)⟩⟩
  · refine gT_n 3 ?_
    refine ⟨rfl, rfl, ?_⟩
    refine gT_n 6 ?_
    refine ⟨rfl, fun c => absurd c (kpT (p := fun z : Int32 => ¬ (z ≤ 0)) (show _ = (3 : Int32) from hK.1) (by decide)), fun _ => ?_⟩
    refine gT_n 6 ?_
    refine ⟨rfl, rfl, (pk_in 0 3 (by decide) rfl), px_ne (X := a1) (Y := k) (hK.2.1.1) (rfl) (fun κ1 => ?_) (fun κ1 => ?_)⟩
    · refine gT_n 6 ?_
      refine ⟨rfl, fun c => absurd c (kpT (p := fun z : Int32 => ¬ (z ≤ 1)) (show _ = (3 : Int32) from hK.1) (by decide)), fun _ => ?_⟩
      refine gT_n 6 ?_
      refine ⟨rfl, rfl, (pk_in 1 3 (by decide) rfl), px_ne (X := b1) (Y := k) (hK.2.1.2.1) (rfl) (fun κ2 => ?_) (fun κ2 => ?_)⟩
      · refine gT_n 6 ?_
        refine ⟨rfl, fun c => absurd c (kpT (p := fun z : Int32 => ¬ (z ≤ 2)) (show _ = (3 : Int32) from hK.1) (by decide)), fun _ => ?_⟩
        refine gT_n 6 ?_
        refine ⟨rfl, rfl, (pk_in 2 3 (by decide) rfl), px_ne (X := c1) (Y := k) (hK.2.1.2.2) (rfl) (fun κ3 => ?_) (fun κ3 => ?_)⟩
        · refine gT_n 6 ?_
          refine ⟨rfl, fun _ => ?_, fun c => absurd (kpT (p := fun z : Int32 => z ≤ 3) (show _ = (3 : Int32) from hK.1) (by decide)) c⟩
          refine gT_n 2 ?_
          show gT _ 24 5 _ _ _ _ _
          refine gT_n 1 ?_
          refine ⟨fun _ => ?_, fun c => absurd (by decide) c⟩
          refine gT_n 2 ?_
          refine ⟨(Or.inl rfl), ?_⟩
          exact ⟨rfl, Or.inr ⟨rfl, (fun z => Or.elim z κ1 (fun z => Or.elim z κ2 κ3))⟩⟩
        · refine gT_n 2 ?_
          show gT _ 24 5 _ _ _ _ _
          refine gT_n 1 ?_
          refine ⟨fun c => absurd c (by decide), fun _ => ?_⟩
          refine gT_n 3 ?_
          refine ⟨(Or.inr rfl), ?_⟩
          exact ⟨rfl, Or.inl ⟨rfl, (Or.inr (Or.inr (κ3)))⟩⟩
      · refine gT_n 2 ?_
        show gT _ 24 5 _ _ _ _ _
        refine gT_n 1 ?_
        refine ⟨fun c => absurd c (by decide), fun _ => ?_⟩
        refine gT_n 3 ?_
        refine ⟨(Or.inr rfl), ?_⟩
        exact ⟨rfl, Or.inl ⟨rfl, (Or.inr (Or.inl κ2))⟩⟩
    · refine gT_n 2 ?_
      show gT _ 24 5 _ _ _ _ _
      refine gT_n 1 ?_
      refine ⟨fun c => absurd c (by decide), fun _ => ?_⟩
      refine gT_n 3 ?_
      refine ⟨(Or.inr rfl), ?_⟩
      exact ⟨rfl, Or.inl ⟨rfl, (Or.inl κ1)⟩⟩
theorem c_kage43 {d : Nat} {k ck : Int32} {l : zK} {I : Nat → Nat → Int32} {J : Nat → Nat → Int64} {P : Nat → Nat} (hl : l.length ≤ 3) (hK : cK (I 43 2) (I 44) (I 45) l) (hk : khas l k) : gTM (d + 1) 25 [.ref 43, .int k, .int ck] (gST I J P) (fun r u => u = gST I J P ∧ r = some (.int (ck - ksin l k))) := by
  rcases zK3 hl with rfl | ⟨a1, a2, rfl⟩ | ⟨a1, a2, b1, b2, rfl⟩ | ⟨a1, a2, b1, b2, c1, c2, rfl⟩
  · exact hk.elim
  · refine gT_n 3 ?_
    refine ⟨rfl, rfl, ?_⟩
    refine gT_n 6 ?_
    refine ⟨rfl, fun c => absurd c (kpT (p := fun z : Int32 => ¬ (z ≤ 0)) (show _ = (1 : Int32) from hK.1) (by decide)), fun _ => ?_⟩
    refine gT_n 6 ?_
    refine ⟨rfl, rfl, (pk_in 0 3 (by decide) rfl), px_ne (X := a1) (Y := k) (hK.2.1.1) (rfl) (fun κ1 => ?_) (fun κ1 => ?_)⟩
    · refine gT_n 6 ?_
      refine ⟨rfl, fun _ => ?_, fun c => absurd (kpT (p := fun z : Int32 => z ≤ 1) (show _ = (1 : Int32) from hK.1) (by decide)) c⟩
      refine gT_n 2 ?_
      show gT _ 25 5 _ _ _ _ _
      refine gT_n 3 ?_
      refine ⟨fun c => absurd c (by decide), fun _ => ?_⟩
      refine gT_n 3 ?_
      exact absurd hk κ1
    · refine gT_n 2 ?_
      show gT _ 25 5 _ _ _ _ _
      refine gT_n 3 ?_
      refine ⟨fun _ => ?_, fun c => absurd (by decide) c⟩
      refine gT_n 7 ?_
      refine ⟨rfl, rfl, (pk_in 0 3 (by decide) rfl), ?_⟩
      exact ⟨rfl, ri (congrArg (ck - ·) ((hK.2.2.1).trans (Eq.symm rfl)))⟩
  · refine gT_n 3 ?_
    refine ⟨rfl, rfl, ?_⟩
    refine gT_n 6 ?_
    refine ⟨rfl, fun c => absurd c (kpT (p := fun z : Int32 => ¬ (z ≤ 0)) (show _ = (2 : Int32) from hK.1) (by decide)), fun _ => ?_⟩
    refine gT_n 6 ?_
    refine ⟨rfl, rfl, (pk_in 0 3 (by decide) rfl), px_ne (X := a1) (Y := k) (hK.2.1.1) (rfl) (fun κ1 => ?_) (fun κ1 => ?_)⟩
    · refine gT_n 6 ?_
      refine ⟨rfl, fun c => absurd c (kpT (p := fun z : Int32 => ¬ (z ≤ 1)) (show _ = (2 : Int32) from hK.1) (by decide)), fun _ => ?_⟩
      refine gT_n 6 ?_
      refine ⟨rfl, rfl, (pk_in 1 3 (by decide) rfl), px_ne (X := b1) (Y := k) (hK.2.1.2.1) (rfl) (fun κ2 => ?_) (fun κ2 => ?_)⟩
      · refine gT_n 6 ?_
        refine ⟨rfl, fun _ => ?_, fun c => absurd (kpT (p := fun z : Int32 => z ≤ 2) (show _ = (2 : Int32) from hK.1) (by decide)) c⟩
        refine gT_n 2 ?_
        show gT _ 25 5 _ _ _ _ _
        refine gT_n 3 ?_
        refine ⟨fun c => absurd c (by decide), fun _ => ?_⟩
        refine gT_n 3 ?_
        exact absurd hk (fun z => Or.elim z κ1 κ2)
      · refine gT_n 2 ?_
        show gT _ 25 5 _ _ _ _ _
        refine gT_n 3 ?_
        refine ⟨fun _ => ?_, fun c => absurd (by decide) c⟩
        refine gT_n 7 ?_
        refine ⟨rfl, rfl, (pk_in 1 3 (by decide) rfl), ?_⟩
        exact ⟨rfl, ri (congrArg (ck - ·) ((hK.2.2.2.1).trans (Eq.symm (if_neg κ1))))⟩
    · refine gT_n 2 ?_
      show gT _ 25 5 _ _ _ _ _
      refine gT_n 3 ?_
      refine ⟨fun _ => ?_, fun c => absurd (by decide) c⟩
      refine gT_n 7 ?_
      refine ⟨rfl, rfl, (pk_in 0 3 (by decide) rfl), ?_⟩
      exact ⟨rfl, ri (congrArg (ck - ·) ((hK.2.2.1).trans (Eq.symm (if_pos κ1))))⟩
  · refine gT_n 3 ?_
    refine ⟨rfl, rfl, ?_⟩
    refine gT_n 6 ?_
    refine ⟨rfl, fun c => absurd c (kpT (p := fun z : Int32 => ¬ (z ≤ 0)) (show _ = (3 : Int32) from hK.1) (by decide)), fun _ => ?_⟩
    refine gT_n 6 ?_
    refine ⟨rfl, rfl, (pk_in 0 3 (by decide) rfl), px_ne (X := a1) (Y := k) (hK.2.1.1) (rfl) (fun κ1 => ?_) (fun κ1 => ?_)⟩
    · refine gT_n 6 ?_
      refine ⟨rfl, fun c => absurd c (kpT (p := fun z : Int32 => ¬ (z ≤ 1)) (show _ = (3 : Int32) from hK.1) (by decide)), fun _ => ?_⟩
      refine gT_n 6 ?_
      refine ⟨rfl, rfl, (pk_in 1 3 (by decide) rfl), px_ne (X := b1) (Y := k) (hK.2.1.2.1) (rfl) (fun κ2 => ?_) (fun κ2 => ?_)⟩
      · refine gT_n 6 ?_
        refine ⟨rfl, fun c => absurd c (kpT (p := fun z : Int32 => ¬ (z ≤ 2)) (show _ = (3 : Int32) from hK.1) (by decide)), fun _ => ?_⟩
        refine gT_n 6 ?_
        refine ⟨rfl, rfl, (pk_in 2 3 (by decide) rfl), px_ne (X := c1) (Y := k) (hK.2.1.2.2) (rfl) (fun κ3 => ?_) (fun κ3 => ?_)⟩
        · refine gT_n 6 ?_
          refine ⟨rfl, fun _ => ?_, fun c => absurd (kpT (p := fun z : Int32 => z ≤ 3) (show _ = (3 : Int32) from hK.1) (by decide)) c⟩
          refine gT_n 2 ?_
          show gT _ 25 5 _ _ _ _ _
          refine gT_n 3 ?_
          refine ⟨fun c => absurd c (by decide), fun _ => ?_⟩
          refine gT_n 3 ?_
          exact absurd hk (fun z => Or.elim z κ1 (fun z => Or.elim z κ2 κ3))
        · refine gT_n 2 ?_
          show gT _ 25 5 _ _ _ _ _
          refine gT_n 3 ?_
          refine ⟨fun _ => ?_, fun c => absurd (by decide) c⟩
          refine gT_n 7 ?_
          refine ⟨rfl, rfl, (pk_in 2 3 (by decide) rfl), ?_⟩
          exact ⟨rfl, ri (congrArg (ck - ·) ((hK.2.2.2.2).trans (Eq.symm (Eq.trans (if_neg κ1) (if_neg κ2)))))⟩
      · refine gT_n 2 ?_
        show gT _ 25 5 _ _ _ _ _
        refine gT_n 3 ?_
        refine ⟨fun _ => ?_, fun c => absurd (by decide) c⟩
        refine gT_n 7 ?_
        refine ⟨rfl, rfl, (pk_in 1 3 (by decide) rfl), ?_⟩
        exact ⟨rfl, ri (congrArg (ck - ·) ((hK.2.2.2.1).trans (Eq.symm (Eq.trans (if_neg κ1) (if_pos κ2)))))⟩
    · refine gT_n 2 ?_
      show gT _ 25 5 _ _ _ _ _
      refine gT_n 3 ?_
      refine ⟨fun _ => ?_, fun c => absurd (by decide) c⟩
      refine gT_n 7 ?_
      refine ⟨rfl, rfl, (pk_in 0 3 (by decide) rfl), ?_⟩
      exact ⟨rfl, ri (congrArg (ck - ·) ((hK.2.2.1).trans (Eq.symm (if_pos κ1))))⟩
theorem c_khas46 {d : Nat} {k : Int32} {l : zK} {I : Nat → Nat → Int32} {J : Nat → Nat → Int64} {P : Nat → Nat} (hl : l.length ≤ 3) (hK : cK (I 46 2) (I 47) (I 48) l) : gTM (d + 1) 24 [.ref 46, .int k] (gST I J P) (gB (gST I J P) (khas l k)) := by
  rcases zK3 hl with rfl | ⟨a1, a2, rfl⟩ | ⟨a1, a2, b1, b2, rfl⟩ | ⟨a1, a2, b1, b2, c1, c2, rfl⟩
  · refine gT_n 3 ?_
    refine ⟨rfl, rfl, ?_⟩
    refine gT_n 6 ?_
    refine ⟨rfl, fun _ => ?_, fun c => absurd (kpT (p := fun z : Int32 => z ≤ 0) (show _ = (0 : Int32) from hK.1) (by decide)) c⟩
    refine gT_n 2 ?_
    show gT _ 24 5 _ _ _ _ _
    refine gT_n 1 ?_
    refine ⟨fun _ => ?_, fun c => absurd (by decide) c⟩
    refine gT_n 2 ?_
    refine ⟨(Or.inl rfl), ?_⟩
    exact ⟨rfl, Or.inr ⟨rfl, id⟩⟩
  · refine gT_n 3 ?_
    refine ⟨rfl, rfl, ?_⟩
    refine gT_n 6 ?_
    refine ⟨rfl, fun c => absurd c (kpT (p := fun z : Int32 => ¬ (z ≤ 0)) (show _ = (1 : Int32) from hK.1) (by decide)), fun _ => ?_⟩
    refine gT_n 6 ?_
    refine ⟨rfl, rfl, (pk_in 0 3 (by decide) rfl), px_ne (X := a1) (Y := k) (hK.2.1.1) (rfl) (fun κ1 => ?_) (fun κ1 => ?_)⟩
    · refine gT_n 6 ?_
      refine ⟨rfl, fun _ => ?_, fun c => absurd (kpT (p := fun z : Int32 => z ≤ 1) (show _ = (1 : Int32) from hK.1) (by decide)) c⟩
      refine gT_n 2 ?_
      show gT _ 24 5 _ _ _ _ _
      refine gT_n 1 ?_
      refine ⟨fun _ => ?_, fun c => absurd (by decide) c⟩
      refine gT_n 2 ?_
      refine ⟨(Or.inl rfl), ?_⟩
      exact ⟨rfl, Or.inr ⟨rfl, κ1⟩⟩
    · refine gT_n 2 ?_
      show gT _ 24 5 _ _ _ _ _
      refine gT_n 1 ?_
      refine ⟨fun c => absurd c (by decide), fun _ => ?_⟩
      refine gT_n 3 ?_
      refine ⟨(Or.inr rfl), ?_⟩
      exact ⟨rfl, Or.inl ⟨rfl, κ1⟩⟩
  · refine gT_n 3 ?_
    refine ⟨rfl, rfl, ?_⟩
    refine gT_n 6 ?_
    refine ⟨rfl, fun c => absurd c (kpT (p := fun z : Int32 => ¬ (z ≤ 0)) (show _ = (2 : Int32) from hK.1) (by decide)), fun _ => ?_⟩
    refine gT_n 6 ?_
    refine ⟨rfl, rfl, (pk_in 0 3 (by decide) rfl), px_ne (X := a1) (Y := k) (hK.2.1.1) (rfl) (fun κ1 => ?_) (fun κ1 => ?_)⟩
    · refine gT_n 6 ?_
      refine ⟨rfl, fun c => absurd c (kpT (p := fun z : Int32 => ¬ (z ≤ 1)) (show _ = (2 : Int32) from hK.1) (by decide)), fun _ => ?_⟩
      refine gT_n 6 ?_
      refine ⟨rfl, rfl, (pk_in 1 3 (by decide) rfl), px_ne (X := b1) (Y := k) (hK.2.1.2.1) (rfl) (fun κ2 => ?_) (fun κ2 => ?_)⟩
      · refine gT_n 6 ?_
        refine ⟨rfl, fun _ => ?_, fun c => absurd (kpT (p := fun z : Int32 => z ≤ 2) (show _ = (2 : Int32) from hK.1) (by decide)) c⟩
        refine gT_n 2 ?_
        show gT _ 24 5 _ _ _ _ _
        refine gT_n 1 ?_
        refine ⟨fun _ => ?_, fun c => absurd (by decide) c⟩
        refine gT_n 2 ?_
        refine ⟨(Or.inl rfl), ?_⟩
        exact ⟨rfl, Or.inr ⟨rfl, (fun z => Or.elim z κ1 κ2)⟩⟩
      · refine gT_n 2 ?_
        show gT _ 24 5 _ _ _ _ _
        refine gT_n 1 ?_
        refine ⟨fun c => absurd c (by decide), fun _ => ?_⟩
        refine gT_n 3 ?_
        refine ⟨(Or.inr rfl), ?_⟩
        exact ⟨rfl, Or.inl ⟨rfl, (Or.inr (κ2))⟩⟩
    · refine gT_n 2 ?_
      show gT _ 24 5 _ _ _ _ _
      refine gT_n 1 ?_
      refine ⟨fun c => absurd c (by decide), fun _ => ?_⟩
      refine gT_n 3 ?_
      refine ⟨(Or.inr rfl), ?_⟩
      exact ⟨rfl, Or.inl ⟨rfl, (Or.inl κ1)⟩⟩
  · refine gT_n 3 ?_
    refine ⟨rfl, rfl, ?_⟩
    refine gT_n 6 ?_
    refine ⟨rfl, fun c => absurd c (kpT (p := fun z : Int32 => ¬ (z ≤ 0)) (show _ = (3 : Int32) from hK.1) (by decide)), fun _ => ?_⟩
    refine gT_n 6 ?_
    refine ⟨rfl, rfl, (pk_in 0 3 (by decide) rfl), px_ne (X := a1) (Y := k) (hK.2.1.1) (rfl) (fun κ1 => ?_) (fun κ1 => ?_)⟩
    · refine gT_n 6 ?_
      refine ⟨rfl, fun c => absurd c (kpT (p := fun z : Int32 => ¬ (z ≤ 1)) (show _ = (3 : Int32) from hK.1) (by decide)), fun _ => ?_⟩
      refine gT_n 6 ?_
      refine ⟨rfl, rfl, (pk_in 1 3 (by decide) rfl), px_ne (X := b1) (Y := k) (hK.2.1.2.1) (rfl) (fun κ2 => ?_) (fun κ2 => ?_)⟩
      · refine gT_n 6 ?_
        refine ⟨rfl, fun c => absurd c (kpT (p := fun z : Int32 => ¬ (z ≤ 2)) (show _ = (3 : Int32) from hK.1) (by decide)), fun _ => ?_⟩
        refine gT_n 6 ?_
        refine ⟨rfl, rfl, (pk_in 2 3 (by decide) rfl), px_ne (X := c1) (Y := k) (hK.2.1.2.2) (rfl) (fun κ3 => ?_) (fun κ3 => ?_)⟩
        · refine gT_n 6 ?_
          refine ⟨rfl, fun _ => ?_, fun c => absurd (kpT (p := fun z : Int32 => z ≤ 3) (show _ = (3 : Int32) from hK.1) (by decide)) c⟩
          refine gT_n 2 ?_
          show gT _ 24 5 _ _ _ _ _
          refine gT_n 1 ?_
          refine ⟨fun _ => ?_, fun c => absurd (by decide) c⟩
          refine gT_n 2 ?_
          refine ⟨(Or.inl rfl), ?_⟩
          exact ⟨rfl, Or.inr ⟨rfl, (fun z => Or.elim z κ1 (fun z => Or.elim z κ2 κ3))⟩⟩
        · refine gT_n 2 ?_
          show gT _ 24 5 _ _ _ _ _
          refine gT_n 1 ?_
          refine ⟨fun c => absurd c (by decide), fun _ => ?_⟩
          refine gT_n 3 ?_
          refine ⟨(Or.inr rfl), ?_⟩
          exact ⟨rfl, Or.inl ⟨rfl, (Or.inr (Or.inr (κ3)))⟩⟩
      · refine gT_n 2 ?_
        show gT _ 24 5 _ _ _ _ _
        refine gT_n 1 ?_
        refine ⟨fun c => absurd c (by decide), fun _ => ?_⟩
        refine gT_n 3 ?_
        refine ⟨(Or.inr rfl), ?_⟩
        exact ⟨rfl, Or.inl ⟨rfl, (Or.inr (Or.inl κ2))⟩⟩
    · refine gT_n 2 ?_
      show gT _ 24 5 _ _ _ _ _
      refine gT_n 1 ?_
      refine ⟨fun c => absurd c (by decide), fun _ => ?_⟩
      refine gT_n 3 ?_
      refine ⟨(Or.inr rfl), ?_⟩
      exact ⟨rfl, Or.inl ⟨rfl, (Or.inl κ1)⟩⟩
theorem c_kage46 {d : Nat} {k ck : Int32} {l : zK} {I : Nat → Nat → Int32} {J : Nat → Nat → Int64} {P : Nat → Nat} (hl : l.length ≤ 3) (hK : cK (I 46 2) (I 47) (I 48) l) (hk : khas l k) : gTM (d + 1) 25 [.ref 46, .int k, .int ck] (gST I J P) (fun r u => u = gST I J P ∧ r = some (.int (ck - ksin l k))) := by
  rcases zK3 hl with rfl | ⟨a1, a2, rfl⟩ | ⟨a1, a2, b1, b2, rfl⟩ | ⟨a1, a2, b1, b2, c1, c2, rfl⟩
  · exact hk.elim
  · refine gT_n 3 ?_
    refine ⟨rfl, rfl, ?_⟩
    refine gT_n 6 ?_
    refine ⟨rfl, fun c => absurd c (kpT (p := fun z : Int32 => ¬ (z ≤ 0)) (show _ = (1 : Int32) from hK.1) (by decide)), fun _ => ?_⟩
    refine gT_n 6 ?_
    refine ⟨rfl, rfl, (pk_in 0 3 (by decide) rfl), px_ne (X := a1) (Y := k) (hK.2.1.1) (rfl) (fun κ1 => ?_) (fun κ1 => ?_)⟩
    · refine gT_n 6 ?_
      refine ⟨rfl, fun _ => ?_, fun c => absurd (kpT (p := fun z : Int32 => z ≤ 1) (show _ = (1 : Int32) from hK.1) (by decide)) c⟩
      refine gT_n 2 ?_
      show gT _ 25 5 _ _ _ _ _
      refine gT_n 3 ?_
      refine ⟨fun c => absurd c (by decide), fun _ => ?_⟩
      refine gT_n 3 ?_
      exact absurd hk κ1
    · refine gT_n 2 ?_
      show gT _ 25 5 _ _ _ _ _
      refine gT_n 3 ?_
      refine ⟨fun _ => ?_, fun c => absurd (by decide) c⟩
      refine gT_n 7 ?_
      refine ⟨rfl, rfl, (pk_in 0 3 (by decide) rfl), ?_⟩
      exact ⟨rfl, ri (congrArg (ck - ·) ((hK.2.2.1).trans (Eq.symm rfl)))⟩
  · refine gT_n 3 ?_
    refine ⟨rfl, rfl, ?_⟩
    refine gT_n 6 ?_
    refine ⟨rfl, fun c => absurd c (kpT (p := fun z : Int32 => ¬ (z ≤ 0)) (show _ = (2 : Int32) from hK.1) (by decide)), fun _ => ?_⟩
    refine gT_n 6 ?_
    refine ⟨rfl, rfl, (pk_in 0 3 (by decide) rfl), px_ne (X := a1) (Y := k) (hK.2.1.1) (rfl) (fun κ1 => ?_) (fun κ1 => ?_)⟩
    · refine gT_n 6 ?_
      refine ⟨rfl, fun c => absurd c (kpT (p := fun z : Int32 => ¬ (z ≤ 1)) (show _ = (2 : Int32) from hK.1) (by decide)), fun _ => ?_⟩
      refine gT_n 6 ?_
      refine ⟨rfl, rfl, (pk_in 1 3 (by decide) rfl), px_ne (X := b1) (Y := k) (hK.2.1.2.1) (rfl) (fun κ2 => ?_) (fun κ2 => ?_)⟩
      · refine gT_n 6 ?_
        refine ⟨rfl, fun _ => ?_, fun c => absurd (kpT (p := fun z : Int32 => z ≤ 2) (show _ = (2 : Int32) from hK.1) (by decide)) c⟩
        refine gT_n 2 ?_
        show gT _ 25 5 _ _ _ _ _
        refine gT_n 3 ?_
        refine ⟨fun c => absurd c (by decide), fun _ => ?_⟩
        refine gT_n 3 ?_
        exact absurd hk (fun z => Or.elim z κ1 κ2)
      · refine gT_n 2 ?_
        show gT _ 25 5 _ _ _ _ _
        refine gT_n 3 ?_
        refine ⟨fun _ => ?_, fun c => absurd (by decide) c⟩
        refine gT_n 7 ?_
        refine ⟨rfl, rfl, (pk_in 1 3 (by decide) rfl), ?_⟩
        exact ⟨rfl, ri (congrArg (ck - ·) ((hK.2.2.2.1).trans (Eq.symm (if_neg κ1))))⟩
    · refine gT_n 2 ?_
      show gT _ 25 5 _ _ _ _ _
      refine gT_n 3 ?_
      refine ⟨fun _ => ?_, fun c => absurd (by decide) c⟩
      refine gT_n 7 ?_
      refine ⟨rfl, rfl, (pk_in 0 3 (by decide) rfl), ?_⟩
      exact ⟨rfl, ri (congrArg (ck - ·) ((hK.2.2.1).trans (Eq.symm (if_pos κ1))))⟩
  · refine gT_n 3 ?_
    refine ⟨rfl, rfl, ?_⟩
    refine gT_n 6 ?_
    refine ⟨rfl, fun c => absurd c (kpT (p := fun z : Int32 => ¬ (z ≤ 0)) (show _ = (3 : Int32) from hK.1) (by decide)), fun _ => ?_⟩
    refine gT_n 6 ?_
    refine ⟨rfl, rfl, (pk_in 0 3 (by decide) rfl), px_ne (X := a1) (Y := k) (hK.2.1.1) (rfl) (fun κ1 => ?_) (fun κ1 => ?_)⟩
    · refine gT_n 6 ?_
      refine ⟨rfl, fun c => absurd c (kpT (p := fun z : Int32 => ¬ (z ≤ 1)) (show _ = (3 : Int32) from hK.1) (by decide)), fun _ => ?_⟩
      refine gT_n 6 ?_
      refine ⟨rfl, rfl, (pk_in 1 3 (by decide) rfl), px_ne (X := b1) (Y := k) (hK.2.1.2.1) (rfl) (fun κ2 => ?_) (fun κ2 => ?_)⟩
      · refine gT_n 6 ?_
        refine ⟨rfl, fun c => absurd c (kpT (p := fun z : Int32 => ¬ (z ≤ 2)) (show _ = (3 : Int32) from hK.1) (by decide)), fun _ => ?_⟩
        refine gT_n 6 ?_
        refine ⟨rfl, rfl, (pk_in 2 3 (by decide) rfl), px_ne (X := c1) (Y := k) (hK.2.1.2.2) (rfl) (fun κ3 => ?_) (fun κ3 => ?_)⟩
        · refine gT_n 6 ?_
          refine ⟨rfl, fun _ => ?_, fun c => absurd (kpT (p := fun z : Int32 => z ≤ 3) (show _ = (3 : Int32) from hK.1) (by decide)) c⟩
          refine gT_n 2 ?_
          show gT _ 25 5 _ _ _ _ _
          refine gT_n 3 ?_
          refine ⟨fun c => absurd c (by decide), fun _ => ?_⟩
          refine gT_n 3 ?_
          exact absurd hk (fun z => Or.elim z κ1 (fun z => Or.elim z κ2 κ3))
        · refine gT_n 2 ?_
          show gT _ 25 5 _ _ _ _ _
          refine gT_n 3 ?_
          refine ⟨fun _ => ?_, fun c => absurd (by decide) c⟩
          refine gT_n 7 ?_
          refine ⟨rfl, rfl, (pk_in 2 3 (by decide) rfl), ?_⟩
          exact ⟨rfl, ri (congrArg (ck - ·) ((hK.2.2.2.2).trans (Eq.symm (Eq.trans (if_neg κ1) (if_neg κ2)))))⟩
      · refine gT_n 2 ?_
        show gT _ 25 5 _ _ _ _ _
        refine gT_n 3 ?_
        refine ⟨fun _ => ?_, fun c => absurd (by decide) c⟩
        refine gT_n 7 ?_
        refine ⟨rfl, rfl, (pk_in 1 3 (by decide) rfl), ?_⟩
        exact ⟨rfl, ri (congrArg (ck - ·) ((hK.2.2.2.1).trans (Eq.symm (Eq.trans (if_neg κ1) (if_pos κ2)))))⟩
    · refine gT_n 2 ?_
      show gT _ 25 5 _ _ _ _ _
      refine gT_n 3 ?_
      refine ⟨fun _ => ?_, fun c => absurd (by decide) c⟩
      refine gT_n 7 ?_
      refine ⟨rfl, rfl, (pk_in 0 3 (by decide) rfl), ?_⟩
      exact ⟨rfl, ri (congrArg (ck - ·) ((hK.2.2.1).trans (Eq.symm (if_pos κ1))))⟩
theorem c_khas49 {d : Nat} {k : Int32} {l : zK} {I : Nat → Nat → Int32} {J : Nat → Nat → Int64} {P : Nat → Nat} (hl : l.length ≤ 3) (hK : cK (I 49 2) (I 50) (I 51) l) : gTM (d + 1) 24 [.ref 49, .int k] (gST I J P) (gB (gST I J P) (khas l k)) := by
  rcases zK3 hl with rfl | ⟨a1, a2, rfl⟩ | ⟨a1, a2, b1, b2, rfl⟩ | ⟨a1, a2, b1, b2, c1, c2, rfl⟩
  · refine gT_n 3 ?_
    refine ⟨rfl, rfl, ?_⟩
    refine gT_n 6 ?_
    refine ⟨rfl, fun _ => ?_, fun c => absurd (kpT (p := fun z : Int32 => z ≤ 0) (show _ = (0 : Int32) from hK.1) (by decide)) c⟩
    refine gT_n 2 ?_
    show gT _ 24 5 _ _ _ _ _
    refine gT_n 1 ?_
    refine ⟨fun _ => ?_, fun c => absurd (by decide) c⟩
    refine gT_n 2 ?_
    refine ⟨(Or.inl rfl), ?_⟩
    exact ⟨rfl, Or.inr ⟨rfl, id⟩⟩
  · refine gT_n 3 ?_
    refine ⟨rfl, rfl, ?_⟩
    refine gT_n 6 ?_
    refine ⟨rfl, fun c => absurd c (kpT (p := fun z : Int32 => ¬ (z ≤ 0)) (show _ = (1 : Int32) from hK.1) (by decide)), fun _ => ?_⟩
    refine gT_n 6 ?_
    refine ⟨rfl, rfl, (pk_in 0 3 (by decide) rfl), px_ne (X := a1) (Y := k) (hK.2.1.1) (rfl) (fun κ1 => ?_) (fun κ1 => ?_)⟩
    · refine gT_n 6 ?_
      refine ⟨rfl, fun _ => ?_, fun c => absurd (kpT (p := fun z : Int32 => z ≤ 1) (show _ = (1 : Int32) from hK.1) (by decide)) c⟩
      refine gT_n 2 ?_
      show gT _ 24 5 _ _ _ _ _
      refine gT_n 1 ?_
      refine ⟨fun _ => ?_, fun c => absurd (by decide) c⟩
      refine gT_n 2 ?_
      refine ⟨(Or.inl rfl), ?_⟩
      exact ⟨rfl, Or.inr ⟨rfl, κ1⟩⟩
    · refine gT_n 2 ?_
      show gT _ 24 5 _ _ _ _ _
      refine gT_n 1 ?_
      refine ⟨fun c => absurd c (by decide), fun _ => ?_⟩
      refine gT_n 3 ?_
      refine ⟨(Or.inr rfl), ?_⟩
      exact ⟨rfl, Or.inl ⟨rfl, κ1⟩⟩
  · refine gT_n 3 ?_
    refine ⟨rfl, rfl, ?_⟩
    refine gT_n 6 ?_
    refine ⟨rfl, fun c => absurd c (kpT (p := fun z : Int32 => ¬ (z ≤ 0)) (show _ = (2 : Int32) from hK.1) (by decide)), fun _ => ?_⟩
    refine gT_n 6 ?_
    refine ⟨rfl, rfl, (pk_in 0 3 (by decide) rfl), px_ne (X := a1) (Y := k) (hK.2.1.1) (rfl) (fun κ1 => ?_) (fun κ1 => ?_)⟩
    · refine gT_n 6 ?_
      refine ⟨rfl, fun c => absurd c (kpT (p := fun z : Int32 => ¬ (z ≤ 1)) (show _ = (2 : Int32) from hK.1) (by decide)), fun _ => ?_⟩
      refine gT_n 6 ?_
      refine ⟨rfl, rfl, (pk_in 1 3 (by decide) rfl), px_ne (X := b1) (Y := k) (hK.2.1.2.1) (rfl) (fun κ2 => ?_) (fun κ2 => ?_)⟩
      · refine gT_n 6 ?_
        refine ⟨rfl, fun _ => ?_, fun c => absurd (kpT (p := fun z : Int32 => z ≤ 2) (show _ = (2 : Int32) from hK.1) (by decide)) c⟩
        refine gT_n 2 ?_
        show gT _ 24 5 _ _ _ _ _
        refine gT_n 1 ?_
        refine ⟨fun _ => ?_, fun c => absurd (by decide) c⟩
        refine gT_n 2 ?_
        refine ⟨(Or.inl rfl), ?_⟩
        exact ⟨rfl, Or.inr ⟨rfl, (fun z => Or.elim z κ1 κ2)⟩⟩
      · refine gT_n 2 ?_
        show gT _ 24 5 _ _ _ _ _
        refine gT_n 1 ?_
        refine ⟨fun c => absurd c (by decide), fun _ => ?_⟩
        refine gT_n 3 ?_
        refine ⟨(Or.inr rfl), ?_⟩
        exact ⟨rfl, Or.inl ⟨rfl, (Or.inr (κ2))⟩⟩
    · refine gT_n 2 ?_
      show gT _ 24 5 _ _ _ _ _
      refine gT_n 1 ?_
      refine ⟨fun c => absurd c (by decide), fun _ => ?_⟩
      refine gT_n 3 ?_
      refine ⟨(Or.inr rfl), ?_⟩
      exact ⟨rfl, Or.inl ⟨rfl, (Or.inl κ1)⟩⟩
  · refine gT_n 3 ?_
    refine ⟨rfl, rfl, ?_⟩
    refine gT_n 6 ?_
    refine ⟨rfl, fun c => absurd c (kpT (p := fun z : Int32 => ¬ (z ≤ 0)) (show _ = (3 : Int32) from hK.1) (by decide)), fun _ => ?_⟩
    refine gT_n 6 ?_
    refine ⟨rfl, rfl, (pk_in 0 3 (by decide) rfl), px_ne (X := a1) (Y := k) (hK.2.1.1) (rfl) (fun κ1 => ?_) (fun κ1 => ?_)⟩
    · refine gT_n 6 ?_
      refine ⟨rfl, fun c => absurd c (kpT (p := fun z : Int32 => ¬ (z ≤ 1)) (show _ = (3 : Int32) from hK.1) (by decide)), fun _ => ?_⟩
      refine gT_n 6 ?_
      refine ⟨rfl, rfl, (pk_in 1 3 (by decide) rfl), px_ne (X := b1) (Y := k) (hK.2.1.2.1) (rfl) (fun κ2 => ?_) (fun κ2 => ?_)⟩
      · refine gT_n 6 ?_
        refine ⟨rfl, fun c => absurd c (kpT (p := fun z : Int32 => ¬ (z ≤ 2)) (show _ = (3 : Int32) from hK.1) (by decide)), fun _ => ?_⟩
        refine gT_n 6 ?_
        refine ⟨rfl, rfl, (pk_in 2 3 (by decide) rfl), px_ne (X := c1) (Y := k) (hK.2.1.2.2) (rfl) (fun κ3 => ?_) (fun κ3 => ?_)⟩
        · refine gT_n 6 ?_
          refine ⟨rfl, fun _ => ?_, fun c => absurd (kpT (p := fun z : Int32 => z ≤ 3) (show _ = (3 : Int32) from hK.1) (by decide)) c⟩
          refine gT_n 2 ?_
          show gT _ 24 5 _ _ _ _ _
          refine gT_n 1 ?_
          refine ⟨fun _ => ?_, fun c => absurd (by decide) c⟩
          refine gT_n 2 ?_
          refine ⟨(Or.inl rfl), ?_⟩
          exact ⟨rfl, Or.inr ⟨rfl, (fun z => Or.elim z κ1 (fun z => Or.elim z κ2 κ3))⟩⟩
        · refine gT_n 2 ?_
          show gT _ 24 5 _ _ _ _ _
          refine gT_n 1 ?_
          refine ⟨fun c => absurd c (by decide), fun _ => ?_⟩
          refine gT_n 3 ?_
          refine ⟨(Or.inr rfl), ?_⟩
          exact ⟨rfl, Or.inl ⟨rfl, (Or.inr (Or.inr (κ3)))⟩⟩
      · refine gT_n 2 ?_
        show gT _ 24 5 _ _ _ _ _
        refine gT_n 1 ?_
        refine ⟨fun c => absurd c (by decide), fun _ => ?_⟩
        refine gT_n 3 ?_
        refine ⟨(Or.inr rfl), ?_⟩
        exact ⟨rfl, Or.inl ⟨rfl, (Or.inr (Or.inl κ2))⟩⟩
    · refine gT_n 2 ?_
      show gT _ 24 5 _ _ _ _ _
      refine gT_n 1 ?_
      refine ⟨fun c => absurd c (by decide), fun _ => ?_⟩
      refine gT_n 3 ?_
      refine ⟨(Or.inr rfl), ?_⟩
      exact ⟨rfl, Or.inl ⟨rfl, (Or.inl κ1)⟩⟩
theorem c_kage49 {d : Nat} {k ck : Int32} {l : zK} {I : Nat → Nat → Int32} {J : Nat → Nat → Int64} {P : Nat → Nat} (hl : l.length ≤ 3) (hK : cK (I 49 2) (I 50) (I 51) l) (hk : khas l k) : gTM (d + 1) 25 [.ref 49, .int k, .int ck] (gST I J P) (fun r u => u = gST I J P ∧ r = some (.int (ck - ksin l k))) := by
  rcases zK3 hl with rfl | ⟨a1, a2, rfl⟩ | ⟨a1, a2, b1, b2, rfl⟩ | ⟨a1, a2, b1, b2, c1, c2, rfl⟩
  · exact hk.elim
  · refine gT_n 3 ?_
    refine ⟨rfl, rfl, ?_⟩
    refine gT_n 6 ?_
    refine ⟨rfl, fun c => absurd c (kpT (p := fun z : Int32 => ¬ (z ≤ 0)) (show _ = (1 : Int32) from hK.1) (by decide)), fun _ => ?_⟩
    refine gT_n 6 ?_
    refine ⟨rfl, rfl, (pk_in 0 3 (by decide) rfl), px_ne (X := a1) (Y := k) (hK.2.1.1) (rfl) (fun κ1 => ?_) (fun κ1 => ?_)⟩
    · refine gT_n 6 ?_
      refine ⟨rfl, fun _ => ?_, fun c => absurd (kpT (p := fun z : Int32 => z ≤ 1) (show _ = (1 : Int32) from hK.1) (by decide)) c⟩
      refine gT_n 2 ?_
      show gT _ 25 5 _ _ _ _ _
      refine gT_n 3 ?_
      refine ⟨fun c => absurd c (by decide), fun _ => ?_⟩
      refine gT_n 3 ?_
      exact absurd hk κ1
    · refine gT_n 2 ?_
      show gT _ 25 5 _ _ _ _ _
      refine gT_n 3 ?_
      refine ⟨fun _ => ?_, fun c => absurd (by decide) c⟩
      refine gT_n 7 ?_
      refine ⟨rfl, rfl, (pk_in 0 3 (by decide) rfl), ?_⟩
      exact ⟨rfl, ri (congrArg (ck - ·) ((hK.2.2.1).trans (Eq.symm rfl)))⟩
  · refine gT_n 3 ?_
    refine ⟨rfl, rfl, ?_⟩
    refine gT_n 6 ?_
    refine ⟨rfl, fun c => absurd c (kpT (p := fun z : Int32 => ¬ (z ≤ 0)) (show _ = (2 : Int32) from hK.1) (by decide)), fun _ => ?_⟩
    refine gT_n 6 ?_
    refine ⟨rfl, rfl, (pk_in 0 3 (by decide) rfl), px_ne (X := a1) (Y := k) (hK.2.1.1) (rfl) (fun κ1 => ?_) (fun κ1 => ?_)⟩
    · refine gT_n 6 ?_
      refine ⟨rfl, fun c => absurd c (kpT (p := fun z : Int32 => ¬ (z ≤ 1)) (show _ = (2 : Int32) from hK.1) (by decide)), fun _ => ?_⟩
      refine gT_n 6 ?_
      refine ⟨rfl, rfl, (pk_in 1 3 (by decide) rfl), px_ne (X := b1) (Y := k) (hK.2.1.2.1) (rfl) (fun κ2 => ?_) (fun κ2 => ?_)⟩
      · refine gT_n 6 ?_
        refine ⟨rfl, fun _ => ?_, fun c => absurd (kpT (p := fun z : Int32 => z ≤ 2) (show _ = (2 : Int32) from hK.1) (by decide)) c⟩
        refine gT_n 2 ?_
        show gT _ 25 5 _ _ _ _ _
        refine gT_n 3 ?_
        refine ⟨fun c => absurd c (by decide), fun _ => ?_⟩
        refine gT_n 3 ?_
        exact absurd hk (fun z => Or.elim z κ1 κ2)
      · refine gT_n 2 ?_
        show gT _ 25 5 _ _ _ _ _
        refine gT_n 3 ?_
        refine ⟨fun _ => ?_, fun c => absurd (by decide) c⟩
        refine gT_n 7 ?_
        refine ⟨rfl, rfl, (pk_in 1 3 (by decide) rfl), ?_⟩
        exact ⟨rfl, ri (congrArg (ck - ·) ((hK.2.2.2.1).trans (Eq.symm (if_neg κ1))))⟩
    · refine gT_n 2 ?_
      show gT _ 25 5 _ _ _ _ _
      refine gT_n 3 ?_
      refine ⟨fun _ => ?_, fun c => absurd (by decide) c⟩
      refine gT_n 7 ?_
      refine ⟨rfl, rfl, (pk_in 0 3 (by decide) rfl), ?_⟩
      exact ⟨rfl, ri (congrArg (ck - ·) ((hK.2.2.1).trans (Eq.symm (if_pos κ1))))⟩
  · refine gT_n 3 ?_
    refine ⟨rfl, rfl, ?_⟩
    refine gT_n 6 ?_
    refine ⟨rfl, fun c => absurd c (kpT (p := fun z : Int32 => ¬ (z ≤ 0)) (show _ = (3 : Int32) from hK.1) (by decide)), fun _ => ?_⟩
    refine gT_n 6 ?_
    refine ⟨rfl, rfl, (pk_in 0 3 (by decide) rfl), px_ne (X := a1) (Y := k) (hK.2.1.1) (rfl) (fun κ1 => ?_) (fun κ1 => ?_)⟩
    · refine gT_n 6 ?_
      refine ⟨rfl, fun c => absurd c (kpT (p := fun z : Int32 => ¬ (z ≤ 1)) (show _ = (3 : Int32) from hK.1) (by decide)), fun _ => ?_⟩
      refine gT_n 6 ?_
      refine ⟨rfl, rfl, (pk_in 1 3 (by decide) rfl), px_ne (X := b1) (Y := k) (hK.2.1.2.1) (rfl) (fun κ2 => ?_) (fun κ2 => ?_)⟩
      · refine gT_n 6 ?_
        refine ⟨rfl, fun c => absurd c (kpT (p := fun z : Int32 => ¬ (z ≤ 2)) (show _ = (3 : Int32) from hK.1) (by decide)), fun _ => ?_⟩
        refine gT_n 6 ?_
        refine ⟨rfl, rfl, (pk_in 2 3 (by decide) rfl), px_ne (X := c1) (Y := k) (hK.2.1.2.2) (rfl) (fun κ3 => ?_) (fun κ3 => ?_)⟩
        · refine gT_n 6 ?_
          refine ⟨rfl, fun _ => ?_, fun c => absurd (kpT (p := fun z : Int32 => z ≤ 3) (show _ = (3 : Int32) from hK.1) (by decide)) c⟩
          refine gT_n 2 ?_
          show gT _ 25 5 _ _ _ _ _
          refine gT_n 3 ?_
          refine ⟨fun c => absurd c (by decide), fun _ => ?_⟩
          refine gT_n 3 ?_
          exact absurd hk (fun z => Or.elim z κ1 (fun z => Or.elim z κ2 κ3))
        · refine gT_n 2 ?_
          show gT _ 25 5 _ _ _ _ _
          refine gT_n 3 ?_
          refine ⟨fun _ => ?_, fun c => absurd (by decide) c⟩
          refine gT_n 7 ?_
          refine ⟨rfl, rfl, (pk_in 2 3 (by decide) rfl), ?_⟩
          exact ⟨rfl, ri (congrArg (ck - ·) ((hK.2.2.2.2).trans (Eq.symm (Eq.trans (if_neg κ1) (if_neg κ2)))))⟩
      · refine gT_n 2 ?_
        show gT _ 25 5 _ _ _ _ _
        refine gT_n 3 ?_
        refine ⟨fun _ => ?_, fun c => absurd (by decide) c⟩
        refine gT_n 7 ?_
        refine ⟨rfl, rfl, (pk_in 1 3 (by decide) rfl), ?_⟩
        exact ⟨rfl, ri (congrArg (ck - ·) ((hK.2.2.2.1).trans (Eq.symm (Eq.trans (if_neg κ1) (if_pos κ2)))))⟩
    · refine gT_n 2 ?_
      show gT _ 25 5 _ _ _ _ _
      refine gT_n 3 ?_
      refine ⟨fun _ => ?_, fun c => absurd (by decide) c⟩
      refine gT_n 7 ?_
      refine ⟨rfl, rfl, (pk_in 0 3 (by decide) rfl), ?_⟩
      exact ⟨rfl, ri (congrArg (ck - ·) ((hK.2.2.1).trans (Eq.symm (if_pos κ1))))⟩
theorem c_khas52 {d : Nat} {k : Int32} {l : zK} {I : Nat → Nat → Int32} {J : Nat → Nat → Int64} {P : Nat → Nat} (hl : l.length ≤ 3) (hK : cK (I 52 2) (I 53) (I 54) l) : gTM (d + 1) 24 [.ref 52, .int k] (gST I J P) (gB (gST I J P) (khas l k)) := by
  rcases zK3 hl with rfl | ⟨a1, a2, rfl⟩ | ⟨a1, a2, b1, b2, rfl⟩ | ⟨a1, a2, b1, b2, c1, c2, rfl⟩
  · refine gT_n 3 ?_
    refine ⟨rfl, rfl, ?_⟩
    refine gT_n 6 ?_
    refine ⟨rfl, fun _ => ?_, fun c => absurd (kpT (p := fun z : Int32 => z ≤ 0) (show _ = (0 : Int32) from hK.1) (by decide)) c⟩
    refine gT_n 2 ?_
    show gT _ 24 5 _ _ _ _ _
    refine gT_n 1 ?_
    refine ⟨fun _ => ?_, fun c => absurd (by decide) c⟩
    refine gT_n 2 ?_
    refine ⟨(Or.inl rfl), ?_⟩
    exact ⟨rfl, Or.inr ⟨rfl, id⟩⟩
  · refine gT_n 3 ?_
    refine ⟨rfl, rfl, ?_⟩
    refine gT_n 6 ?_
    refine ⟨rfl, fun c => absurd c (kpT (p := fun z : Int32 => ¬ (z ≤ 0)) (show _ = (1 : Int32) from hK.1) (by decide)), fun _ => ?_⟩
    refine gT_n 6 ?_
    refine ⟨rfl, rfl, (pk_in 0 3 (by decide) rfl), px_ne (X := a1) (Y := k) (hK.2.1.1) (rfl) (fun κ1 => ?_) (fun κ1 => ?_)⟩
    · refine gT_n 6 ?_
      refine ⟨rfl, fun _ => ?_, fun c => absurd (kpT (p := fun z : Int32 => z ≤ 1) (show _ = (1 : Int32) from hK.1) (by decide)) c⟩
      refine gT_n 2 ?_
      show gT _ 24 5 _ _ _ _ _
      refine gT_n 1 ?_
      refine ⟨fun _ => ?_, fun c => absurd (by decide) c⟩
      refine gT_n 2 ?_
      refine ⟨(Or.inl rfl), ?_⟩
      exact ⟨rfl, Or.inr ⟨rfl, κ1⟩⟩
    · refine gT_n 2 ?_
      show gT _ 24 5 _ _ _ _ _
      refine gT_n 1 ?_
      refine ⟨fun c => absurd c (by decide), fun _ => ?_⟩
      refine gT_n 3 ?_
      refine ⟨(Or.inr rfl), ?_⟩
      exact ⟨rfl, Or.inl ⟨rfl, κ1⟩⟩
  · refine gT_n 3 ?_
    refine ⟨rfl, rfl, ?_⟩
    refine gT_n 6 ?_
    refine ⟨rfl, fun c => absurd c (kpT (p := fun z : Int32 => ¬ (z ≤ 0)) (show _ = (2 : Int32) from hK.1) (by decide)), fun _ => ?_⟩
    refine gT_n 6 ?_
    refine ⟨rfl, rfl, (pk_in 0 3 (by decide) rfl), px_ne (X := a1) (Y := k) (hK.2.1.1) (rfl) (fun κ1 => ?_) (fun κ1 => ?_)⟩
    · refine gT_n 6 ?_
      refine ⟨rfl, fun c => absurd c (kpT (p := fun z : Int32 => ¬ (z ≤ 1)) (show _ = (2 : Int32) from hK.1) (by decide)), fun _ => ?_⟩
      refine gT_n 6 ?_
      refine ⟨rfl, rfl, (pk_in 1 3 (by decide) rfl), px_ne (X := b1) (Y := k) (hK.2.1.2.1) (rfl) (fun κ2 => ?_) (fun κ2 => ?_)⟩
      · refine gT_n 6 ?_
        refine ⟨rfl, fun _ => ?_, fun c => absurd (kpT (p := fun z : Int32 => z ≤ 2) (show _ = (2 : Int32) from hK.1) (by decide)) c⟩
        refine gT_n 2 ?_
        show gT _ 24 5 _ _ _ _ _
        refine gT_n 1 ?_
        refine ⟨fun _ => ?_, fun c => absurd (by decide) c⟩
        refine gT_n 2 ?_
        refine ⟨(Or.inl rfl), ?_⟩
        exact ⟨rfl, Or.inr ⟨rfl, (fun z => Or.elim z κ1 κ2)⟩⟩
      · refine gT_n 2 ?_
        show gT _ 24 5 _ _ _ _ _
        refine gT_n 1 ?_
        refine ⟨fun c => absurd c (by decide), fun _ => ?_⟩
        refine gT_n 3 ?_
        refine ⟨(Or.inr rfl), ?_⟩
        exact ⟨rfl, Or.inl ⟨rfl, (Or.inr (κ2))⟩⟩
    · refine gT_n 2 ?_
      show gT _ 24 5 _ _ _ _ _
      refine gT_n 1 ?_
      refine ⟨fun c => absurd c (by decide), fun _ => ?_⟩
      refine gT_n 3 ?_
      refine ⟨(Or.inr rfl), ?_⟩
      exact ⟨rfl, Or.inl ⟨rfl, (Or.inl κ1)⟩⟩
  · refine gT_n 3 ?_
    refine ⟨rfl, rfl, ?_⟩
    refine gT_n 6 ?_
    refine ⟨rfl, fun c => absurd c (kpT (p := fun z : Int32 => ¬ (z ≤ 0)) (show _ = (3 : Int32) from hK.1) (by decide)), fun _ => ?_⟩
    refine gT_n 6 ?_
    refine ⟨rfl, rfl, (pk_in 0 3 (by decide) rfl), px_ne (X := a1) (Y := k) (hK.2.1.1) (rfl) (fun κ1 => ?_) (fun κ1 => ?_)⟩
    · refine gT_n 6 ?_
      refine ⟨rfl, fun c => absurd c (kpT (p := fun z : Int32 => ¬ (z ≤ 1)) (show _ = (3 : Int32) from hK.1) (by decide)), fun _ => ?_⟩
      refine gT_n 6 ?_
      refine ⟨rfl, rfl, (pk_in 1 3 (by decide) rfl), px_ne (X := b1) (Y := k) (hK.2.1.2.1) (rfl) (fun κ2 => ?_) (fun κ2 => ?_)⟩
      · refine gT_n 6 ?_
        refine ⟨rfl, fun c => absurd c (kpT (p := fun z : Int32 => ¬ (z ≤ 2)) (show _ = (3 : Int32) from hK.1) (by decide)), fun _ => ?_⟩
        refine gT_n 6 ?_
        refine ⟨rfl, rfl, (pk_in 2 3 (by decide) rfl), px_ne (X := c1) (Y := k) (hK.2.1.2.2) (rfl) (fun κ3 => ?_) (fun κ3 => ?_)⟩
        · refine gT_n 6 ?_
          refine ⟨rfl, fun _ => ?_, fun c => absurd (kpT (p := fun z : Int32 => z ≤ 3) (show _ = (3 : Int32) from hK.1) (by decide)) c⟩
          refine gT_n 2 ?_
          show gT _ 24 5 _ _ _ _ _
          refine gT_n 1 ?_
          refine ⟨fun _ => ?_, fun c => absurd (by decide) c⟩
          refine gT_n 2 ?_
          refine ⟨(Or.inl rfl), ?_⟩
          exact ⟨rfl, Or.inr ⟨rfl, (fun z => Or.elim z κ1 (fun z => Or.elim z κ2 κ3))⟩⟩
        · refine gT_n 2 ?_
          show gT _ 24 5 _ _ _ _ _
          refine gT_n 1 ?_
          refine ⟨fun c => absurd c (by decide), fun _ => ?_⟩
          refine gT_n 3 ?_
          refine ⟨(Or.inr rfl), ?_⟩
          exact ⟨rfl, Or.inl ⟨rfl, (Or.inr (Or.inr (κ3)))⟩⟩
      · refine gT_n 2 ?_
        show gT _ 24 5 _ _ _ _ _
        refine gT_n 1 ?_
        refine ⟨fun c => absurd c (by decide), fun _ => ?_⟩
        refine gT_n 3 ?_
        refine ⟨(Or.inr rfl), ?_⟩
        exact ⟨rfl, Or.inl ⟨rfl, (Or.inr (Or.inl κ2))⟩⟩
    · refine gT_n 2 ?_
      show gT _ 24 5 _ _ _ _ _
      refine gT_n 1 ?_
      refine ⟨fun c => absurd c (by decide), fun _ => ?_⟩
      refine gT_n 3 ?_
      refine ⟨(Or.inr rfl), ?_⟩
      exact ⟨rfl, Or.inl ⟨rfl, (Or.inl κ1)⟩⟩
theorem c_kage52 {d : Nat} {k ck : Int32} {l : zK} {I : Nat → Nat → Int32} {J : Nat → Nat → Int64} {P : Nat → Nat} (hl : l.length ≤ 3) (hK : cK (I 52 2) (I 53) (I 54) l) (hk : khas l k) : gTM (d + 1) 25 [.ref 52, .int k, .int ck] (gST I J P) (fun r u => u = gST I J P ∧ r = some (.int (ck - ksin l k))) := by
  rcases zK3 hl with rfl | ⟨a1, a2, rfl⟩ | ⟨a1, a2, b1, b2, rfl⟩ | ⟨a1, a2, b1, b2, c1, c2, rfl⟩
  · exact hk.elim
  · refine gT_n 3 ?_
    refine ⟨rfl, rfl, ?_⟩
    refine gT_n 6 ?_
    refine ⟨rfl, fun c => absurd c (kpT (p := fun z : Int32 => ¬ (z ≤ 0)) (show _ = (1 : Int32) from hK.1) (by decide)), fun _ => ?_⟩
    refine gT_n 6 ?_
    refine ⟨rfl, rfl, (pk_in 0 3 (by decide) rfl), px_ne (X := a1) (Y := k) (hK.2.1.1) (rfl) (fun κ1 => ?_) (fun κ1 => ?_)⟩
    · refine gT_n 6 ?_
      refine ⟨rfl, fun _ => ?_, fun c => absurd (kpT (p := fun z : Int32 => z ≤ 1) (show _ = (1 : Int32) from hK.1) (by decide)) c⟩
      refine gT_n 2 ?_
      show gT _ 25 5 _ _ _ _ _
      refine gT_n 3 ?_
      refine ⟨fun c => absurd c (by decide), fun _ => ?_⟩
      refine gT_n 3 ?_
      exact absurd hk κ1
    · refine gT_n 2 ?_
      show gT _ 25 5 _ _ _ _ _
      refine gT_n 3 ?_
      refine ⟨fun _ => ?_, fun c => absurd (by decide) c⟩
      refine gT_n 7 ?_
      refine ⟨rfl, rfl, (pk_in 0 3 (by decide) rfl), ?_⟩
      exact ⟨rfl, ri (congrArg (ck - ·) ((hK.2.2.1).trans (Eq.symm rfl)))⟩
  · refine gT_n 3 ?_
    refine ⟨rfl, rfl, ?_⟩
    refine gT_n 6 ?_
    refine ⟨rfl, fun c => absurd c (kpT (p := fun z : Int32 => ¬ (z ≤ 0)) (show _ = (2 : Int32) from hK.1) (by decide)), fun _ => ?_⟩
    refine gT_n 6 ?_
    refine ⟨rfl, rfl, (pk_in 0 3 (by decide) rfl), px_ne (X := a1) (Y := k) (hK.2.1.1) (rfl) (fun κ1 => ?_) (fun κ1 => ?_)⟩
    · refine gT_n 6 ?_
      refine ⟨rfl, fun c => absurd c (kpT (p := fun z : Int32 => ¬ (z ≤ 1)) (show _ = (2 : Int32) from hK.1) (by decide)), fun _ => ?_⟩
      refine gT_n 6 ?_
      refine ⟨rfl, rfl, (pk_in 1 3 (by decide) rfl), px_ne (X := b1) (Y := k) (hK.2.1.2.1) (rfl) (fun κ2 => ?_) (fun κ2 => ?_)⟩
      · refine gT_n 6 ?_
        refine ⟨rfl, fun _ => ?_, fun c => absurd (kpT (p := fun z : Int32 => z ≤ 2) (show _ = (2 : Int32) from hK.1) (by decide)) c⟩
        refine gT_n 2 ?_
        show gT _ 25 5 _ _ _ _ _
        refine gT_n 3 ?_
        refine ⟨fun c => absurd c (by decide), fun _ => ?_⟩
        refine gT_n 3 ?_
        exact absurd hk (fun z => Or.elim z κ1 κ2)
      · refine gT_n 2 ?_
        show gT _ 25 5 _ _ _ _ _
        refine gT_n 3 ?_
        refine ⟨fun _ => ?_, fun c => absurd (by decide) c⟩
        refine gT_n 7 ?_
        refine ⟨rfl, rfl, (pk_in 1 3 (by decide) rfl), ?_⟩
        exact ⟨rfl, ri (congrArg (ck - ·) ((hK.2.2.2.1).trans (Eq.symm (if_neg κ1))))⟩
    · refine gT_n 2 ?_
      show gT _ 25 5 _ _ _ _ _
      refine gT_n 3 ?_
      refine ⟨fun _ => ?_, fun c => absurd (by decide) c⟩
      refine gT_n 7 ?_
      refine ⟨rfl, rfl, (pk_in 0 3 (by decide) rfl), ?_⟩
      exact ⟨rfl, ri (congrArg (ck - ·) ((hK.2.2.1).trans (Eq.symm (if_pos κ1))))⟩
  · refine gT_n 3 ?_
    refine ⟨rfl, rfl, ?_⟩
    refine gT_n 6 ?_
    refine ⟨rfl, fun c => absurd c (kpT (p := fun z : Int32 => ¬ (z ≤ 0)) (show _ = (3 : Int32) from hK.1) (by decide)), fun _ => ?_⟩
    refine gT_n 6 ?_
    refine ⟨rfl, rfl, (pk_in 0 3 (by decide) rfl), px_ne (X := a1) (Y := k) (hK.2.1.1) (rfl) (fun κ1 => ?_) (fun κ1 => ?_)⟩
    · refine gT_n 6 ?_
      refine ⟨rfl, fun c => absurd c (kpT (p := fun z : Int32 => ¬ (z ≤ 1)) (show _ = (3 : Int32) from hK.1) (by decide)), fun _ => ?_⟩
      refine gT_n 6 ?_
      refine ⟨rfl, rfl, (pk_in 1 3 (by decide) rfl), px_ne (X := b1) (Y := k) (hK.2.1.2.1) (rfl) (fun κ2 => ?_) (fun κ2 => ?_)⟩
      · refine gT_n 6 ?_
        refine ⟨rfl, fun c => absurd c (kpT (p := fun z : Int32 => ¬ (z ≤ 2)) (show _ = (3 : Int32) from hK.1) (by decide)), fun _ => ?_⟩
        refine gT_n 6 ?_
        refine ⟨rfl, rfl, (pk_in 2 3 (by decide) rfl), px_ne (X := c1) (Y := k) (hK.2.1.2.2) (rfl) (fun κ3 => ?_) (fun κ3 => ?_)⟩
        · refine gT_n 6 ?_
          refine ⟨rfl, fun _ => ?_, fun c => absurd (kpT (p := fun z : Int32 => z ≤ 3) (show _ = (3 : Int32) from hK.1) (by decide)) c⟩
          refine gT_n 2 ?_
          show gT _ 25 5 _ _ _ _ _
          refine gT_n 3 ?_
          refine ⟨fun c => absurd c (by decide), fun _ => ?_⟩
          refine gT_n 3 ?_
          exact absurd hk (fun z => Or.elim z κ1 (fun z => Or.elim z κ2 κ3))
        · refine gT_n 2 ?_
          show gT _ 25 5 _ _ _ _ _
          refine gT_n 3 ?_
          refine ⟨fun _ => ?_, fun c => absurd (by decide) c⟩
          refine gT_n 7 ?_
          refine ⟨rfl, rfl, (pk_in 2 3 (by decide) rfl), ?_⟩
          exact ⟨rfl, ri (congrArg (ck - ·) ((hK.2.2.2.2).trans (Eq.symm (Eq.trans (if_neg κ1) (if_neg κ2)))))⟩
      · refine gT_n 2 ?_
        show gT _ 25 5 _ _ _ _ _
        refine gT_n 3 ?_
        refine ⟨fun _ => ?_, fun c => absurd (by decide) c⟩
        refine gT_n 7 ?_
        refine ⟨rfl, rfl, (pk_in 1 3 (by decide) rfl), ?_⟩
        exact ⟨rfl, ri (congrArg (ck - ·) ((hK.2.2.2.1).trans (Eq.symm (Eq.trans (if_neg κ1) (if_pos κ2)))))⟩
    · refine gT_n 2 ?_
      show gT _ 25 5 _ _ _ _ _
      refine gT_n 3 ?_
      refine ⟨fun _ => ?_, fun c => absurd (by decide) c⟩
      refine gT_n 7 ?_
      refine ⟨rfl, rfl, (pk_in 0 3 (by decide) rfl), ?_⟩
      exact ⟨rfl, ri (congrArg (ck - ·) ((hK.2.2.1).trans (Eq.symm (if_pos κ1))))⟩
theorem c_khas55 {d : Nat} {k : Int32} {l : zK} {I : Nat → Nat → Int32} {J : Nat → Nat → Int64} {P : Nat → Nat} (hl : l.length ≤ 3) (hK : cK (I 55 2) (I 56) (I 57) l) : gTM (d + 1) 24 [.ref 55, .int k] (gST I J P) (gB (gST I J P) (khas l k)) := by
  rcases zK3 hl with rfl | ⟨a1, a2, rfl⟩ | ⟨a1, a2, b1, b2, rfl⟩ | ⟨a1, a2, b1, b2, c1, c2, rfl⟩
  · refine gT_n 3 ?_
    refine ⟨rfl, rfl, ?_⟩
    refine gT_n 6 ?_
    refine ⟨rfl, fun _ => ?_, fun c => absurd (kpT (p := fun z : Int32 => z ≤ 0) (show _ = (0 : Int32) from hK.1) (by decide)) c⟩
    refine gT_n 2 ?_
    show gT _ 24 5 _ _ _ _ _
    refine gT_n 1 ?_
    refine ⟨fun _ => ?_, fun c => absurd (by decide) c⟩
    refine gT_n 2 ?_
    refine ⟨(Or.inl rfl), ?_⟩
    exact ⟨rfl, Or.inr ⟨rfl, id⟩⟩
  · refine gT_n 3 ?_
    refine ⟨rfl, rfl, ?_⟩
    refine gT_n 6 ?_
    refine ⟨rfl, fun c => absurd c (kpT (p := fun z : Int32 => ¬ (z ≤ 0)) (show _ = (1 : Int32) from hK.1) (by decide)), fun _ => ?_⟩
    refine gT_n 6 ?_
    refine ⟨rfl, rfl, (pk_in 0 3 (by decide) rfl), px_ne (X := a1) (Y := k) (hK.2.1.1) (rfl) (fun κ1 => ?_) (fun κ1 => ?_)⟩
    · refine gT_n 6 ?_
      refine ⟨rfl, fun _ => ?_, fun c => absurd (kpT (p := fun z : Int32 => z ≤ 1) (show _ = (1 : Int32) from hK.1) (by decide)) c⟩
      refine gT_n 2 ?_
      show gT _ 24 5 _ _ _ _ _
      refine gT_n 1 ?_
      refine ⟨fun _ => ?_, fun c => absurd (by decide) c⟩
      refine gT_n 2 ?_
      refine ⟨(Or.inl rfl), ?_⟩
      exact ⟨rfl, Or.inr ⟨rfl, κ1⟩⟩
    · refine gT_n 2 ?_
      show gT _ 24 5 _ _ _ _ _
      refine gT_n 1 ?_
      refine ⟨fun c => absurd c (by decide), fun _ => ?_⟩
      refine gT_n 3 ?_
      refine ⟨(Or.inr rfl), ?_⟩
      exact ⟨rfl, Or.inl ⟨rfl, κ1⟩⟩
  · refine gT_n 3 ?_
    refine ⟨rfl, rfl, ?_⟩
    refine gT_n 6 ?_
    refine ⟨rfl, fun c => absurd c (kpT (p := fun z : Int32 => ¬ (z ≤ 0)) (show _ = (2 : Int32) from hK.1) (by decide)), fun _ => ?_⟩
    refine gT_n 6 ?_
    refine ⟨rfl, rfl, (pk_in 0 3 (by decide) rfl), px_ne (X := a1) (Y := k) (hK.2.1.1) (rfl) (fun κ1 => ?_) (fun κ1 => ?_)⟩
    · refine gT_n 6 ?_
      refine ⟨rfl, fun c => absurd c (kpT (p := fun z : Int32 => ¬ (z ≤ 1)) (show _ = (2 : Int32) from hK.1) (by decide)), fun _ => ?_⟩
      refine gT_n 6 ?_
      refine ⟨rfl, rfl, (pk_in 1 3 (by decide) rfl), px_ne (X := b1) (Y := k) (hK.2.1.2.1) (rfl) (fun κ2 => ?_) (fun κ2 => ?_)⟩
      · refine gT_n 6 ?_
        refine ⟨rfl, fun _ => ?_, fun c => absurd (kpT (p := fun z : Int32 => z ≤ 2) (show _ = (2 : Int32) from hK.1) (by decide)) c⟩
        refine gT_n 2 ?_
        show gT _ 24 5 _ _ _ _ _
        refine gT_n 1 ?_
        refine ⟨fun _ => ?_, fun c => absurd (by decide) c⟩
        refine gT_n 2 ?_
        refine ⟨(Or.inl rfl), ?_⟩
        exact ⟨rfl, Or.inr ⟨rfl, (fun z => Or.elim z κ1 κ2)⟩⟩
      · refine gT_n 2 ?_
        show gT _ 24 5 _ _ _ _ _
        refine gT_n 1 ?_
        refine ⟨fun c => absurd c (by decide), fun _ => ?_⟩
        refine gT_n 3 ?_
        refine ⟨(Or.inr rfl), ?_⟩
        exact ⟨rfl, Or.inl ⟨rfl, (Or.inr (κ2))⟩⟩
    · refine gT_n 2 ?_
      show gT _ 24 5 _ _ _ _ _
      refine gT_n 1 ?_
      refine ⟨fun c => absurd c (by decide), fun _ => ?_⟩
      refine gT_n 3 ?_
      refine ⟨(Or.inr rfl), ?_⟩
      exact ⟨rfl, Or.inl ⟨rfl, (Or.inl κ1)⟩⟩
  · refine gT_n 3 ?_
    refine ⟨rfl, rfl, ?_⟩
    refine gT_n 6 ?_
    refine ⟨rfl, fun c => absurd c (kpT (p := fun z : Int32 => ¬ (z ≤ 0)) (show _ = (3 : Int32) from hK.1) (by decide)), fun _ => ?_⟩
    refine gT_n 6 ?_
    refine ⟨rfl, rfl, (pk_in 0 3 (by decide) rfl), px_ne (X := a1) (Y := k) (hK.2.1.1) (rfl) (fun κ1 => ?_) (fun κ1 => ?_)⟩
    · refine gT_n 6 ?_
      refine ⟨rfl, fun c => absurd c (kpT (p := fun z : Int32 => ¬ (z ≤ 1)) (show _ = (3 : Int32) from hK.1) (by decide)), fun _ => ?_⟩
      refine gT_n 6 ?_
      refine ⟨rfl, rfl, (pk_in 1 3 (by decide) rfl), px_ne (X := b1) (Y := k) (hK.2.1.2.1) (rfl) (fun κ2 => ?_) (fun κ2 => ?_)⟩
      · refine gT_n 6 ?_
        refine ⟨rfl, fun c => absurd c (kpT (p := fun z : Int32 => ¬ (z ≤ 2)) (show _ = (3 : Int32) from hK.1) (by decide)), fun _ => ?_⟩
        refine gT_n 6 ?_
        refine ⟨rfl, rfl, (pk_in 2 3 (by decide) rfl), px_ne (X := c1) (Y := k) (hK.2.1.2.2) (rfl) (fun κ3 => ?_) (fun κ3 => ?_)⟩
        · refine gT_n 6 ?_
          refine ⟨rfl, fun _ => ?_, fun c => absurd (kpT (p := fun z : Int32 => z ≤ 3) (show _ = (3 : Int32) from hK.1) (by decide)) c⟩
          refine gT_n 2 ?_
          show gT _ 24 5 _ _ _ _ _
          refine gT_n 1 ?_
          refine ⟨fun _ => ?_, fun c => absurd (by decide) c⟩
          refine gT_n 2 ?_
          refine ⟨(Or.inl rfl), ?_⟩
          exact ⟨rfl, Or.inr ⟨rfl, (fun z => Or.elim z κ1 (fun z => Or.elim z κ2 κ3))⟩⟩
        · refine gT_n 2 ?_
          show gT _ 24 5 _ _ _ _ _
          refine gT_n 1 ?_
          refine ⟨fun c => absurd c (by decide), fun _ => ?_⟩
          refine gT_n 3 ?_
          refine ⟨(Or.inr rfl), ?_⟩
          exact ⟨rfl, Or.inl ⟨rfl, (Or.inr (Or.inr (κ3)))⟩⟩
      · refine gT_n 2 ?_
        show gT _ 24 5 _ _ _ _ _
        refine gT_n 1 ?_
        refine ⟨fun c => absurd c (by decide), fun _ => ?_⟩
        refine gT_n 3 ?_
        refine ⟨(Or.inr rfl), ?_⟩
        exact ⟨rfl, Or.inl ⟨rfl, (Or.inr (Or.inl κ2))⟩⟩
    · refine gT_n 2 ?_
      show gT _ 24 5 _ _ _ _ _
      refine gT_n 1 ?_
      refine ⟨fun c => absurd c (by decide), fun _ => ?_⟩
      refine gT_n 3 ?_
      refine ⟨(Or.inr rfl), ?_⟩
      exact ⟨rfl, Or.inl ⟨rfl, (Or.inl κ1)⟩⟩
theorem c_kage55 {d : Nat} {k ck : Int32} {l : zK} {I : Nat → Nat → Int32} {J : Nat → Nat → Int64} {P : Nat → Nat} (hl : l.length ≤ 3) (hK : cK (I 55 2) (I 56) (I 57) l) (hk : khas l k) : gTM (d + 1) 25 [.ref 55, .int k, .int ck] (gST I J P) (fun r u => u = gST I J P ∧ r = some (.int (ck - ksin l k))) := by
  rcases zK3 hl with rfl | ⟨a1, a2, rfl⟩ | ⟨a1, a2, b1, b2, rfl⟩ | ⟨a1, a2, b1, b2, c1, c2, rfl⟩
  · exact hk.elim
  · refine gT_n 3 ?_
    refine ⟨rfl, rfl, ?_⟩
    refine gT_n 6 ?_
    refine ⟨rfl, fun c => absurd c (kpT (p := fun z : Int32 => ¬ (z ≤ 0)) (show _ = (1 : Int32) from hK.1) (by decide)), fun _ => ?_⟩
    refine gT_n 6 ?_
    refine ⟨rfl, rfl, (pk_in 0 3 (by decide) rfl), px_ne (X := a1) (Y := k) (hK.2.1.1) (rfl) (fun κ1 => ?_) (fun κ1 => ?_)⟩
    · refine gT_n 6 ?_
      refine ⟨rfl, fun _ => ?_, fun c => absurd (kpT (p := fun z : Int32 => z ≤ 1) (show _ = (1 : Int32) from hK.1) (by decide)) c⟩
      refine gT_n 2 ?_
      show gT _ 25 5 _ _ _ _ _
      refine gT_n 3 ?_
      refine ⟨fun c => absurd c (by decide), fun _ => ?_⟩
      refine gT_n 3 ?_
      exact absurd hk κ1
    · refine gT_n 2 ?_
      show gT _ 25 5 _ _ _ _ _
      refine gT_n 3 ?_
      refine ⟨fun _ => ?_, fun c => absurd (by decide) c⟩
      refine gT_n 7 ?_
      refine ⟨rfl, rfl, (pk_in 0 3 (by decide) rfl), ?_⟩
      exact ⟨rfl, ri (congrArg (ck - ·) ((hK.2.2.1).trans (Eq.symm rfl)))⟩
  · refine gT_n 3 ?_
    refine ⟨rfl, rfl, ?_⟩
    refine gT_n 6 ?_
    refine ⟨rfl, fun c => absurd c (kpT (p := fun z : Int32 => ¬ (z ≤ 0)) (show _ = (2 : Int32) from hK.1) (by decide)), fun _ => ?_⟩
    refine gT_n 6 ?_
    refine ⟨rfl, rfl, (pk_in 0 3 (by decide) rfl), px_ne (X := a1) (Y := k) (hK.2.1.1) (rfl) (fun κ1 => ?_) (fun κ1 => ?_)⟩
    · refine gT_n 6 ?_
      refine ⟨rfl, fun c => absurd c (kpT (p := fun z : Int32 => ¬ (z ≤ 1)) (show _ = (2 : Int32) from hK.1) (by decide)), fun _ => ?_⟩
      refine gT_n 6 ?_
      refine ⟨rfl, rfl, (pk_in 1 3 (by decide) rfl), px_ne (X := b1) (Y := k) (hK.2.1.2.1) (rfl) (fun κ2 => ?_) (fun κ2 => ?_)⟩
      · refine gT_n 6 ?_
        refine ⟨rfl, fun _ => ?_, fun c => absurd (kpT (p := fun z : Int32 => z ≤ 2) (show _ = (2 : Int32) from hK.1) (by decide)) c⟩
        refine gT_n 2 ?_
        show gT _ 25 5 _ _ _ _ _
        refine gT_n 3 ?_
        refine ⟨fun c => absurd c (by decide), fun _ => ?_⟩
        refine gT_n 3 ?_
        exact absurd hk (fun z => Or.elim z κ1 κ2)
      · refine gT_n 2 ?_
        show gT _ 25 5 _ _ _ _ _
        refine gT_n 3 ?_
        refine ⟨fun _ => ?_, fun c => absurd (by decide) c⟩
        refine gT_n 7 ?_
        refine ⟨rfl, rfl, (pk_in 1 3 (by decide) rfl), ?_⟩
        exact ⟨rfl, ri (congrArg (ck - ·) ((hK.2.2.2.1).trans (Eq.symm (if_neg κ1))))⟩
    · refine gT_n 2 ?_
      show gT _ 25 5 _ _ _ _ _
      refine gT_n 3 ?_
      refine ⟨fun _ => ?_, fun c => absurd (by decide) c⟩
      refine gT_n 7 ?_
      refine ⟨rfl, rfl, (pk_in 0 3 (by decide) rfl), ?_⟩
      exact ⟨rfl, ri (congrArg (ck - ·) ((hK.2.2.1).trans (Eq.symm (if_pos κ1))))⟩
  · refine gT_n 3 ?_
    refine ⟨rfl, rfl, ?_⟩
    refine gT_n 6 ?_
    refine ⟨rfl, fun c => absurd c (kpT (p := fun z : Int32 => ¬ (z ≤ 0)) (show _ = (3 : Int32) from hK.1) (by decide)), fun _ => ?_⟩
    refine gT_n 6 ?_
    refine ⟨rfl, rfl, (pk_in 0 3 (by decide) rfl), px_ne (X := a1) (Y := k) (hK.2.1.1) (rfl) (fun κ1 => ?_) (fun κ1 => ?_)⟩
    · refine gT_n 6 ?_
      refine ⟨rfl, fun c => absurd c (kpT (p := fun z : Int32 => ¬ (z ≤ 1)) (show _ = (3 : Int32) from hK.1) (by decide)), fun _ => ?_⟩
      refine gT_n 6 ?_
      refine ⟨rfl, rfl, (pk_in 1 3 (by decide) rfl), px_ne (X := b1) (Y := k) (hK.2.1.2.1) (rfl) (fun κ2 => ?_) (fun κ2 => ?_)⟩
      · refine gT_n 6 ?_
        refine ⟨rfl, fun c => absurd c (kpT (p := fun z : Int32 => ¬ (z ≤ 2)) (show _ = (3 : Int32) from hK.1) (by decide)), fun _ => ?_⟩
        refine gT_n 6 ?_
        refine ⟨rfl, rfl, (pk_in 2 3 (by decide) rfl), px_ne (X := c1) (Y := k) (hK.2.1.2.2) (rfl) (fun κ3 => ?_) (fun κ3 => ?_)⟩
        · refine gT_n 6 ?_
          refine ⟨rfl, fun _ => ?_, fun c => absurd (kpT (p := fun z : Int32 => z ≤ 3) (show _ = (3 : Int32) from hK.1) (by decide)) c⟩
          refine gT_n 2 ?_
          show gT _ 25 5 _ _ _ _ _
          refine gT_n 3 ?_
          refine ⟨fun c => absurd c (by decide), fun _ => ?_⟩
          refine gT_n 3 ?_
          exact absurd hk (fun z => Or.elim z κ1 (fun z => Or.elim z κ2 κ3))
        · refine gT_n 2 ?_
          show gT _ 25 5 _ _ _ _ _
          refine gT_n 3 ?_
          refine ⟨fun _ => ?_, fun c => absurd (by decide) c⟩
          refine gT_n 7 ?_
          refine ⟨rfl, rfl, (pk_in 2 3 (by decide) rfl), ?_⟩
          exact ⟨rfl, ri (congrArg (ck - ·) ((hK.2.2.2.2).trans (Eq.symm (Eq.trans (if_neg κ1) (if_neg κ2)))))⟩
      · refine gT_n 2 ?_
        show gT _ 25 5 _ _ _ _ _
        refine gT_n 3 ?_
        refine ⟨fun _ => ?_, fun c => absurd (by decide) c⟩
        refine gT_n 7 ?_
        refine ⟨rfl, rfl, (pk_in 1 3 (by decide) rfl), ?_⟩
        exact ⟨rfl, ri (congrArg (ck - ·) ((hK.2.2.2.1).trans (Eq.symm (Eq.trans (if_neg κ1) (if_pos κ2)))))⟩
    · refine gT_n 2 ?_
      show gT _ 25 5 _ _ _ _ _
      refine gT_n 3 ?_
      refine ⟨fun _ => ?_, fun c => absurd (by decide) c⟩
      refine gT_n 7 ?_
      refine ⟨rfl, rfl, (pk_in 0 3 (by decide) rfl), ?_⟩
      exact ⟨rfl, ri (congrArg (ck - ·) ((hK.2.2.1).trans (Eq.symm (if_pos κ1))))⟩
def kAt (l : zK) (k : Int32) (w : gW) : Option Value → gW → Prop := fun r u => u = w ∧ ((∃ i, i < l.length ∧ r = some (.int (nI i)) ∧ khas l k ∧ (kg l i).2 = ksin l k ∧ (kg l i).1 = k ∧ (i = 0 ∨ ¬ (kg l 0).1 = k)) ∨ (r = some (.int (-4)) ∧ ¬ khas l k))
theorem m_kAt0 {d : Nat} {k : Int32} {l : zK} {I : Nat → Nat → Int32} {J : Nat → Nat → Int64} {P : Nat → Nat} (hl : l.length ≤ 3) (hK : mQ3 (I 179 0) (I 177 0) (I 177 1) (I 177 2) (I 178 0) (I 178 1) (I 178 2) l) : gTM d 262 [.ref 171, .int 0, .int k] (gST I J P) (kAt l k (gST I J P)) := by
  rcases zK3 hl with rfl | ⟨a1, a2, rfl⟩ | ⟨a1, a2, b1, b2, rfl⟩ | ⟨a1, a2, b1, b2, c1, c2, rfl⟩
  · refine gT_n 8 ?_
    refine ⟨rfl, rfl, (pk_in 0 4 (by decide) rfl), fun _ => ?_, fun c => absurd (kpT (p := fun z : Int32 => z ≤ 0) (show _ = (0 : Int32) from hK.1) (by decide)) c⟩
    refine gT_n 2 ?_
    exact ⟨rfl, Or.inr ⟨rfl, id⟩⟩
  · refine gT_n 8 ?_
    refine ⟨rfl, rfl, (pk_in 0 4 (by decide) rfl), fun c => absurd c (kpT (p := fun z : Int32 => ¬ (z ≤ 0)) (show _ = (1 : Int32) from hK.1) (by decide)), fun _ => ?_⟩
    refine gT_n 10 ?_
    refine ⟨rfl, rfl, (pk_in 0 12 (by decide) rfl), px_ne (X := a1) (Y := k) ((hK.2.1 (show 0 < 1 by decide)).1) (rfl) (fun κ1 => ?_) (fun κ1 => ?_)⟩
    · refine gT_n 8 ?_
      refine ⟨rfl, rfl, (pk_in 0 4 (by decide) rfl), fun _ => ?_, fun c => absurd (kpT (p := fun z : Int32 => z ≤ 1) (show _ = (1 : Int32) from hK.1) (by decide)) c⟩
      refine gT_n 2 ?_
      exact ⟨rfl, Or.inr ⟨rfl, κ1⟩⟩
    · refine gT_n 2 ?_
      exact ⟨rfl, Or.inl ⟨0, (show 0 < 1 by decide), rfl, κ1, Eq.symm (rfl), κ1, Or.inl rfl⟩⟩
  · refine gT_n 8 ?_
    refine ⟨rfl, rfl, (pk_in 0 4 (by decide) rfl), fun c => absurd c (kpT (p := fun z : Int32 => ¬ (z ≤ 0)) (show _ = (2 : Int32) from hK.1) (by decide)), fun _ => ?_⟩
    refine gT_n 10 ?_
    refine ⟨rfl, rfl, (pk_in 0 12 (by decide) rfl), px_ne (X := a1) (Y := k) ((hK.2.1 (show 0 < 2 by decide)).1) (rfl) (fun κ1 => ?_) (fun κ1 => ?_)⟩
    · refine gT_n 8 ?_
      refine ⟨rfl, rfl, (pk_in 0 4 (by decide) rfl), fun c => absurd c (kpT (p := fun z : Int32 => ¬ (z ≤ 1)) (show _ = (2 : Int32) from hK.1) (by decide)), fun _ => ?_⟩
      refine gT_n 10 ?_
      refine ⟨rfl, rfl, (pk_in 1 12 (by decide) rfl), px_ne (X := b1) (Y := k) ((hK.2.2.1 (show 1 < 2 by decide)).1) (rfl) (fun κ2 => ?_) (fun κ2 => ?_)⟩
      · refine gT_n 8 ?_
        refine ⟨rfl, rfl, (pk_in 0 4 (by decide) rfl), fun _ => ?_, fun c => absurd (kpT (p := fun z : Int32 => z ≤ 2) (show _ = (2 : Int32) from hK.1) (by decide)) c⟩
        refine gT_n 2 ?_
        exact ⟨rfl, Or.inr ⟨rfl, (fun z => Or.elim z κ1 κ2)⟩⟩
      · refine gT_n 2 ?_
        exact ⟨rfl, Or.inl ⟨1, (show 1 < 2 by decide), rfl, (Or.inr (κ2)), Eq.symm (if_neg κ1), κ2, Or.inr κ1⟩⟩
    · refine gT_n 2 ?_
      exact ⟨rfl, Or.inl ⟨0, (show 0 < 2 by decide), rfl, (Or.inl κ1), Eq.symm (if_pos κ1), κ1, Or.inl rfl⟩⟩
  · refine gT_n 8 ?_
    refine ⟨rfl, rfl, (pk_in 0 4 (by decide) rfl), fun c => absurd c (kpT (p := fun z : Int32 => ¬ (z ≤ 0)) (show _ = (3 : Int32) from hK.1) (by decide)), fun _ => ?_⟩
    refine gT_n 10 ?_
    refine ⟨rfl, rfl, (pk_in 0 12 (by decide) rfl), px_ne (X := a1) (Y := k) ((hK.2.1 (show 0 < 3 by decide)).1) (rfl) (fun κ1 => ?_) (fun κ1 => ?_)⟩
    · refine gT_n 8 ?_
      refine ⟨rfl, rfl, (pk_in 0 4 (by decide) rfl), fun c => absurd c (kpT (p := fun z : Int32 => ¬ (z ≤ 1)) (show _ = (3 : Int32) from hK.1) (by decide)), fun _ => ?_⟩
      refine gT_n 10 ?_
      refine ⟨rfl, rfl, (pk_in 1 12 (by decide) rfl), px_ne (X := b1) (Y := k) ((hK.2.2.1 (show 1 < 3 by decide)).1) (rfl) (fun κ2 => ?_) (fun κ2 => ?_)⟩
      · refine gT_n 8 ?_
        refine ⟨rfl, rfl, (pk_in 0 4 (by decide) rfl), fun c => absurd c (kpT (p := fun z : Int32 => ¬ (z ≤ 2)) (show _ = (3 : Int32) from hK.1) (by decide)), fun _ => ?_⟩
        refine gT_n 10 ?_
        refine ⟨rfl, rfl, (pk_in 2 12 (by decide) rfl), px_ne (X := c1) (Y := k) ((hK.2.2.2 (show 2 < 3 by decide)).1) (rfl) (fun κ3 => ?_) (fun κ3 => ?_)⟩
        · refine gT_n 8 ?_
          refine ⟨rfl, rfl, (pk_in 0 4 (by decide) rfl), fun _ => ?_, fun c => absurd (kpT (p := fun z : Int32 => z ≤ 3) (show _ = (3 : Int32) from hK.1) (by decide)) c⟩
          refine gT_n 2 ?_
          exact ⟨rfl, Or.inr ⟨rfl, (fun z => Or.elim z κ1 (fun z => Or.elim z κ2 κ3))⟩⟩
        · refine gT_n 2 ?_
          exact ⟨rfl, Or.inl ⟨2, (show 2 < 3 by decide), rfl, (Or.inr (Or.inr (κ3))), Eq.symm (Eq.trans (if_neg κ1) (if_neg κ2)), κ3, Or.inr κ1⟩⟩
      · refine gT_n 2 ?_
        exact ⟨rfl, Or.inl ⟨1, (show 1 < 3 by decide), rfl, (Or.inr (Or.inl κ2)), Eq.symm (Eq.trans (if_neg κ1) (if_pos κ2)), κ2, Or.inr κ1⟩⟩
    · refine gT_n 2 ?_
      exact ⟨rfl, Or.inl ⟨0, (show 0 < 3 by decide), rfl, (Or.inl κ1), Eq.symm (if_pos κ1), κ1, Or.inl rfl⟩⟩
theorem m_kAt1 {d : Nat} {k : Int32} {l : zK} {I : Nat → Nat → Int32} {J : Nat → Nat → Int64} {P : Nat → Nat} (hl : l.length ≤ 3) (hK : mQ3 (I 179 1) (I 177 3) (I 177 4) (I 177 5) (I 178 3) (I 178 4) (I 178 5) l) : gTM d 262 [.ref 171, .int 1, .int k] (gST I J P) (kAt l k (gST I J P)) := by
  rcases zK3 hl with rfl | ⟨a1, a2, rfl⟩ | ⟨a1, a2, b1, b2, rfl⟩ | ⟨a1, a2, b1, b2, c1, c2, rfl⟩
  · refine gT_n 8 ?_
    refine ⟨rfl, rfl, (pk_in 1 4 (by decide) rfl), fun _ => ?_, fun c => absurd (kpT (p := fun z : Int32 => z ≤ 0) (show _ = (0 : Int32) from hK.1) (by decide)) c⟩
    refine gT_n 2 ?_
    exact ⟨rfl, Or.inr ⟨rfl, id⟩⟩
  · refine gT_n 8 ?_
    refine ⟨rfl, rfl, (pk_in 1 4 (by decide) rfl), fun c => absurd c (kpT (p := fun z : Int32 => ¬ (z ≤ 0)) (show _ = (1 : Int32) from hK.1) (by decide)), fun _ => ?_⟩
    refine gT_n 10 ?_
    refine ⟨rfl, rfl, (pk_in 3 12 (by decide) rfl), px_ne (X := a1) (Y := k) ((hK.2.1 (show 0 < 1 by decide)).1) (rfl) (fun κ1 => ?_) (fun κ1 => ?_)⟩
    · refine gT_n 8 ?_
      refine ⟨rfl, rfl, (pk_in 1 4 (by decide) rfl), fun _ => ?_, fun c => absurd (kpT (p := fun z : Int32 => z ≤ 1) (show _ = (1 : Int32) from hK.1) (by decide)) c⟩
      refine gT_n 2 ?_
      exact ⟨rfl, Or.inr ⟨rfl, κ1⟩⟩
    · refine gT_n 2 ?_
      exact ⟨rfl, Or.inl ⟨0, (show 0 < 1 by decide), rfl, κ1, Eq.symm (rfl), κ1, Or.inl rfl⟩⟩
  · refine gT_n 8 ?_
    refine ⟨rfl, rfl, (pk_in 1 4 (by decide) rfl), fun c => absurd c (kpT (p := fun z : Int32 => ¬ (z ≤ 0)) (show _ = (2 : Int32) from hK.1) (by decide)), fun _ => ?_⟩
    refine gT_n 10 ?_
    refine ⟨rfl, rfl, (pk_in 3 12 (by decide) rfl), px_ne (X := a1) (Y := k) ((hK.2.1 (show 0 < 2 by decide)).1) (rfl) (fun κ1 => ?_) (fun κ1 => ?_)⟩
    · refine gT_n 8 ?_
      refine ⟨rfl, rfl, (pk_in 1 4 (by decide) rfl), fun c => absurd c (kpT (p := fun z : Int32 => ¬ (z ≤ 1)) (show _ = (2 : Int32) from hK.1) (by decide)), fun _ => ?_⟩
      refine gT_n 10 ?_
      refine ⟨rfl, rfl, (pk_in 4 12 (by decide) rfl), px_ne (X := b1) (Y := k) ((hK.2.2.1 (show 1 < 2 by decide)).1) (rfl) (fun κ2 => ?_) (fun κ2 => ?_)⟩
      · refine gT_n 8 ?_
        refine ⟨rfl, rfl, (pk_in 1 4 (by decide) rfl), fun _ => ?_, fun c => absurd (kpT (p := fun z : Int32 => z ≤ 2) (show _ = (2 : Int32) from hK.1) (by decide)) c⟩
        refine gT_n 2 ?_
        exact ⟨rfl, Or.inr ⟨rfl, (fun z => Or.elim z κ1 κ2)⟩⟩
      · refine gT_n 2 ?_
        exact ⟨rfl, Or.inl ⟨1, (show 1 < 2 by decide), rfl, (Or.inr (κ2)), Eq.symm (if_neg κ1), κ2, Or.inr κ1⟩⟩
    · refine gT_n 2 ?_
      exact ⟨rfl, Or.inl ⟨0, (show 0 < 2 by decide), rfl, (Or.inl κ1), Eq.symm (if_pos κ1), κ1, Or.inl rfl⟩⟩
  · refine gT_n 8 ?_
    refine ⟨rfl, rfl, (pk_in 1 4 (by decide) rfl), fun c => absurd c (kpT (p := fun z : Int32 => ¬ (z ≤ 0)) (show _ = (3 : Int32) from hK.1) (by decide)), fun _ => ?_⟩
    refine gT_n 10 ?_
    refine ⟨rfl, rfl, (pk_in 3 12 (by decide) rfl), px_ne (X := a1) (Y := k) ((hK.2.1 (show 0 < 3 by decide)).1) (rfl) (fun κ1 => ?_) (fun κ1 => ?_)⟩
    · refine gT_n 8 ?_
      refine ⟨rfl, rfl, (pk_in 1 4 (by decide) rfl), fun c => absurd c (kpT (p := fun z : Int32 => ¬ (z ≤ 1)) (show _ = (3 : Int32) from hK.1) (by decide)), fun _ => ?_⟩
      refine gT_n 10 ?_
      refine ⟨rfl, rfl, (pk_in 4 12 (by decide) rfl), px_ne (X := b1) (Y := k) ((hK.2.2.1 (show 1 < 3 by decide)).1) (rfl) (fun κ2 => ?_) (fun κ2 => ?_)⟩
      · refine gT_n 8 ?_
        refine ⟨rfl, rfl, (pk_in 1 4 (by decide) rfl), fun c => absurd c (kpT (p := fun z : Int32 => ¬ (z ≤ 2)) (show _ = (3 : Int32) from hK.1) (by decide)), fun _ => ?_⟩
        refine gT_n 10 ?_
        refine ⟨rfl, rfl, (pk_in 5 12 (by decide) rfl), px_ne (X := c1) (Y := k) ((hK.2.2.2 (show 2 < 3 by decide)).1) (rfl) (fun κ3 => ?_) (fun κ3 => ?_)⟩
        · refine gT_n 8 ?_
          refine ⟨rfl, rfl, (pk_in 1 4 (by decide) rfl), fun _ => ?_, fun c => absurd (kpT (p := fun z : Int32 => z ≤ 3) (show _ = (3 : Int32) from hK.1) (by decide)) c⟩
          refine gT_n 2 ?_
          exact ⟨rfl, Or.inr ⟨rfl, (fun z => Or.elim z κ1 (fun z => Or.elim z κ2 κ3))⟩⟩
        · refine gT_n 2 ?_
          exact ⟨rfl, Or.inl ⟨2, (show 2 < 3 by decide), rfl, (Or.inr (Or.inr (κ3))), Eq.symm (Eq.trans (if_neg κ1) (if_neg κ2)), κ3, Or.inr κ1⟩⟩
      · refine gT_n 2 ?_
        exact ⟨rfl, Or.inl ⟨1, (show 1 < 3 by decide), rfl, (Or.inr (Or.inl κ2)), Eq.symm (Eq.trans (if_neg κ1) (if_pos κ2)), κ2, Or.inr κ1⟩⟩
    · refine gT_n 2 ?_
      exact ⟨rfl, Or.inl ⟨0, (show 0 < 3 by decide), rfl, (Or.inl κ1), Eq.symm (if_pos κ1), κ1, Or.inl rfl⟩⟩
theorem m_kAt2 {d : Nat} {k : Int32} {l : zK} {I : Nat → Nat → Int32} {J : Nat → Nat → Int64} {P : Nat → Nat} (hl : l.length ≤ 3) (hK : mQ3 (I 179 2) (I 177 6) (I 177 7) (I 177 8) (I 178 6) (I 178 7) (I 178 8) l) : gTM d 262 [.ref 171, .int 2, .int k] (gST I J P) (kAt l k (gST I J P)) := by
  rcases zK3 hl with rfl | ⟨a1, a2, rfl⟩ | ⟨a1, a2, b1, b2, rfl⟩ | ⟨a1, a2, b1, b2, c1, c2, rfl⟩
  · refine gT_n 8 ?_
    refine ⟨rfl, rfl, (pk_in 2 4 (by decide) rfl), fun _ => ?_, fun c => absurd (kpT (p := fun z : Int32 => z ≤ 0) (show _ = (0 : Int32) from hK.1) (by decide)) c⟩
    refine gT_n 2 ?_
    exact ⟨rfl, Or.inr ⟨rfl, id⟩⟩
  · refine gT_n 8 ?_
    refine ⟨rfl, rfl, (pk_in 2 4 (by decide) rfl), fun c => absurd c (kpT (p := fun z : Int32 => ¬ (z ≤ 0)) (show _ = (1 : Int32) from hK.1) (by decide)), fun _ => ?_⟩
    refine gT_n 10 ?_
    refine ⟨rfl, rfl, (pk_in 6 12 (by decide) rfl), px_ne (X := a1) (Y := k) ((hK.2.1 (show 0 < 1 by decide)).1) (rfl) (fun κ1 => ?_) (fun κ1 => ?_)⟩
    · refine gT_n 8 ?_
      refine ⟨rfl, rfl, (pk_in 2 4 (by decide) rfl), fun _ => ?_, fun c => absurd (kpT (p := fun z : Int32 => z ≤ 1) (show _ = (1 : Int32) from hK.1) (by decide)) c⟩
      refine gT_n 2 ?_
      exact ⟨rfl, Or.inr ⟨rfl, κ1⟩⟩
    · refine gT_n 2 ?_
      exact ⟨rfl, Or.inl ⟨0, (show 0 < 1 by decide), rfl, κ1, Eq.symm (rfl), κ1, Or.inl rfl⟩⟩
  · refine gT_n 8 ?_
    refine ⟨rfl, rfl, (pk_in 2 4 (by decide) rfl), fun c => absurd c (kpT (p := fun z : Int32 => ¬ (z ≤ 0)) (show _ = (2 : Int32) from hK.1) (by decide)), fun _ => ?_⟩
    refine gT_n 10 ?_
    refine ⟨rfl, rfl, (pk_in 6 12 (by decide) rfl), px_ne (X := a1) (Y := k) ((hK.2.1 (show 0 < 2 by decide)).1) (rfl) (fun κ1 => ?_) (fun κ1 => ?_)⟩
    · refine gT_n 8 ?_
      refine ⟨rfl, rfl, (pk_in 2 4 (by decide) rfl), fun c => absurd c (kpT (p := fun z : Int32 => ¬ (z ≤ 1)) (show _ = (2 : Int32) from hK.1) (by decide)), fun _ => ?_⟩
      refine gT_n 10 ?_
      refine ⟨rfl, rfl, (pk_in 7 12 (by decide) rfl), px_ne (X := b1) (Y := k) ((hK.2.2.1 (show 1 < 2 by decide)).1) (rfl) (fun κ2 => ?_) (fun κ2 => ?_)⟩
      · refine gT_n 8 ?_
        refine ⟨rfl, rfl, (pk_in 2 4 (by decide) rfl), fun _ => ?_, fun c => absurd (kpT (p := fun z : Int32 => z ≤ 2) (show _ = (2 : Int32) from hK.1) (by decide)) c⟩
        refine gT_n 2 ?_
        exact ⟨rfl, Or.inr ⟨rfl, (fun z => Or.elim z κ1 κ2)⟩⟩
      · refine gT_n 2 ?_
        exact ⟨rfl, Or.inl ⟨1, (show 1 < 2 by decide), rfl, (Or.inr (κ2)), Eq.symm (if_neg κ1), κ2, Or.inr κ1⟩⟩
    · refine gT_n 2 ?_
      exact ⟨rfl, Or.inl ⟨0, (show 0 < 2 by decide), rfl, (Or.inl κ1), Eq.symm (if_pos κ1), κ1, Or.inl rfl⟩⟩
  · refine gT_n 8 ?_
    refine ⟨rfl, rfl, (pk_in 2 4 (by decide) rfl), fun c => absurd c (kpT (p := fun z : Int32 => ¬ (z ≤ 0)) (show _ = (3 : Int32) from hK.1) (by decide)), fun _ => ?_⟩
    refine gT_n 10 ?_
    refine ⟨rfl, rfl, (pk_in 6 12 (by decide) rfl), px_ne (X := a1) (Y := k) ((hK.2.1 (show 0 < 3 by decide)).1) (rfl) (fun κ1 => ?_) (fun κ1 => ?_)⟩
    · refine gT_n 8 ?_
      refine ⟨rfl, rfl, (pk_in 2 4 (by decide) rfl), fun c => absurd c (kpT (p := fun z : Int32 => ¬ (z ≤ 1)) (show _ = (3 : Int32) from hK.1) (by decide)), fun _ => ?_⟩
      refine gT_n 10 ?_
      refine ⟨rfl, rfl, (pk_in 7 12 (by decide) rfl), px_ne (X := b1) (Y := k) ((hK.2.2.1 (show 1 < 3 by decide)).1) (rfl) (fun κ2 => ?_) (fun κ2 => ?_)⟩
      · refine gT_n 8 ?_
        refine ⟨rfl, rfl, (pk_in 2 4 (by decide) rfl), fun c => absurd c (kpT (p := fun z : Int32 => ¬ (z ≤ 2)) (show _ = (3 : Int32) from hK.1) (by decide)), fun _ => ?_⟩
        refine gT_n 10 ?_
        refine ⟨rfl, rfl, (pk_in 8 12 (by decide) rfl), px_ne (X := c1) (Y := k) ((hK.2.2.2 (show 2 < 3 by decide)).1) (rfl) (fun κ3 => ?_) (fun κ3 => ?_)⟩
        · refine gT_n 8 ?_
          refine ⟨rfl, rfl, (pk_in 2 4 (by decide) rfl), fun _ => ?_, fun c => absurd (kpT (p := fun z : Int32 => z ≤ 3) (show _ = (3 : Int32) from hK.1) (by decide)) c⟩
          refine gT_n 2 ?_
          exact ⟨rfl, Or.inr ⟨rfl, (fun z => Or.elim z κ1 (fun z => Or.elim z κ2 κ3))⟩⟩
        · refine gT_n 2 ?_
          exact ⟨rfl, Or.inl ⟨2, (show 2 < 3 by decide), rfl, (Or.inr (Or.inr (κ3))), Eq.symm (Eq.trans (if_neg κ1) (if_neg κ2)), κ3, Or.inr κ1⟩⟩
      · refine gT_n 2 ?_
        exact ⟨rfl, Or.inl ⟨1, (show 1 < 3 by decide), rfl, (Or.inr (Or.inl κ2)), Eq.symm (Eq.trans (if_neg κ1) (if_pos κ2)), κ2, Or.inr κ1⟩⟩
    · refine gT_n 2 ?_
      exact ⟨rfl, Or.inl ⟨0, (show 0 < 3 by decide), rfl, (Or.inl κ1), Eq.symm (if_pos κ1), κ1, Or.inl rfl⟩⟩
theorem m_kAt3 {d : Nat} {k : Int32} {l : zK} {I : Nat → Nat → Int32} {J : Nat → Nat → Int64} {P : Nat → Nat} (hl : l.length ≤ 3) (hK : mQ3 (I 179 3) (I 177 9) (I 177 10) (I 177 11) (I 178 9) (I 178 10) (I 178 11) l) : gTM d 262 [.ref 171, .int 3, .int k] (gST I J P) (kAt l k (gST I J P)) := by
  rcases zK3 hl with rfl | ⟨a1, a2, rfl⟩ | ⟨a1, a2, b1, b2, rfl⟩ | ⟨a1, a2, b1, b2, c1, c2, rfl⟩
  · refine gT_n 8 ?_
    refine ⟨rfl, rfl, (pk_in 3 4 (by decide) rfl), fun _ => ?_, fun c => absurd (kpT (p := fun z : Int32 => z ≤ 0) (show _ = (0 : Int32) from hK.1) (by decide)) c⟩
    refine gT_n 2 ?_
    exact ⟨rfl, Or.inr ⟨rfl, id⟩⟩
  · refine gT_n 8 ?_
    refine ⟨rfl, rfl, (pk_in 3 4 (by decide) rfl), fun c => absurd c (kpT (p := fun z : Int32 => ¬ (z ≤ 0)) (show _ = (1 : Int32) from hK.1) (by decide)), fun _ => ?_⟩
    refine gT_n 10 ?_
    refine ⟨rfl, rfl, (pk_in 9 12 (by decide) rfl), px_ne (X := a1) (Y := k) ((hK.2.1 (show 0 < 1 by decide)).1) (rfl) (fun κ1 => ?_) (fun κ1 => ?_)⟩
    · refine gT_n 8 ?_
      refine ⟨rfl, rfl, (pk_in 3 4 (by decide) rfl), fun _ => ?_, fun c => absurd (kpT (p := fun z : Int32 => z ≤ 1) (show _ = (1 : Int32) from hK.1) (by decide)) c⟩
      refine gT_n 2 ?_
      exact ⟨rfl, Or.inr ⟨rfl, κ1⟩⟩
    · refine gT_n 2 ?_
      exact ⟨rfl, Or.inl ⟨0, (show 0 < 1 by decide), rfl, κ1, Eq.symm (rfl), κ1, Or.inl rfl⟩⟩
  · refine gT_n 8 ?_
    refine ⟨rfl, rfl, (pk_in 3 4 (by decide) rfl), fun c => absurd c (kpT (p := fun z : Int32 => ¬ (z ≤ 0)) (show _ = (2 : Int32) from hK.1) (by decide)), fun _ => ?_⟩
    refine gT_n 10 ?_
    refine ⟨rfl, rfl, (pk_in 9 12 (by decide) rfl), px_ne (X := a1) (Y := k) ((hK.2.1 (show 0 < 2 by decide)).1) (rfl) (fun κ1 => ?_) (fun κ1 => ?_)⟩
    · refine gT_n 8 ?_
      refine ⟨rfl, rfl, (pk_in 3 4 (by decide) rfl), fun c => absurd c (kpT (p := fun z : Int32 => ¬ (z ≤ 1)) (show _ = (2 : Int32) from hK.1) (by decide)), fun _ => ?_⟩
      refine gT_n 10 ?_
      refine ⟨rfl, rfl, (pk_in 10 12 (by decide) rfl), px_ne (X := b1) (Y := k) ((hK.2.2.1 (show 1 < 2 by decide)).1) (rfl) (fun κ2 => ?_) (fun κ2 => ?_)⟩
      · refine gT_n 8 ?_
        refine ⟨rfl, rfl, (pk_in 3 4 (by decide) rfl), fun _ => ?_, fun c => absurd (kpT (p := fun z : Int32 => z ≤ 2) (show _ = (2 : Int32) from hK.1) (by decide)) c⟩
        refine gT_n 2 ?_
        exact ⟨rfl, Or.inr ⟨rfl, (fun z => Or.elim z κ1 κ2)⟩⟩
      · refine gT_n 2 ?_
        exact ⟨rfl, Or.inl ⟨1, (show 1 < 2 by decide), rfl, (Or.inr (κ2)), Eq.symm (if_neg κ1), κ2, Or.inr κ1⟩⟩
    · refine gT_n 2 ?_
      exact ⟨rfl, Or.inl ⟨0, (show 0 < 2 by decide), rfl, (Or.inl κ1), Eq.symm (if_pos κ1), κ1, Or.inl rfl⟩⟩
  · refine gT_n 8 ?_
    refine ⟨rfl, rfl, (pk_in 3 4 (by decide) rfl), fun c => absurd c (kpT (p := fun z : Int32 => ¬ (z ≤ 0)) (show _ = (3 : Int32) from hK.1) (by decide)), fun _ => ?_⟩
    refine gT_n 10 ?_
    refine ⟨rfl, rfl, (pk_in 9 12 (by decide) rfl), px_ne (X := a1) (Y := k) ((hK.2.1 (show 0 < 3 by decide)).1) (rfl) (fun κ1 => ?_) (fun κ1 => ?_)⟩
    · refine gT_n 8 ?_
      refine ⟨rfl, rfl, (pk_in 3 4 (by decide) rfl), fun c => absurd c (kpT (p := fun z : Int32 => ¬ (z ≤ 1)) (show _ = (3 : Int32) from hK.1) (by decide)), fun _ => ?_⟩
      refine gT_n 10 ?_
      refine ⟨rfl, rfl, (pk_in 10 12 (by decide) rfl), px_ne (X := b1) (Y := k) ((hK.2.2.1 (show 1 < 3 by decide)).1) (rfl) (fun κ2 => ?_) (fun κ2 => ?_)⟩
      · refine gT_n 8 ?_
        refine ⟨rfl, rfl, (pk_in 3 4 (by decide) rfl), fun c => absurd c (kpT (p := fun z : Int32 => ¬ (z ≤ 2)) (show _ = (3 : Int32) from hK.1) (by decide)), fun _ => ?_⟩
        refine gT_n 10 ?_
        refine ⟨rfl, rfl, (pk_in 11 12 (by decide) rfl), px_ne (X := c1) (Y := k) ((hK.2.2.2 (show 2 < 3 by decide)).1) (rfl) (fun κ3 => ?_) (fun κ3 => ?_)⟩
        · refine gT_n 8 ?_
          refine ⟨rfl, rfl, (pk_in 3 4 (by decide) rfl), fun _ => ?_, fun c => absurd (kpT (p := fun z : Int32 => z ≤ 3) (show _ = (3 : Int32) from hK.1) (by decide)) c⟩
          refine gT_n 2 ?_
          exact ⟨rfl, Or.inr ⟨rfl, (fun z => Or.elim z κ1 (fun z => Or.elim z κ2 κ3))⟩⟩
        · refine gT_n 2 ?_
          exact ⟨rfl, Or.inl ⟨2, (show 2 < 3 by decide), rfl, (Or.inr (Or.inr (κ3))), Eq.symm (Eq.trans (if_neg κ1) (if_neg κ2)), κ3, Or.inr κ1⟩⟩
      · refine gT_n 2 ?_
        exact ⟨rfl, Or.inl ⟨1, (show 1 < 3 by decide), rfl, (Or.inr (Or.inl κ2)), Eq.symm (Eq.trans (if_neg κ1) (if_pos κ2)), κ2, Or.inr κ1⟩⟩
    · refine gT_n 2 ?_
      exact ⟨rfl, Or.inl ⟨0, (show 0 < 3 by decide), rfl, (Or.inl κ1), Eq.symm (if_pos κ1), κ1, Or.inl rfl⟩⟩
theorem m_dAt0 {d : Nat} {k : Int32} {l : zK} {I : Nat → Nat → Int32} {J : Nat → Nat → Int64} {P : Nat → Nat} (hl : l.length ≤ 2) (hK : mQ2 (I 183 0) (I 181 0) (I 181 1) (I 182 0) (I 182 1) l) : gTM d 263 [.ref 171, .int 0, .int k] (gST I J P) (kAt l k (gST I J P)) := by
  rcases zK2 hl with rfl | ⟨a1, a2, rfl⟩ | ⟨a1, a2, b1, b2, rfl⟩
  · refine gT_n 8 ?_
    refine ⟨rfl, rfl, (pk_in 0 4 (by decide) rfl), fun _ => ?_, fun c => absurd (kpT (p := fun z : Int32 => z ≤ 0) (show _ = (0 : Int32) from hK.1) (by decide)) c⟩
    refine gT_n 2 ?_
    exact ⟨rfl, Or.inr ⟨rfl, id⟩⟩
  · refine gT_n 8 ?_
    refine ⟨rfl, rfl, (pk_in 0 4 (by decide) rfl), fun c => absurd c (kpT (p := fun z : Int32 => ¬ (z ≤ 0)) (show _ = (1 : Int32) from hK.1) (by decide)), fun _ => ?_⟩
    refine gT_n 10 ?_
    refine ⟨rfl, rfl, (pk_in 0 8 (by decide) rfl), px_ne (X := a1) (Y := k) ((hK.2.1 (show 0 < 1 by decide)).1) (rfl) (fun κ1 => ?_) (fun κ1 => ?_)⟩
    · refine gT_n 8 ?_
      refine ⟨rfl, rfl, (pk_in 0 4 (by decide) rfl), fun _ => ?_, fun c => absurd (kpT (p := fun z : Int32 => z ≤ 1) (show _ = (1 : Int32) from hK.1) (by decide)) c⟩
      refine gT_n 2 ?_
      exact ⟨rfl, Or.inr ⟨rfl, κ1⟩⟩
    · refine gT_n 2 ?_
      exact ⟨rfl, Or.inl ⟨0, (show 0 < 1 by decide), rfl, κ1, Eq.symm (rfl), κ1, Or.inl rfl⟩⟩
  · refine gT_n 8 ?_
    refine ⟨rfl, rfl, (pk_in 0 4 (by decide) rfl), fun c => absurd c (kpT (p := fun z : Int32 => ¬ (z ≤ 0)) (show _ = (2 : Int32) from hK.1) (by decide)), fun _ => ?_⟩
    refine gT_n 10 ?_
    refine ⟨rfl, rfl, (pk_in 0 8 (by decide) rfl), px_ne (X := a1) (Y := k) ((hK.2.1 (show 0 < 2 by decide)).1) (rfl) (fun κ1 => ?_) (fun κ1 => ?_)⟩
    · refine gT_n 8 ?_
      refine ⟨rfl, rfl, (pk_in 0 4 (by decide) rfl), fun c => absurd c (kpT (p := fun z : Int32 => ¬ (z ≤ 1)) (show _ = (2 : Int32) from hK.1) (by decide)), fun _ => ?_⟩
      refine gT_n 10 ?_
      refine ⟨rfl, rfl, (pk_in 1 8 (by decide) rfl), px_ne (X := b1) (Y := k) ((hK.2.2 (show 1 < 2 by decide)).1) (rfl) (fun κ2 => ?_) (fun κ2 => ?_)⟩
      · refine gT_n 8 ?_
        refine ⟨rfl, rfl, (pk_in 0 4 (by decide) rfl), fun _ => ?_, fun c => absurd (kpT (p := fun z : Int32 => z ≤ 2) (show _ = (2 : Int32) from hK.1) (by decide)) c⟩
        refine gT_n 2 ?_
        exact ⟨rfl, Or.inr ⟨rfl, (fun z => Or.elim z κ1 κ2)⟩⟩
      · refine gT_n 2 ?_
        exact ⟨rfl, Or.inl ⟨1, (show 1 < 2 by decide), rfl, (Or.inr (κ2)), Eq.symm (if_neg κ1), κ2, Or.inr κ1⟩⟩
    · refine gT_n 2 ?_
      exact ⟨rfl, Or.inl ⟨0, (show 0 < 2 by decide), rfl, (Or.inl κ1), Eq.symm (if_pos κ1), κ1, Or.inl rfl⟩⟩
theorem m_dAt1 {d : Nat} {k : Int32} {l : zK} {I : Nat → Nat → Int32} {J : Nat → Nat → Int64} {P : Nat → Nat} (hl : l.length ≤ 2) (hK : mQ2 (I 183 1) (I 181 2) (I 181 3) (I 182 2) (I 182 3) l) : gTM d 263 [.ref 171, .int 1, .int k] (gST I J P) (kAt l k (gST I J P)) := by
  rcases zK2 hl with rfl | ⟨a1, a2, rfl⟩ | ⟨a1, a2, b1, b2, rfl⟩
  · refine gT_n 8 ?_
    refine ⟨rfl, rfl, (pk_in 1 4 (by decide) rfl), fun _ => ?_, fun c => absurd (kpT (p := fun z : Int32 => z ≤ 0) (show _ = (0 : Int32) from hK.1) (by decide)) c⟩
    refine gT_n 2 ?_
    exact ⟨rfl, Or.inr ⟨rfl, id⟩⟩
  · refine gT_n 8 ?_
    refine ⟨rfl, rfl, (pk_in 1 4 (by decide) rfl), fun c => absurd c (kpT (p := fun z : Int32 => ¬ (z ≤ 0)) (show _ = (1 : Int32) from hK.1) (by decide)), fun _ => ?_⟩
    refine gT_n 10 ?_
    refine ⟨rfl, rfl, (pk_in 2 8 (by decide) rfl), px_ne (X := a1) (Y := k) ((hK.2.1 (show 0 < 1 by decide)).1) (rfl) (fun κ1 => ?_) (fun κ1 => ?_)⟩
    · refine gT_n 8 ?_
      refine ⟨rfl, rfl, (pk_in 1 4 (by decide) rfl), fun _ => ?_, fun c => absurd (kpT (p := fun z : Int32 => z ≤ 1) (show _ = (1 : Int32) from hK.1) (by decide)) c⟩
      refine gT_n 2 ?_
      exact ⟨rfl, Or.inr ⟨rfl, κ1⟩⟩
    · refine gT_n 2 ?_
      exact ⟨rfl, Or.inl ⟨0, (show 0 < 1 by decide), rfl, κ1, Eq.symm (rfl), κ1, Or.inl rfl⟩⟩
  · refine gT_n 8 ?_
    refine ⟨rfl, rfl, (pk_in 1 4 (by decide) rfl), fun c => absurd c (kpT (p := fun z : Int32 => ¬ (z ≤ 0)) (show _ = (2 : Int32) from hK.1) (by decide)), fun _ => ?_⟩
    refine gT_n 10 ?_
    refine ⟨rfl, rfl, (pk_in 2 8 (by decide) rfl), px_ne (X := a1) (Y := k) ((hK.2.1 (show 0 < 2 by decide)).1) (rfl) (fun κ1 => ?_) (fun κ1 => ?_)⟩
    · refine gT_n 8 ?_
      refine ⟨rfl, rfl, (pk_in 1 4 (by decide) rfl), fun c => absurd c (kpT (p := fun z : Int32 => ¬ (z ≤ 1)) (show _ = (2 : Int32) from hK.1) (by decide)), fun _ => ?_⟩
      refine gT_n 10 ?_
      refine ⟨rfl, rfl, (pk_in 3 8 (by decide) rfl), px_ne (X := b1) (Y := k) ((hK.2.2 (show 1 < 2 by decide)).1) (rfl) (fun κ2 => ?_) (fun κ2 => ?_)⟩
      · refine gT_n 8 ?_
        refine ⟨rfl, rfl, (pk_in 1 4 (by decide) rfl), fun _ => ?_, fun c => absurd (kpT (p := fun z : Int32 => z ≤ 2) (show _ = (2 : Int32) from hK.1) (by decide)) c⟩
        refine gT_n 2 ?_
        exact ⟨rfl, Or.inr ⟨rfl, (fun z => Or.elim z κ1 κ2)⟩⟩
      · refine gT_n 2 ?_
        exact ⟨rfl, Or.inl ⟨1, (show 1 < 2 by decide), rfl, (Or.inr (κ2)), Eq.symm (if_neg κ1), κ2, Or.inr κ1⟩⟩
    · refine gT_n 2 ?_
      exact ⟨rfl, Or.inl ⟨0, (show 0 < 2 by decide), rfl, (Or.inl κ1), Eq.symm (if_pos κ1), κ1, Or.inl rfl⟩⟩
theorem m_dAt2 {d : Nat} {k : Int32} {l : zK} {I : Nat → Nat → Int32} {J : Nat → Nat → Int64} {P : Nat → Nat} (hl : l.length ≤ 2) (hK : mQ2 (I 183 2) (I 181 4) (I 181 5) (I 182 4) (I 182 5) l) : gTM d 263 [.ref 171, .int 2, .int k] (gST I J P) (kAt l k (gST I J P)) := by
  rcases zK2 hl with rfl | ⟨a1, a2, rfl⟩ | ⟨a1, a2, b1, b2, rfl⟩
  · refine gT_n 8 ?_
    refine ⟨rfl, rfl, (pk_in 2 4 (by decide) rfl), fun _ => ?_, fun c => absurd (kpT (p := fun z : Int32 => z ≤ 0) (show _ = (0 : Int32) from hK.1) (by decide)) c⟩
    refine gT_n 2 ?_
    exact ⟨rfl, Or.inr ⟨rfl, id⟩⟩
  · refine gT_n 8 ?_
    refine ⟨rfl, rfl, (pk_in 2 4 (by decide) rfl), fun c => absurd c (kpT (p := fun z : Int32 => ¬ (z ≤ 0)) (show _ = (1 : Int32) from hK.1) (by decide)), fun _ => ?_⟩
    refine gT_n 10 ?_
    refine ⟨rfl, rfl, (pk_in 4 8 (by decide) rfl), px_ne (X := a1) (Y := k) ((hK.2.1 (show 0 < 1 by decide)).1) (rfl) (fun κ1 => ?_) (fun κ1 => ?_)⟩
    · refine gT_n 8 ?_
      refine ⟨rfl, rfl, (pk_in 2 4 (by decide) rfl), fun _ => ?_, fun c => absurd (kpT (p := fun z : Int32 => z ≤ 1) (show _ = (1 : Int32) from hK.1) (by decide)) c⟩
      refine gT_n 2 ?_
      exact ⟨rfl, Or.inr ⟨rfl, κ1⟩⟩
    · refine gT_n 2 ?_
      exact ⟨rfl, Or.inl ⟨0, (show 0 < 1 by decide), rfl, κ1, Eq.symm (rfl), κ1, Or.inl rfl⟩⟩
  · refine gT_n 8 ?_
    refine ⟨rfl, rfl, (pk_in 2 4 (by decide) rfl), fun c => absurd c (kpT (p := fun z : Int32 => ¬ (z ≤ 0)) (show _ = (2 : Int32) from hK.1) (by decide)), fun _ => ?_⟩
    refine gT_n 10 ?_
    refine ⟨rfl, rfl, (pk_in 4 8 (by decide) rfl), px_ne (X := a1) (Y := k) ((hK.2.1 (show 0 < 2 by decide)).1) (rfl) (fun κ1 => ?_) (fun κ1 => ?_)⟩
    · refine gT_n 8 ?_
      refine ⟨rfl, rfl, (pk_in 2 4 (by decide) rfl), fun c => absurd c (kpT (p := fun z : Int32 => ¬ (z ≤ 1)) (show _ = (2 : Int32) from hK.1) (by decide)), fun _ => ?_⟩
      refine gT_n 10 ?_
      refine ⟨rfl, rfl, (pk_in 5 8 (by decide) rfl), px_ne (X := b1) (Y := k) ((hK.2.2 (show 1 < 2 by decide)).1) (rfl) (fun κ2 => ?_) (fun κ2 => ?_)⟩
      · refine gT_n 8 ?_
        refine ⟨rfl, rfl, (pk_in 2 4 (by decide) rfl), fun _ => ?_, fun c => absurd (kpT (p := fun z : Int32 => z ≤ 2) (show _ = (2 : Int32) from hK.1) (by decide)) c⟩
        refine gT_n 2 ?_
        exact ⟨rfl, Or.inr ⟨rfl, (fun z => Or.elim z κ1 κ2)⟩⟩
      · refine gT_n 2 ?_
        exact ⟨rfl, Or.inl ⟨1, (show 1 < 2 by decide), rfl, (Or.inr (κ2)), Eq.symm (if_neg κ1), κ2, Or.inr κ1⟩⟩
    · refine gT_n 2 ?_
      exact ⟨rfl, Or.inl ⟨0, (show 0 < 2 by decide), rfl, (Or.inl κ1), Eq.symm (if_pos κ1), κ1, Or.inl rfl⟩⟩
theorem m_dAt3 {d : Nat} {k : Int32} {l : zK} {I : Nat → Nat → Int32} {J : Nat → Nat → Int64} {P : Nat → Nat} (hl : l.length ≤ 2) (hK : mQ2 (I 183 3) (I 181 6) (I 181 7) (I 182 6) (I 182 7) l) : gTM d 263 [.ref 171, .int 3, .int k] (gST I J P) (kAt l k (gST I J P)) := by
  rcases zK2 hl with rfl | ⟨a1, a2, rfl⟩ | ⟨a1, a2, b1, b2, rfl⟩
  · refine gT_n 8 ?_
    refine ⟨rfl, rfl, (pk_in 3 4 (by decide) rfl), fun _ => ?_, fun c => absurd (kpT (p := fun z : Int32 => z ≤ 0) (show _ = (0 : Int32) from hK.1) (by decide)) c⟩
    refine gT_n 2 ?_
    exact ⟨rfl, Or.inr ⟨rfl, id⟩⟩
  · refine gT_n 8 ?_
    refine ⟨rfl, rfl, (pk_in 3 4 (by decide) rfl), fun c => absurd c (kpT (p := fun z : Int32 => ¬ (z ≤ 0)) (show _ = (1 : Int32) from hK.1) (by decide)), fun _ => ?_⟩
    refine gT_n 10 ?_
    refine ⟨rfl, rfl, (pk_in 6 8 (by decide) rfl), px_ne (X := a1) (Y := k) ((hK.2.1 (show 0 < 1 by decide)).1) (rfl) (fun κ1 => ?_) (fun κ1 => ?_)⟩
    · refine gT_n 8 ?_
      refine ⟨rfl, rfl, (pk_in 3 4 (by decide) rfl), fun _ => ?_, fun c => absurd (kpT (p := fun z : Int32 => z ≤ 1) (show _ = (1 : Int32) from hK.1) (by decide)) c⟩
      refine gT_n 2 ?_
      exact ⟨rfl, Or.inr ⟨rfl, κ1⟩⟩
    · refine gT_n 2 ?_
      exact ⟨rfl, Or.inl ⟨0, (show 0 < 1 by decide), rfl, κ1, Eq.symm (rfl), κ1, Or.inl rfl⟩⟩
  · refine gT_n 8 ?_
    refine ⟨rfl, rfl, (pk_in 3 4 (by decide) rfl), fun c => absurd c (kpT (p := fun z : Int32 => ¬ (z ≤ 0)) (show _ = (2 : Int32) from hK.1) (by decide)), fun _ => ?_⟩
    refine gT_n 10 ?_
    refine ⟨rfl, rfl, (pk_in 6 8 (by decide) rfl), px_ne (X := a1) (Y := k) ((hK.2.1 (show 0 < 2 by decide)).1) (rfl) (fun κ1 => ?_) (fun κ1 => ?_)⟩
    · refine gT_n 8 ?_
      refine ⟨rfl, rfl, (pk_in 3 4 (by decide) rfl), fun c => absurd c (kpT (p := fun z : Int32 => ¬ (z ≤ 1)) (show _ = (2 : Int32) from hK.1) (by decide)), fun _ => ?_⟩
      refine gT_n 10 ?_
      refine ⟨rfl, rfl, (pk_in 7 8 (by decide) rfl), px_ne (X := b1) (Y := k) ((hK.2.2 (show 1 < 2 by decide)).1) (rfl) (fun κ2 => ?_) (fun κ2 => ?_)⟩
      · refine gT_n 8 ?_
        refine ⟨rfl, rfl, (pk_in 3 4 (by decide) rfl), fun _ => ?_, fun c => absurd (kpT (p := fun z : Int32 => z ≤ 2) (show _ = (2 : Int32) from hK.1) (by decide)) c⟩
        refine gT_n 2 ?_
        exact ⟨rfl, Or.inr ⟨rfl, (fun z => Or.elim z κ1 κ2)⟩⟩
      · refine gT_n 2 ?_
        exact ⟨rfl, Or.inl ⟨1, (show 1 < 2 by decide), rfl, (Or.inr (κ2)), Eq.symm (if_neg κ1), κ2, Or.inr κ1⟩⟩
    · refine gT_n 2 ?_
      exact ⟨rfl, Or.inl ⟨0, (show 0 < 2 by decide), rfl, (Or.inl κ1), Eq.symm (if_pos κ1), κ1, Or.inl rfl⟩⟩
