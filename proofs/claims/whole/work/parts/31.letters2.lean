/-! NAMES, more: booleans in one form, labels of letters, letters of labels, the map to the reference's names -/
def gB (w : gW) (p : Prop) : Option Value → gW → Prop := fun r u => u = w ∧ ((r = some (.int 1) ∧ p) ∨ (r = some (.int 0) ∧ ¬ p))
theorem gB_of {d y : Nat} {As : List Value} {w : gW} {p : Prop} (h : gTM d y As w (fun r u => u = w ∧ ∃ x : Int32, r = some (.int x) ∧ ((x = 1 ∧ p) ∨ (x = 0 ∧ ¬ p)))) : gTM d y As w (gB w p) := by
  refine gTM.use h (Nat.le_refl _) (fun r u hq => ?_)
  obtain ⟨rfl, x, rfl, ⟨rfl, hp⟩ | ⟨rfl, hp⟩⟩ := hq
  · exact ⟨rfl, Or.inl ⟨rfl, hp⟩⟩
  · exact ⟨rfl, Or.inr ⟨rfl, hp⟩⟩
theorem gB_iff {d y : Nat} {As : List Value} {w : gW} {p q : Prop} (h : gTM d y As w (gB w p)) (e : p ↔ q) : gTM d y As w (gB w q) := by
  have : p = q := propext e
  rw [← this]; exact h
def isL (a : Int32) : Prop := 1 ≤ a ∧ a ≤ 26
theorem c_isLetterB {d : Nat} {a : Int32} {w : gW} : gTM d 35 [.int a] w (gB w (isL a)) := gB_of c_isLetter
theorem m_inB {d : Nat} {v a b : Int64} {w : gW} : gTM d 156 [.long v, .long a, .long b] w (gB w (a ≤ v ∧ v ≤ b)) := gB_of m_in
/-- in of ints -/
theorem m_inI {d : Nat} {v : Int32} {a b : Int64} {x z : Int32} {w : gW} (ha : x.toInt64 = a) (hb : z.toInt64 = b) : gTM d 156 [.long v.toInt64, .long a, .long b] w (gB w (x ≤ v ∧ v ≤ z)) := by
  refine gB_iff m_inB ?_
  rw [← ha, ← hb, fa_wide_le, fa_wide_le]
theorem c_isAboveB {d a n : Nat} {w : gW} (ha : a < 2 ^ 60) (hn : n < 2 ^ 60) : gTM (d + 2) 33 [.long (lN a), .long (lN n)] w (gB w (nabv a n)) := gB_of (c_isAbove ha hn)
def okL (a b c : Int32) : Prop := (a = 27 ∧ b = 0 ∧ c = 0) ∨ (¬ a = 27 ∧ isL a ∧ (b = 0 ∨ isL b) ∧ (c = 0 ∨ isL c) ∧ (b = 0 → c = 0))
theorem m_inL {d : Nat} {v : Int32} {w : gW} : gTM d 156 [.long v.toInt64, .long 1, .long 26] w (gB w (isL v)) := m_inI (x := 1) (z := 26) rfl rfl
theorem m_in0L {d : Nat} {v : Int32} {w : gW} : gTM d 156 [.long v.toInt64, .long 0, .long 26] w (gB w (v = 0 ∨ isL v)) := by
  refine gB_iff (m_inI (x := 0) (z := 26) rfl rfl) ?_
  unfold isL
  rw [fa_le, fa_le, fa_le, fa_eq]
  have h0 : (0 : Int32).toInt = 0 := rfl
  have h1 : (1 : Int32).toInt = 1 := rfl
  have h2 : (26 : Int32).toInt = 26 := rfl
  rw [h0, h1, h2]
  omega
theorem m_in00 {d : Nat} {v : Int32} {w : gW} : gTM d 156 [.long v.toInt64, .long 0, .long 0] w (gB w (v = 0)) := by
  refine gB_iff (m_inI (x := 0) (z := 0) rfl rfl) ?_
  rw [fa_le, fa_le, fa_eq]
  omega
/-- Names.labelOf -/
theorem c_labelOf0 {d : Nat} {a b c : Int32} {w : gW} : gTM (d + 1) 34 [.int a, .int b, .int c] w (fun r u => u = w ∧ ((r = some (.int (if a = 27 then 1 else ((a <<< (10 &&& 31)) ||| (b <<< (5 &&& 31))) ||| c)) ∧ okL a b c) ∨ (r = some (.int 0) ∧ ¬ okL a b c))) := by
  refine gT_n 3 ?_
  refine ⟨fun c1 => ?_, fun c1 => ?_⟩
  · refine gT_n 2 ?_
    refine ⟨fun c2 => ?_, fun c2 => ?_⟩
    · refine gT_n 5 ?_
      refine ⟨rfl, gTM.use (c_isLetterB (a := a)) (Nat.le_refl _) (fun r u hq => ?_)⟩
      obtain ⟨rfl, ⟨rfl, b3⟩ | ⟨rfl, b3⟩⟩ := hq  -- X3_isLetter[a]
      · refine gT_n 1 ?_
        refine ⟨fun c => absurd c (by decide), fun _ => ?_⟩
        refine gT_n 2 ?_
        refine ⟨fun c => absurd c (by decide), fun _ => ?_⟩
        refine gT_n 2 ?_
        refine ⟨fun c4 => ?_, fun c4 => ?_⟩
        · refine gT_n 2 ?_
          refine ⟨fun c5 => ?_, fun c5 => ?_⟩
          · refine gT_n 10 ?_
            exact ⟨rfl, Or.inl ⟨by simp_all, by simp_all [okL]⟩⟩
          · refine gT_n 2 ?_
            refine ⟨rfl, gTM.use (c_isLetterB (a := c)) (Nat.le_refl _) (fun r u hq => ?_)⟩
            obtain ⟨rfl, ⟨rfl, b6⟩ | ⟨rfl, b6⟩⟩ := hq  -- X3_isLetter[c]
            · refine gT_n 1 ?_
              refine ⟨fun _ => ?_, fun c => absurd c (by decide)⟩
              refine gT_n 10 ?_
              exact ⟨rfl, Or.inl ⟨by simp_all, by simp_all [okL]⟩⟩
            · refine gT_n 1 ?_
              refine ⟨fun c => absurd (by decide) c, fun _ => ?_⟩
              refine gT_n 2 ?_
              exact ⟨rfl, Or.inr ⟨rfl, by simp_all [okL]⟩⟩
        · refine gT_n 2 ?_
          refine ⟨rfl, gTM.use (c_isLetterB (a := b)) (Nat.le_refl _) (fun r u hq => ?_)⟩
          obtain ⟨rfl, ⟨rfl, b7⟩ | ⟨rfl, b7⟩⟩ := hq  -- X3_isLetter[b]
          · refine gT_n 1 ?_
            refine ⟨fun c => absurd c (by decide), fun _ => ?_⟩
            refine gT_n 2 ?_
            refine ⟨fun c8 => ?_, fun c8 => ?_⟩
            · refine gT_n 10 ?_
              exact ⟨rfl, Or.inl ⟨by simp_all, by simp_all [okL]⟩⟩
            · refine gT_n 2 ?_
              refine ⟨rfl, gTM.use (c_isLetterB (a := c)) (Nat.le_refl _) (fun r u hq => ?_)⟩
              obtain ⟨rfl, ⟨rfl, b9⟩ | ⟨rfl, b9⟩⟩ := hq  -- X3_isLetter[c]
              · refine gT_n 1 ?_
                refine ⟨fun _ => ?_, fun c => absurd c (by decide)⟩
                refine gT_n 10 ?_
                exact ⟨rfl, Or.inl ⟨by simp_all, by simp_all [okL]⟩⟩
              · refine gT_n 1 ?_
                refine ⟨fun c => absurd (by decide) c, fun _ => ?_⟩
                refine gT_n 2 ?_
                exact ⟨rfl, Or.inr ⟨rfl, by simp_all [okL]⟩⟩
          · refine gT_n 1 ?_
            refine ⟨fun _ => ?_, fun c => absurd (by decide) c⟩
            refine gT_n 2 ?_
            exact ⟨rfl, Or.inr ⟨rfl, by simp_all [okL]⟩⟩
      · refine gT_n 1 ?_
        refine ⟨fun _ => ?_, fun c => absurd (by decide) c⟩
        refine gT_n 2 ?_
        exact ⟨rfl, Or.inr ⟨rfl, by simp_all [okL]⟩⟩
    · refine gT_n 2 ?_
      refine ⟨fun c10 => ?_, fun c10 => ?_⟩
      · refine gT_n 4 ?_
        refine ⟨rfl, gTM.use (c_isLetterB (a := a)) (Nat.le_refl _) (fun r u hq => ?_)⟩
        obtain ⟨rfl, ⟨rfl, b11⟩ | ⟨rfl, b11⟩⟩ := hq  -- X3_isLetter[a]
        · refine gT_n 1 ?_
          refine ⟨fun c => absurd c (by decide), fun _ => ?_⟩
          refine gT_n 2 ?_
          refine ⟨fun _ => ?_, fun c => absurd (by decide) c⟩
          refine gT_n 2 ?_
          exact ⟨rfl, Or.inr ⟨rfl, by simp_all [okL]⟩⟩
        · refine gT_n 1 ?_
          refine ⟨fun _ => ?_, fun c => absurd (by decide) c⟩
          refine gT_n 2 ?_
          exact ⟨rfl, Or.inr ⟨rfl, by simp_all [okL]⟩⟩
      · refine gT_n 5 ?_
        refine ⟨rfl, gTM.use (c_isLetterB (a := a)) (Nat.le_refl _) (fun r u hq => ?_)⟩
        obtain ⟨rfl, ⟨rfl, b12⟩ | ⟨rfl, b12⟩⟩ := hq  -- X3_isLetter[a]
        · refine gT_n 1 ?_
          refine ⟨fun c => absurd c (by decide), fun _ => ?_⟩
          refine gT_n 2 ?_
          refine ⟨fun c => absurd c (by decide), fun _ => ?_⟩
          refine gT_n 2 ?_
          refine ⟨fun c13 => ?_, fun c13 => ?_⟩
          · refine gT_n 2 ?_
            refine ⟨fun c14 => ?_, fun c14 => ?_⟩
            · refine gT_n 10 ?_
              exact ⟨rfl, Or.inl ⟨by simp_all, by simp_all [okL]⟩⟩
            · refine gT_n 2 ?_
              refine ⟨rfl, gTM.use (c_isLetterB (a := c)) (Nat.le_refl _) (fun r u hq => ?_)⟩
              obtain ⟨rfl, ⟨rfl, b15⟩ | ⟨rfl, b15⟩⟩ := hq  -- X3_isLetter[c]
              · refine gT_n 1 ?_
                refine ⟨fun _ => ?_, fun c => absurd c (by decide)⟩
                refine gT_n 10 ?_
                exact ⟨rfl, Or.inl ⟨by simp_all, by simp_all [okL]⟩⟩
              · refine gT_n 1 ?_
                refine ⟨fun c => absurd (by decide) c, fun _ => ?_⟩
                refine gT_n 2 ?_
                exact ⟨rfl, Or.inr ⟨rfl, by simp_all [okL]⟩⟩
          · refine gT_n 2 ?_
            refine ⟨rfl, gTM.use (c_isLetterB (a := b)) (Nat.le_refl _) (fun r u hq => ?_)⟩
            obtain ⟨rfl, ⟨rfl, b16⟩ | ⟨rfl, b16⟩⟩ := hq  -- X3_isLetter[b]
            · refine gT_n 1 ?_
              refine ⟨fun c => absurd c (by decide), fun _ => ?_⟩
              refine gT_n 2 ?_
              refine ⟨fun c17 => ?_, fun c17 => ?_⟩
              · refine gT_n 10 ?_
                exact ⟨rfl, Or.inl ⟨by simp_all, by simp_all [okL]⟩⟩
              · refine gT_n 2 ?_
                refine ⟨rfl, gTM.use (c_isLetterB (a := c)) (Nat.le_refl _) (fun r u hq => ?_)⟩
                obtain ⟨rfl, ⟨rfl, b18⟩ | ⟨rfl, b18⟩⟩ := hq  -- X3_isLetter[c]
                · refine gT_n 1 ?_
                  refine ⟨fun _ => ?_, fun c => absurd c (by decide)⟩
                  refine gT_n 10 ?_
                  exact ⟨rfl, Or.inl ⟨by simp_all, by simp_all [okL]⟩⟩
                · refine gT_n 1 ?_
                  refine ⟨fun c => absurd (by decide) c, fun _ => ?_⟩
                  refine gT_n 2 ?_
                  exact ⟨rfl, Or.inr ⟨rfl, by simp_all [okL]⟩⟩
            · refine gT_n 1 ?_
              refine ⟨fun _ => ?_, fun c => absurd (by decide) c⟩
              refine gT_n 2 ?_
              exact ⟨rfl, Or.inr ⟨rfl, by simp_all [okL]⟩⟩
        · refine gT_n 1 ?_
          refine ⟨fun _ => ?_, fun c => absurd (by decide) c⟩
          refine gT_n 2 ?_
          exact ⟨rfl, Or.inr ⟨rfl, by simp_all [okL]⟩⟩
  · refine gT_n 2 ?_
    refine ⟨fun c19 => ?_, fun c19 => ?_⟩
    · refine gT_n 2 ?_
      exact ⟨rfl, Or.inr ⟨rfl, by simp_all [okL]⟩⟩
    · refine gT_n 2 ?_
      refine ⟨fun c20 => ?_, fun c20 => ?_⟩
      · refine gT_n 2 ?_
        exact ⟨rfl, Or.inr ⟨rfl, by simp_all [okL]⟩⟩
      · refine gT_n 3 ?_
        exact ⟨rfl, Or.inl ⟨by simp_all, by simp_all [okL]⟩⟩
/-- isLetters -/
theorem m_isLetters {d : Nat} {a b c : Int32} {w : gW} : gTM (d + 1) 199 [.int a, .int b, .int c] w (gB w (okL a b c)) := by
  refine gT_n 3 ?_
  refine ⟨fun c1 => ?_, fun c1 => ?_⟩
  · refine gT_n 5 ?_
    refine ⟨rfl, gTM.use (m_inL) (Nat.le_refl _) (fun r u hq => ?_)⟩
    obtain ⟨rfl, ⟨rfl, b2⟩ | ⟨rfl, b2⟩⟩ := hq  -- X12_in[i2l(a), lN 1, lN 26]
    · refine gT_n 1 ?_
      refine ⟨fun c => absurd c (by decide), fun _ => ?_⟩
      refine gT_n 5 ?_
      refine ⟨rfl, gTM.use (m_in0L) (Nat.le_refl _) (fun r u hq => ?_)⟩
      obtain ⟨rfl, ⟨rfl, b3⟩ | ⟨rfl, b3⟩⟩ := hq  -- X12_in[i2l(b), lN 0, lN 26]
      · refine gT_n 1 ?_
        refine ⟨fun c => absurd c (by decide), fun _ => ?_⟩
        refine gT_n 5 ?_
        refine ⟨fun c4 => ?_, fun c4 => ?_⟩
        · refine gT_n 2 ?_
          refine ⟨rfl, gTM.use (m_in0L) (Nat.le_refl _) (fun r u hq => ?_)⟩
          obtain ⟨rfl, ⟨rfl, b5⟩ | ⟨rfl, b5⟩⟩ := hq  -- X12_in[i2l(c), lN 0, lN 26]
          · refine gT_n 1 ?_
            refine ⟨fun c => absurd c (by decide), fun _ => ?_⟩
            refine gT_n 3 ?_
            refine ⟨(Or.inr rfl), ?_⟩
            exact ⟨rfl, Or.inl ⟨rfl, by simp_all [okL]⟩⟩
          · refine gT_n 1 ?_
            refine ⟨fun _ => ?_, fun c => absurd (by decide) c⟩
            refine gT_n 2 ?_
            refine ⟨(Or.inl rfl), ?_⟩
            exact ⟨rfl, Or.inr ⟨rfl, by simp_all [okL]⟩⟩
        · refine gT_n 3 ?_
          refine ⟨rfl, gTM.use (m_in00) (Nat.le_refl _) (fun r u hq => ?_)⟩
          obtain ⟨rfl, ⟨rfl, b6⟩ | ⟨rfl, b6⟩⟩ := hq  -- X12_in[i2l(c), lN 0, lN 0]
          · refine gT_n 1 ?_
            refine ⟨fun c => absurd c (by decide), fun _ => ?_⟩
            refine gT_n 3 ?_
            refine ⟨(Or.inr rfl), ?_⟩
            exact ⟨rfl, Or.inl ⟨rfl, by simp_all [okL]⟩⟩
          · refine gT_n 1 ?_
            refine ⟨fun _ => ?_, fun c => absurd (by decide) c⟩
            refine gT_n 2 ?_
            refine ⟨(Or.inl rfl), ?_⟩
            exact ⟨rfl, Or.inr ⟨rfl, by simp_all [okL]⟩⟩
      · refine gT_n 1 ?_
        refine ⟨fun _ => ?_, fun c => absurd (by decide) c⟩
        refine gT_n 2 ?_
        refine ⟨(Or.inl rfl), ?_⟩
        exact ⟨rfl, Or.inr ⟨rfl, by simp_all [okL]⟩⟩
    · refine gT_n 1 ?_
      refine ⟨fun _ => ?_, fun c => absurd (by decide) c⟩
      refine gT_n 2 ?_
      refine ⟨(Or.inl rfl), ?_⟩
      exact ⟨rfl, Or.inr ⟨rfl, by simp_all [okL]⟩⟩
  · refine gT_n 2 ?_
    refine ⟨fun c7 => ?_, fun c7 => ?_⟩
    · refine gT_n 3 ?_
      refine ⟨(Or.inl rfl), ?_⟩
      exact ⟨rfl, Or.inr ⟨rfl, by simp_all [okL]⟩⟩
    · refine gT_n 2 ?_
      refine ⟨fun c8 => ?_, fun c8 => ?_⟩
      · refine gT_n 3 ?_
        refine ⟨(Or.inl rfl), ?_⟩
        exact ⟨rfl, Or.inr ⟨rfl, by simp_all [okL]⟩⟩
      · refine gT_n 3 ?_
        refine ⟨(Or.inr rfl), ?_⟩
        exact ⟨rfl, Or.inl ⟨rfl, by simp_all [okL]⟩⟩
