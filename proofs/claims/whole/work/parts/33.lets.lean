/-! letters of labels; the reference's name methods over mapped names -/
def ltr (x k : Nat) : Nat := if x = 1 then (if k = 0 then 27 else 0) else if k = 0 then x / 1024 else if k = 1 then x / 32 % 32 else x % 32
theorem let_c {x k : Nat} (hx : x < 32768) (h1 : x ≠ 1) (hk : k < 3) : (nI x >>> ((5 : Int32) * (2 - nI k) &&& 31)) &&& 31 = nI (ltr x k) := by
  have key : ∀ (s : Int32) (m : Nat), (s.toBitVec.smod 32).toNat = m → (nI x >>> s) &&& 31 = nI (x / 2 ^ m % 2 ^ 5) := by
    intro s m hs
    rw [pk_shrN (by omega) s m hs]
    exact pk_andN (Nat.lt_of_le_of_lt (Nat.div_le_self _ _) (by omega)) 5 (by decide)
  unfold ltr
  rw [if_neg h1]
  match k, hk with
  | 0, _ => rw [key _ 10 (by decide)]; congr 1; rw [if_pos rfl]; omega
  | 1, _ => rw [key _ 5 (by decide)]; congr 1
  | 2, _ => rw [key _ 0 (by decide)]; congr 1; simp
  | k + 3, h => exact absurd h (by omega)
theorem c_letterAt {d x k : Nat} {w : gW} (hx : x < 32768) (hk : k < 3) : gTM d 36 [.int (nI x), .int (nI k)] w (fun r u => u = w ∧ r = some (.int (nI (ltr x k)))) := by
  refine gT_n 2 ?_
  refine pk_lt k 0 (fun c1 => ?_) (fun c1 => ?_) (rfl) (rfl) (by omega) (by omega)
  · refine gT_n 2 ?_
    exact ⟨rfl, ri (by unfold ltr; first | omega | (rw [if_pos c3, if_neg c4]; rfl))⟩
  · refine gT_n 3 ?_
    refine pk_lt k 3 (fun c2 => ?_) (fun c2 => ?_) (rfl) (rfl) (by omega) (by omega)
    · refine gT_n 3 ?_
      refine pk_ne x 1 (fun c3 => ?_) (fun c3 => ?_) (rfl) (rfl) (by omega) (by omega)
      · refine gT_n 10 ?_
        exact ⟨rfl, ri (let_c hx c3 hk)⟩
      · refine gT_n 2 ?_
        refine pk_ne k 0 (fun c4 => ?_) (fun c4 => ?_) (rfl) (rfl) (by omega) (by omega)
        · refine gT_n 2 ?_
          exact ⟨rfl, ri (by unfold ltr; first | omega | (rw [if_pos c3, if_neg c4]; rfl))⟩
        · refine gT_n 3 ?_
          exact ⟨rfl, ri (by unfold ltr; rw [if_pos c3, if_pos c4]; rfl)⟩
    · refine gT_n 2 ?_
      exact ⟨rfl, ri (by unfold ltr; first | omega | (rw [if_pos c3, if_neg c4]; rfl))⟩
theorem let_m {x k : Nat} (hx : vl x) (h1 : x ≠ 1) (hk : k < 3) : ltr x k = if k = 0 then ml x / 729 else if k = 1 then ml x / 27 % 27 else ml x % 27 := by
  unfold ltr
  rw [if_neg h1]
  rcases hx with hx | ⟨i, j, m, a1, a2, a3, a4, a5, rfl⟩
  · have : x = 0 := by omega
    subst this
    match k, hk with
    | 0, _ => rfl
    | 1, _ => rfl
    | 2, _ => rfl
    | k + 3, h => exact absurd h (by omega)
  · rw [ml_of a1 a3 a4]
    match k, hk with
    | 0, _ => rw [if_pos rfl, if_pos rfl]; omega
    | 1, _ => rw [if_neg (by omega), if_pos rfl, if_neg (by omega), if_pos rfl]; omega
    | 2, _ => rw [if_neg (by omega), if_neg (by omega), if_neg (by omega), if_neg (by omega)]; omega
    | k + 3, h => exact absurd h (by omega)
theorem ml_1 {x : Nat} (hx : vl x) : ml x = 1 ↔ x = 1 := ml_inj (y := 1) hx (Or.inl (by omega))
theorem m_letterOf {d x k : Nat} {w : gW} (hx : vl x) (hk : k < 3) : gTM d 164 [.int (nI (ml x)), .int (nI k)] w (fun r u => u = w ∧ r = some (.int (nI (ltr x k)))) := by
  have hb := ml_lt (vl_lt hx)
  have h1 := ml_1 hx
  have hm := let_m (k := k) hx
  refine gT_n 3 ?_
  refine pk_ne ((ml x)) 1 (fun c1 => ?_) (fun c1 => ?_) (rfl) (rfl) (by omega) (by omega)
  · refine gT_n 2 ?_
    refine pk_ne k 0 (fun c2 => ?_) (fun c2 => ?_) (rfl) (rfl) (by omega) (by omega)
    · refine gT_n 3 ?_
      refine pk_ne k 1 (fun c3 => ?_) (fun c3 => ?_) (rfl) (rfl) (by omega) (by omega)
      · refine gT_n 4 ?_
        refine ⟨(by decide), ?_⟩
        exact ⟨rfl, ri (by rw [hm (fun z => c1 (h1.mpr z)) hk, if_neg c2, if_neg c3]; exact pk_rem (d := 27) (by omega) (by decide) (by decide))⟩
      · refine gT_n 7 ?_
        refine ⟨(by decide), (by decide), ?_⟩
        exact ⟨rfl, ri (by rw [hm (fun z => c1 (h1.mpr z)) hk, if_neg c2, if_pos c3]; show nI (ml x) / nI 27 - nI (ml x) / nI 27 / nI 27 * nI 27 = _; rw [pk_div (by omega) (by decide) (by decide)]; exact pk_rem (d := 27) (Nat.lt_of_le_of_lt (Nat.div_le_self _ _) (by omega)) (by decide) (by decide))⟩
    · refine gT_n 5 ?_
      refine ⟨(by decide), ?_⟩
      exact ⟨rfl, ri (by rw [hm (fun z => c1 (h1.mpr z)) hk, if_pos c2]; exact pk_div (d := 729) (by omega) (by decide) (by decide))⟩
  · refine gT_n 2 ?_
    refine pk_ne k 0 (fun c4 => ?_) (fun c4 => ?_) (rfl) (rfl) (by omega) (by omega)
    · refine gT_n 2 ?_
      exact ⟨rfl, ri (by unfold ltr; rw [if_pos (h1.mp c1), if_neg c4]; rfl)⟩
    · refine gT_n 3 ?_
      exact ⟨rfl, ri (by unfold ltr; rw [if_pos (h1.mp c1), if_pos c4]; rfl)⟩
theorem n_labelOf {d n k : Nat} {w : gW} (hk : k < 4) : gTM (d + 1) 159 [.long (lN (mo n)), .int (nI k)] w (fun r u => u = w ∧ r = some (.int (nI (ml (lab n k))))) := by
  rw [← mo_labk n hk]
  exact m_labelOf (mo_lt60 n) hk
theorem n_labelsOf {d n : Nat} {w : gW} : gTM (d + 2) 160 [.long (lN (mo n))] w (fun r u => u = w ∧ r = some (.int (nI (cnt n)))) := by
  rw [← mo_cnt n]
  exact m_labelsOf (mo_lt60 n)
theorem n_firstOf {d n k : Nat} {w : gW} (hn : n < 2 ^ 60) (hk : k ≤ 4) : gTM (d + 2) 161 [.long (lN (mo n)), .int (nI k)] w (fun r u => u = w ∧ r = some (.long (lN (mo (nfst n k))))) := by
  rw [mo_fst hn hk]
  exact m_firstOf (mo_lt60 n) hk
theorem n_withLabel {d n x : Nat} {w : gW} (h : nwf n) (hc : cnt n < 4) (hx : x < 32768) : gTM (d + 3) 162 [.long (lN (mo n)), .int (nI (ml x))] w (fun r u => u = w ∧ r = some (.long (lN (mo (nlon n x))))) := by
  rw [mo_lon h hc hx]
  exact m_withLabel (mo_wf h) (by rw [mo_cnt]; exact hc) (ml_lt hx)
/-- whether a is above n, as the reference says it -/
def nab (a n : Nat) : Prop := cnt a < cnt n ∧ nfst n (cnt a) = a
theorem nab_v {a n : Nat} (ha : nwf a) (hn : nwf n) : nabv a n ↔ nab a n := by
  unfold nabv nab
  constructor
  · intro ⟨h1, h2⟩
    refine ⟨?_, h2⟩
    rcases Nat.lt_or_ge (cnt a) (cnt n) with z | z
    · exact z
    · exact absurd (by rw [← h2]; exact nfst_self hn z (cnt_le a)) h1
  · intro ⟨h1, h2⟩
    exact ⟨fun z => by rw [z] at h1; omega, h2⟩
theorem n_isAbove {d a n : Nat} {w : gW} (ha : vn a) (hn : vn n) : gTM (d + 3) 163 [.long (lN (mo a)), .long (lN (mo n))] w (gB w (nab a n)) := by
  have ba := cnt_le a
  have bn := cnt_le n
  have va := vn_fst hn ba
  refine gT_n 2 ?_
  refine ⟨rfl, gTM.use (n_labelsOf (n := a)) (Nat.le_refl _) (fun r u hq => ?_)⟩
  obtain ⟨rfl, rfl⟩ := hq  -- X12_labelsOf[lN a]
  refine gT_n 2 ?_
  refine ⟨rfl, gTM.use (n_labelsOf (n := n)) (Nat.le_refl _) (fun r u hq => ?_)⟩
  obtain ⟨rfl, rfl⟩ := hq  -- X12_labelsOf[lN n]
  refine gT_n 1 ?_
  refine pk_le ((cnt n)) ((cnt a)) (fun c1 => ?_) (fun c1 => ?_) (rfl) (rfl) (by omega) (by omega)
  · refine gT_n 2 ?_
    refine ⟨(Or.inl rfl), ?_⟩
    exact ⟨rfl, Or.inr ⟨rfl, fun z => by first | exact absurd z.1 (by omega) | exact c2 z.2⟩⟩
  · refine gT_n 3 ?_
    refine ⟨rfl, gTM.use (n_labelsOf (n := a)) (Nat.le_refl _) (fun r u hq => ?_)⟩
    obtain ⟨rfl, rfl⟩ := hq  -- X12_labelsOf[lN a]
    refine gT_n 1 ?_
    refine ⟨rfl, gTM.use (n_firstOf hn.lt ba) (Nat.le_refl _) (fun r u hq => ?_)⟩
    obtain ⟨rfl, rfl⟩ := hq  -- X12_firstOf[lN n, nI ((cnt a))]
    refine gT_n 3 ?_
    refine pm_ne ((nfst n (cnt a))) a (fun c2 => ?_) (fun c2 => ?_) (rfl) (rfl) (va) (ha)
    · refine gT_n 2 ?_
      refine ⟨(Or.inl rfl), ?_⟩
      exact ⟨rfl, Or.inr ⟨rfl, fun z => by first | exact absurd z.1 (by omega) | exact c2 z.2⟩⟩
    · refine gT_n 3 ?_
      refine ⟨(Or.inr rfl), ?_⟩
      exact ⟨rfl, Or.inl ⟨rfl, c1, c2⟩⟩
