/-! OWNERS: where they lie -/
theorem zo_pre {ap : Nat → Nat} {n : Nat} (h0 : ap 0 = 0) (hn : n < 2 ^ 60) : ∀ m, nfst n (cnt (ap (zo ap n m))) = ap (zo ap n m) ∧ ∀ y, y ≤ m → nfst n (cnt (ap y)) = ap y → cnt (ap y) ≤ cnt (ap (zo ap n m)) := by
  intro m
  induction m with
  | zero =>
    refine ⟨?_, fun y hy _ => ?_⟩
    · show nfst n (cnt (ap 0)) = ap 0
      rw [h0, cnt_0, nfst_0 hn]
    · have : y = 0 := by omega
      subst this; exact Nat.le_refl _
  | succ m ih =>
    by_cases c : cnt (ap (zo ap n m)) < cnt (ap (m + 1)) ∧ nfst n (cnt (ap (m + 1))) = ap (m + 1)
    · have e : zo ap n (m + 1) = m + 1 := zo_s (j := m + 1) (by omega) c
      rw [e]
      refine ⟨c.2, fun y hy h => ?_⟩
      by_cases q : y = m + 1
      · rw [q]; exact Nat.le_refl _
      · have := ih.2 y (by omega) h; omega
    · have e : zo ap n (m + 1) = zo ap n m := zo_n (j := m + 1) (by omega) c
      rw [e]
      refine ⟨ih.1, fun y hy h => ?_⟩
      by_cases q : y = m + 1
      · subst q
        have := fun z => c ⟨z, h⟩
        omega
      · exact ih.2 y (by omega) h
theorem zof_pre {t : zT} {n : Nat} (hz : zOK t) (hn : n < 2 ^ 60) : nfst n (cnt (t.2.1 (zof t n))) = t.2.1 (zof t n) := (zo_pre hz.2.2.1 hn _).1
theorem zof_max {t : zT} {n y : Nat} (hz : zOK t) (hn : n < 2 ^ 60) (hy : y < t.1) (h : nfst n (cnt (t.2.1 y)) = t.2.1 y) : cnt (t.2.1 y) ≤ cnt (t.2.1 (zof t n)) := (zo_pre hz.2.2.1 hn _).2 y (by omega) h
theorem zof_le {t : zT} {n : Nat} (hz : zOK t) (hn : n < 2 ^ 60) : t.2.1 (zof t n) ≤ n := by
  rw [← zof_pre hz hn]; exact nfst_le _ _
theorem zof_is {t : zT} {n y : Nat} (hz : zOK t) (hn : n < 2 ^ 60) (hy : y < t.1) (h : nfst n (cnt (t.2.1 y)) = t.2.1 y) (hm : cnt (t.2.1 (zof t n)) ≤ cnt (t.2.1 y)) : zof t n = y := by
  have e : cnt (t.2.1 (zof t n)) = cnt (t.2.1 y) := Nat.le_antisymm hm (zof_max hz hn hy h)
  refine hz.2.2.2.2.2 _ _ (zof_lt hz n) hy ?_
  rw [← zof_pre hz hn, e, h]
theorem zof_mid {t : zT} {n k : Nat} (hz : zOK t) (hn : vn n) (hk : cnt (t.2.1 (zof t n)) ≤ k) (hk2 : k ≤ cnt n) : zof t (nfst n k) = zof t n := by
  have h4 := cnt_le n
  have hw := hn.1
  have hf : vn (nfst n k) := vn_fst hn (by omega)
  have c1 : cnt (nfst n k) = k := by rw [nfst_cnt hw (by omega)]; omega
  refine zof_is hz hf.lt (zof_lt hz n) ?_ ?_
  · rw [nfst_fst hn.lt (by omega) (cnt_le _), Nat.min_eq_right hk]; exact zof_pre hz hn.lt
  · refine zof_max hz hn.lt (zof_lt hz _) ?_
    have e := zof_pre hz hf.lt
    have hc : cnt (t.2.1 (zof t (nfst n k))) ≤ k := by
      have q := congrArg cnt e
      rw [nfst_cnt hf.1 (cnt_le _), c1] at q
      omega
    rw [nfst_fst hn.lt (by omega) (cnt_le _), Nat.min_eq_right hc] at e
    exact e
theorem cnt_pos {n : Nat} (hn : vn n) (h : ¬ n = 0) : 0 < cnt n := by
  rcases Nat.eq_zero_or_pos (cnt n) with z | z
  · exfalso
    have := nfst_self hn.1 (k := 0) (by omega) (by omega)
    rw [nfst_0 hn.lt] at this
    exact h this.symm
  · exact z
theorem child_lt {t : zT} {c z : Nat} (hz : zOK t) (h1 : 1 ≤ c) (hc : c < t.1) (h : zpa t c = z) : t.2.1 z < t.2.1 c := by
  have hv := hz.2.2.2.2.1 c hc
  have h0 : ¬ t.2.1 c = 0 := fun e => by
    have := hz.2.2.2.2.2 c 0 hc (by omega) (e.trans hz.2.2.1.symm); omega
  have hp := cnt_pos hv h0
  have h4 := cnt_le (t.2.1 c)
  have hf : vn (nfst (t.2.1 c) (cnt (t.2.1 c) - 1)) := vn_fst hv (by omega)
  subst h
  have hle : t.2.1 (zpa t c) ≤ nfst (t.2.1 c) (cnt (t.2.1 c) - 1) := zof_le hz hf.lt
  have hle2 := nfst_le (t.2.1 c) (cnt (t.2.1 c) - 1)
  refine Nat.lt_of_le_of_ne (Nat.le_trans hle hle2) (fun e => ?_)
  have e2 : nfst (t.2.1 c) (cnt (t.2.1 c) - 1) = t.2.1 c := Nat.le_antisymm hle2 (e ▸ hle)
  have := congrArg cnt e2
  rw [nfst_cnt hv.1 (by omega)] at this
  omega
theorem own_le {t : zT} {l : zR} {z n : Nat} (hz : zOK t) (hr : rOK l) (h : 0 < fG t l z n) : t.2.1 z ≤ n := by
  rcases fG_pos.mp h with e | ⟨k, hk, e1, e2⟩ | ⟨c, h1, h2, e1, e2⟩
  · exact Nat.le_of_eq e
  · have hv := (hr.o k hk).1
    rw [e1] at hv
    rw [← e2]; exact zof_le hz hv.lt
  · have h0 := hz.1
    rw [← e1]; exact Nat.le_of_lt (child_lt hz h1 (by omega) e2)
theorem own_0 {t : zT} {l : zR} {z : Nat} {os : zO} (hz : zOK t) (hr : rOK l) (ho : oIs os (fG t l z)) : 0 < os.length ∧ (og os 0).1 = t.2.1 z := by
  have h : 0 < fG t l z (t.2.1 z) := fG_pos.mpr (Or.inl rfl)
  obtain ⟨i, hi, e⟩ := ho.2.2 _ h
  have h0 : 0 < os.length := by omega
  refine ⟨h0, ?_⟩
  have a1 : t.2.1 z ≤ (og os 0).1 := own_le hz hr (by rw [(ho.2.1 0 h0).1]; exact (ho.2.1 0 h0).2.1)
  rcases Nat.eq_zero_or_pos i with q | q
  · subst q; exact e
  · have := ho.1 0 i q hi; omega
def oat (os : zO) (k : Nat) : Option Nat := if k < os.length then some (og os k).1 else none
/-- the next one behind a name -/
def isB (p : Nat → Prop) (n : Nat) (r : Option Nat) : Prop := match r with
  | none => ∀ m, p m → m ≤ n
  | some b => p b ∧ n < b ∧ ∀ m, p m → n < m → b ≤ m
def nea (r : Option Nat) (o n : Nat) : Option Nat := match r with
  | none => if n < o then some o else none
  | some b => if n < o ∧ o < b then some o else some b
theorem isB_nea {p : Nat → Prop} {n o : Nat} {r : Option Nat} (h : isB p n r) : isB (fun m => p m ∨ o = m) n (nea r o n) := by
  cases r with
  | none =>
    show isB _ n (if n < o then some o else none)
    by_cases c : n < o
    · rw [if_pos c]
      refine ⟨Or.inr rfl, c, fun m hm hn => ?_⟩
      rcases hm with hm | hm
      · have := h m hm; omega
      · omega
    · rw [if_neg c]
      intro m hm
      rcases hm with hm | hm
      · exact h m hm
      · omega
  | some b =>
    show isB _ n (if n < o ∧ o < b then some o else some b)
    by_cases c : n < o ∧ o < b
    · rw [if_pos c]
      refine ⟨Or.inr rfl, c.1, fun m hm hn => ?_⟩
      rcases hm with hm | hm
      · have := h.2.2 m hm hn; omega
      · omega
    · rw [if_neg c]
      refine ⟨Or.inl h.1, h.2.1, fun m hm hn => ?_⟩
      rcases hm with hm | hm
      · exact h.2.2 m hm hn
      · omega
theorem isB_congr {p q : Nat → Prop} {n : Nat} {r : Option Nat} (h : isB p n r) (e : ∀ m, p m ↔ q m) : isB q n r := by
  have : p = q := funext (fun m => propext (e m))
  rw [← this]; exact h
theorem isB_oat {os : zO} {f : Nat → Nat} {i : Nat} {r : Option Nat} (ho : oIs os f) (hi : i < os.length) (h : isB (fun m => 0 < f m) (og os i).1 r) : r = oat os (i + 1) := by
  have hp : ∀ k, k < os.length → 0 < f (og os k).1 := fun k hk => by rw [(ho.2.1 k hk).1]; exact (ho.2.1 k hk).2.1
  unfold oat
  cases r with
  | none =>
    by_cases c : i + 1 < os.length
    · have a1 := h _ (hp (i + 1) c)
      have a2 := ho.1 i (i + 1) (by omega) c
      omega
    · rw [if_neg c]
  | some b =>
    obtain ⟨h1, h2, h3⟩ := h
    obtain ⟨k, hk, e⟩ := ho.2.2 b h1
    have hik : i < k := by
      rcases Nat.lt_trichotomy i k with q | q | q
      · exact q
      · subst q; omega
      · have := ho.1 k i q hi; omega
    have c : i + 1 < os.length := by omega
    rw [if_pos c]
    have a1 := h3 _ (hp (i + 1) c) (ho.1 i (i + 1) (by omega) c)
    by_cases q : k = i + 1
    · rw [← q, e]
    · have := ho.1 (i + 1) k (by omega) hk; omega
/-- how many labels of a name are there -/
def rch (os : zO) (n k : Nat) : Prop := ∃ i, i < os.length ∧ nfst (og os i).1 k = nfst n k
def isC (os : zO) (n k : Nat) : Prop := k ≤ cnt n ∧ (k = 0 ∨ rch os n k) ∧ ∀ j, k < j → j ≤ cnt n → ¬ rch os n j
theorem isC_one {os : zO} {n a b : Nat} (h : isC os n a) (g : isC os n b) : a = b := by
  rcases Nat.lt_trichotomy a b with c | c | c
  · rcases g.2.1 with q | q
    · omega
    · exact absurd q (h.2.2 b c g.1)
  · exact c
  · rcases h.2.1 with q | q
    · omega
    · exact absurd q (g.2.2 a c h.1)
/-- a name there, or above one that is -/
theorem thr_rch {os : zO} {f : Nat → Nat} {n : Nat} (ho : oIs os f) (hn : vn n) : (0 < f n ∨ ∃ i, i < os.length ∧ nab n (og os i).1) ↔ ∃ i, i < os.length ∧ nfst (og os i).1 (cnt n) = n := by
  constructor
  · rintro (h | ⟨i, hi, h⟩)
    · obtain ⟨i, hi, e⟩ := ho.2.2 n h
      exact ⟨i, hi, by rw [e, nfst_self hn.1 (Nat.le_refl _) (cnt_le n)]⟩
    · exact ⟨i, hi, h.2⟩
  · rintro ⟨i, hi, e⟩
    have hv := (ho.2.1 i hi).2.2.2
    rcases Nat.lt_or_ge (cnt n) (cnt (og os i).1) with c | c
    · exact Or.inr ⟨i, hi, c, e⟩
    · left
      rw [nfst_self hv.1 c (cnt_le n)] at e
      rw [← e, (ho.2.1 i hi).1]; exact (ho.2.1 i hi).2.1
theorem rch_at {os : zO} {n k : Nat} (hn : vn n) (hk : k ≤ cnt n) : rch os n k ↔ ∃ i, i < os.length ∧ nfst (og os i).1 (cnt (nfst n k)) = nfst n k := by
  have h4 := cnt_le n
  have : cnt (nfst n k) = k := by rw [nfst_cnt hn.1 (by omega)]; omega
  rw [this]; exact Iff.rfl
theorem rch_apex {t : zT} {l : zR} {n : Nat} {os : zO} (hz : zOK t) (hr : rOK l) (hn : vn n) (ho : oIs os (fG t l (zof t n))) : rch os n (cnt (t.2.1 (zof t n))) := by
  obtain ⟨h0, e⟩ := own_0 hz hr ho
  refine ⟨0, h0, ?_⟩
  rw [e, zof_pre hz hn.lt]
  exact nfst_self (hz.2.2.2.2.1 _ (zof_lt hz n)).1 (Nat.le_refl _) (cnt_le _)
def olm : Option Nat → Int64
  | none => -4
  | some m => lN (mo m)
theorem olm_n {r : Option Nat} (h : r = none) : olm r = -4 := by rw [h]; rfl
theorem lN_nlt {a : Nat} (h : a < 2 ^ 60) : ¬ lN a < (0 : Int64) := fun c => by
  have := (lN_lt60 (a := a) (b := 0) h (by decide)).mp c
  exact Nat.not_lt_zero _ this
theorem mo_nlt {a : Nat} : ¬ lN (mo a) < (0 : Int64) := lN_nlt (mo_lt60 a)
