theorem lab_sum {n : Nat} (hn : n < 2 ^ 60) : n = lab n 0 * 35184372088832 + lab n 1 * 1073741824 + lab n 2 * 32768 + lab n 3 := by
  unfold lab
  simp only [Nat.reduceSub, Nat.reduceMul, Nat.reducePow]
  omega
theorem cnt_lab {n : Nat} (h : nwf n) : (∀ i, i < cnt n → lab n i ≠ 0) ∧ ∀ i, cnt n ≤ i → i < 4 → lab n i = 0 := by
  obtain ⟨h0, h1, h2, h3⟩ := h
  unfold cnt
  split
  · rename_i a
    refine ⟨fun i hi => absurd hi (by omega), fun i _ hi => ?_⟩
    match i, hi with
    | 0, _ => exact a
    | 1, _ => exact h1 a
    | 2, _ => exact h2 (h1 a)
    | 3, _ => exact h3 (h2 (h1 a))
    | i + 4, h => exact absurd h (by omega)
  · rename_i a
    split
    · rename_i b
      refine ⟨fun i hi => ?_, fun i hz hi => ?_⟩
      · have : i = 0 := by omega
        rw [this]; exact a
      · match i, hz, hi with
        | 1, _, _ => exact b
        | 2, _, _ => exact h2 b
        | 3, _, _ => exact h3 (h2 b)
        | i + 4, _, h => exact absurd h (by omega)
    · rename_i b
      split
      · rename_i c
        refine ⟨fun i hi => ?_, fun i hz hi => ?_⟩
        · match i, hi with
          | 0, _ => exact a
          | 1, _ => exact b
          | i + 2, h => exact absurd h (by omega)
        · match i, hz, hi with
          | 2, _, _ => exact c
          | 3, _, _ => exact h3 c
          | i + 4, _, h => exact absurd h (by omega)
      · rename_i c
        split
        · rename_i e
          refine ⟨fun i hi => ?_, fun i hz hi => ?_⟩
          · match i, hi with
            | 0, _ => exact a
            | 1, _ => exact b
            | 2, _ => exact c
            | i + 3, h => exact absurd h (by omega)
          · match i, hz, hi with
            | 3, _, _ => exact e
            | i + 4, _, h => exact absurd h (by omega)
        · rename_i e
          refine ⟨fun i hi => ?_, fun i hz hi => absurd hi (by omega)⟩
          match i, hi with
          | 0, _ => exact a
          | 1, _ => exact b
          | 2, _ => exact c
          | 3, _ => exact e
          | i + 4, h => exact absurd h (by omega)
theorem pw1 : 2 ^ (15 * (4 - 1)) = 35184372088832 := by decide
theorem pw2 : 2 ^ (15 * (4 - 2)) = 1073741824 := by decide
theorem pw3 : 2 ^ (15 * (4 - 3)) = 32768 := by decide
theorem low0a {n x y z t : Nat} (hs : n = x * 35184372088832 + y * 1073741824 + z * 32768 + t) (hy : y = 0) (hz : z = 0) (ht : t = 0) : n % 35184372088832 = 0 := by omega
theorem low0b {n x y z t : Nat} (hs : n = x * 35184372088832 + y * 1073741824 + z * 32768 + t) (hz : z = 0) (ht : t = 0) : n % 1073741824 = 0 := by omega
theorem low0c {n x y z t : Nat} (hs : n = x * 35184372088832 + y * 1073741824 + z * 32768 + t) (ht : t = 0) : n % 32768 = 0 := by omega
theorem low0z {n x y z t : Nat} (hs : n = x * 35184372088832 + y * 1073741824 + z * 32768 + t) (hx : x = 0) (hy : y = 0) (hz : z = 0) (ht : t = 0) : n = 0 := by omega
theorem lowq {n p : Nat} (h : n % p = 0) : ∃ q, n = q * p := ⟨n / p, (Nat.div_mul_cancel (Nat.dvd_of_mod_eq_zero h)).symm⟩
theorem low0 {n j : Nat} (h : nwf n) (hc : cnt n = j) (hj : j < 4) : ∃ q, n = q * 2 ^ (15 * (4 - j)) := by
  have hs := lab_sum h.1
  have hz := (cnt_lab h).2
  rw [hc] at hz
  have hcase : j = 0 ∨ j = 1 ∨ j = 2 ∨ j = 3 := by omega
  rcases hcase with e | e | e | e
  · have a := hz 0 (by omega) (by omega)
    have b := hz 1 (by omega) (by omega)
    have c := hz 2 (by omega) (by omega)
    have t := hz 3 (by omega) (by omega)
    exact ⟨0, by rw [Nat.zero_mul]; exact low0z hs a b c t⟩
  · have b := hz 1 (by omega) (by omega)
    have c := hz 2 (by omega) (by omega)
    have t := hz 3 (by omega) (by omega)
    rw [e, pw1]
    exact lowq (low0a hs b c t)
  · have c := hz 2 (by omega) (by omega)
    have t := hz 3 (by omega) (by omega)
    rw [e, pw2]
    exact lowq (low0b hs c t)
  · have t := hz 3 (by omega) (by omega)
    rw [e, pw3]
    exact lowq (low0c hs t)
theorem nlon_lt {n x : Nat} (h : nwf n) (hc : cnt n < 4) (hx : x < 32768) : nlon n x < 2 ^ 60 := by
  have hn := h.1
  obtain ⟨q, hq⟩ := low0 h rfl hc
  unfold nlon
  generalize cnt n = j at hc hq ⊢
  match j, hc with
  | 0, _ => simp only [Nat.reduceSub, Nat.reduceMul, Nat.reducePow] at *; omega
  | 1, _ => simp only [Nat.reduceSub, Nat.reduceMul, Nat.reducePow] at *; omega
  | 2, _ => simp only [Nat.reduceSub, Nat.reduceMul, Nat.reducePow] at *; omega
  | 3, _ => simp only [Nat.reduceSub, Nat.reduceMul, Nat.reducePow] at *; omega
  | j + 4, h => exact absurd h (by omega)
theorem sh_lon {n x j : Nat} (h : nwf n) (hc : cnt n = j) (hj : j < 4) (hx : x < 32768) : lN n ||| ((nI x).toInt64 <<< (((15 : Int32) * (3 - nI j)).toInt64 &&& 63)) = lN (nlon n x) := by
  obtain ⟨q, hq⟩ := low0 h hc hj
  have hn := h.1
  rw [nI_l (by omega)]
  have key : ∀ (D : Int64) (m : Nat), m + 15 < 62 → D.toBitVec.smod 64 = BitVec.ofNat 64 m → n = q * 2 ^ (m + 15) → lN n ||| (lN x <<< D) = lN (n + x * 2 ^ m) := by
    intro D m hm hD hq2
    rw [g_shl hD (by omega) rfl (by omega)]
    rw [hq2]
    have hlt : x * 2 ^ m < 2 ^ (m + 15) := by
      rw [Nat.pow_add, Nat.mul_comm (2 ^ m)]
      exact Nat.mul_lt_mul_of_pos_right hx (Nat.two_pow_pos m)
    refine g_or (k := m + 15) rfl hlt ?_
    rw [← hq2]
    have : 2 ^ (m + 15) < 2 ^ 62 := Nat.pow_lt_pow_right (by omega) hm
    omega
  unfold nlon
  rw [hc]
  match j, hj, hq with
  | 0, _, hq => exact key _ 45 (by omega) (by decide) hq
  | 1, _, hq => exact key _ 30 (by omega) (by decide) hq
  | 2, _, hq => exact key _ 15 (by omega) (by decide) hq
  | 3, _, hq => exact key _ 0 (by omega) (by decide) hq
  | j + 4, h, _ => exact absurd h (by omega)
/-- Names.longer -/
theorem c_longer {d n x : Nat} {w : gW} (h : nwf n) (hx : x < 32768) : gTM (d + 2) 32 [.long (lN n), .int (nI x)] w (fun r u => u = w ∧ r = some (.long (lN (if cnt n < 4 then nlon n x else n)))) := by
  refine gT_n 2 ?_
  refine ⟨rfl, gTM.use (c_count (d := d) h.1) (Nat.le_refl _) (fun r u hq => ?_)⟩
  obtain ⟨rfl, rfl⟩ := hq
  refine gT_n 4 ?_
  refine ⟨fun c => ?_, fun c => ?_⟩
  · have h4 : cnt n < 4 := by
      rcases Nat.lt_or_ge (cnt n) 4 with z | z
      · exact z
      · exact absurd c (nI_nlt (a := cnt n) (b := 4) z (by have := cnt_le n; omega))
    refine gT_n 11 ?_
    exact ⟨rfl, rfl, rj (by rw [if_pos h4]; exact sh_lon h rfl h4 hx)⟩
  · have h4 : ¬ cnt n < 4 := fun z => c (nlt4 z)
    refine gT_n 2 ?_
    exact ⟨rfl, rfl, rj (by rw [if_neg h4])⟩
theorem lN_ne {a b : Nat} (ha : a < 2 ^ 60) (hb : b < 2 ^ 60) : lN a = lN b ↔ a = b := by
  constructor
  · intro h
    have := congrArg (fun z => z.toBitVec.toNat) h
    simpa [wb_tn (show a < 2 ^ 64 by omega), wb_tn (show b < 2 ^ 64 by omega)] using this
  · intro h; rw [h]
theorem lN_lt60 {a b : Nat} (ha : a < 2 ^ 60) (hb : b < 2 ^ 60) : lN a < lN b ↔ a < b := by
  rw [fa_lt64, pf_lI (by omega), pf_lI (by omega)]
  omega
theorem lN_le60 {a b : Nat} (ha : a < 2 ^ 60) (hb : b < 2 ^ 60) : lN a ≤ lN b ↔ a ≤ b := by
  rw [fa_le64, pf_lI (by omega), pf_lI (by omega)]
  omega
theorem nfst_le (n k : Nat) : nfst n k ≤ n := Nat.div_mul_le_self _ _
/-- whether a is above n -/
def nabv (a n : Nat) : Prop := a ≠ n ∧ nfst n (cnt a) = a
/-- Names.isAbove -/
theorem c_isAbove {d a n : Nat} {w : gW} (ha : a < 2 ^ 60) (hn : n < 2 ^ 60) : gTM (d + 2) 33 [.long (lN a), .long (lN n)] w (fun r u => u = w ∧ ∃ x : Int32, r = some (.int x) ∧ ((x = 1 ∧ nabv a n) ∨ (x = 0 ∧ ¬ nabv a n))) := by
  refine gT_n 4 ?_
  refine ⟨fun c => ?_, fun c => ?_⟩
  · refine gT_n 2 ?_
    exact ⟨Or.inl rfl, rfl, 0, rfl, Or.inr ⟨rfl, fun z => z.1 ((lN_ne ha hn).mp ((lg_cmp_eq _ _).mp c))⟩⟩
  · have hne : a ≠ n := fun z => c ((lg_cmp_eq _ _).mpr (by rw [z]))
    refine gT_n 3 ?_
    refine ⟨rfl, gTM.use (c_count (d := d) ha) (Nat.le_refl _) (fun r u hq => ?_)⟩
    obtain ⟨rfl, rfl⟩ := hq
    refine gT_n 1 ?_
    refine ⟨rfl, gTM.use (c_first (d := d) hn (cnt_le a)) (by omega) (fun r u hq => ?_)⟩
    obtain ⟨rfl, rfl⟩ := hq
    refine gT_n 3 ?_
    refine ⟨fun c2 => ?_, fun c2 => ?_⟩
    · refine gT_n 2 ?_
      exact ⟨Or.inl rfl, rfl, 0, rfl, Or.inr ⟨rfl, fun z => c2 ((lg_cmp_eq _ _).mpr (by rw [z.2]))⟩⟩
    · refine gT_n 3 ?_
      exact ⟨Or.inr rfl, rfl, 1, rfl, Or.inl ⟨rfl, hne, (lN_ne (Nat.lt_of_le_of_lt (nfst_le _ _) hn) ha).mp ((lg_cmp_eq _ _).mp c2)⟩⟩
