section GONE
variable {l : Launch} {E : gEnv} {d y pc : Nat} {L : gL} {cu : Nat × Nat} {w : gW} {Q : Option Value → gW → Prop} {p : Program} {e : Env} {s : State} {m : MethodId} {args : Array Value} {below : List Frame} {meth : Method} {c : Code} {R : Room} {Z : State → Prop} {H : Heap} {locs : List Loc} {ls : Array Slot} {st : List Value} {len a b cw : Nat} {kv : Int32} {kl : Int64} {tab : List (Int32 × Nat)}
theorem glen1 {n : Nat} (h : (len == n) = true) : len = n := eq_of_beq h
theorem gAt.putk (A : gAt l E d y L cu w Q p e s m args below meth c R Z H locs ls) {n : Nat} (hck : gchk y pc (.putfield n, len, a, b, cw, kv, kl, tab) = true) (hdg : decode (g_code y) pc = .ok (.putfield n, len)) (h : gputf y pc L st cu w (gGs l E d y Q) a b) : W p l e R s m args below meth c H locs cu.1 cu.2 Z (F0 m pc ls (st.map (gcv E))) := by
  obtain ⟨k1, k2⟩ := gand hck
  obtain ⟨k3, k4⟩ := gand k2
  cases glen1 k1
  have hf : (g_own y, n, a, b) ∈ g_fl := of_decide_eq_true k3
  have hfin : ((g_C a).2.1 b).2.2.2 = true → g_md y = 2 ∧ g_own y = a := by
    intro hz
    rw [hz] at k4
    obtain ⟨z1, z2⟩ := gand (show (g_md y == 2 && g_own y == a) = true from k4)
    exact ⟨eq_of_beq z1, eq_of_beq z2⟩
  obtain ⟨-, hk, hc⟩ := g_fl_ok _ hf
  have hkd := gkind a hc b hk
  unfold gkindP at hkd
  unfold gputf at h
  have fin : ∀ {w' : gW} {o : Nat} {r : List Value} {v : Value} {ty : FieldType}, gob w o = some a → parseFieldDescriptor ((g_C a).2.1 b).2.2.1 = some ty → narrow ty v = v → fits ty v = true → w'.1 = w.1 → (∀ z, z ≠ o → w'.2.1 z = w.2.1 z ∧ w'.2.2.1 z = w.2.2.1 z ∧ w'.2.2.2 z = w.2.2.2 z) → gcv E (gval w' o a b) = v → (∀ j, j ≠ b → gval w' o a j = gval w o a j) → gSound l E d y (pc + 3) L r cu w' Q → W p l e R s m args below meth c H locs cu.1 cu.2 Z (F0 m pc ls (v :: .ref (gad E o) :: r.map (gcv E))) := by
    intro w' o r v ty ho hd hn hfit e1 e2 e3 e4 hg
    rw [A.ad (gob_lt ho)]
    refine A.put hf hfin ho hd hn hfit hdg (fun H1 locs1 hP hz hS => ?_)
    refine A.goW (gH_set A.2.2.1 e1 (gob_at ho) e2 ?_ hz) (A.sc (gob_lt ho) (fun z hz => (e2 z hz).1)) hS A.2.2.2.2.2.2.1 A.2.2.2.2.2.2.2 hg
    rw [gfs_set hk e3 e4] at hP
    exact hP
  split at h
  · rename_i hq
    obtain ⟨x, r, rfl, h9⟩ := gpI_inv h
    obtain ⟨o, r, rfl, ho, hg⟩ := gpR_inv h9
    rw [hq] at hkd
    refine fin (w' := (w.1, gupI w.2.1 o b x, w.2.2)) ho hkd rfl rfl rfl (fun z hz => ⟨va_up_ne _ _ hz, rfl, rfl⟩) ?_ (fun j hj => ?_) hg
    · simp only [gval, hq, gupI, va_up_self, upd]; simp [gcv]
    · simp only [gval]; split
      · rfl
      · rfl
      · simp [gupI, va_up_self, upd, hj]
  · rename_i hq
    obtain ⟨x, r, rfl, h9⟩ := gpJ_inv h
    obtain ⟨o, r, rfl, ho, hg⟩ := gpR_inv h9
    rw [hq] at hkd
    refine fin (w' := (w.1, w.2.1, gupL w.2.2.1 o b x, w.2.2.2)) ho hkd rfl rfl rfl (fun z hz => ⟨rfl, va_up_ne _ _ hz, rfl⟩) ?_ (fun j hj => ?_) hg
    · simp only [gval, hq, gupL, va_up_self, vp_updL]; simp [gcv]
    · simp only [gval]; split
      · simp [gupL, va_up_self, vp_updL, hj]
      · rfl
      · rfl
  · rename_i hq
    obtain ⟨x, r, rfl, h9⟩ := gpQ_inv h
    obtain ⟨o, r, rfl, ho, hg⟩ := gpR_inv h9
    rw [hq] at hkd
    obtain ⟨ty, hty, hnr, -⟩ := hkd
    rw [List.map_cons, gcv_rf]
    refine fin (w' := (w.1, w.2.1, w.2.2.1, gupR w.2.2.2 o b x)) ho hty (hnr _).1 (hnr _).2 rfl (fun z hz => ⟨rfl, rfl, va_up_ne _ _ hz⟩) ?_ (fun j hj => ?_) hg
    · simp only [gval, hq, gupR, va_up_self]; exact gcv_rf E x
    · simp only [gval]; split
      · rfl
      · simp [gupR, va_up_self, va_up_ne _ _ hj]
      · rfl
  · rename_i hq
    obtain ⟨x, r, rfl, h9⟩ := gpI_inv h
    obtain ⟨o, r, rfl, ho, hx, hg⟩ := gpR_inv h9
    rw [hq] at hkd
    refine fin (w' := (w.1, gupI w.2.1 o b x, w.2.2)) ho hkd (by rcases hx with rfl | rfl <;> rfl) (by rcases hx with rfl | rfl <;> rfl) rfl (fun z hz => ⟨va_up_ne _ _ hz, rfl, rfl⟩) ?_ (fun j hj => ?_) hg
    · simp only [gval, hq, gupI, va_up_self, upd]; simp [gcv]
    · simp only [gval]; split
      · rfl
      · rfl
      · simp [gupI, va_up_self, upd, hj]
  · exact h.elim
end GONE
