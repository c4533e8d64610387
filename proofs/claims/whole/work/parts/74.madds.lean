/-! items being made: the reference -/
def bM (I : Nat → Nat → Int32) (c : Int32) (kd zn so nu sg mk : Nat → Int32) : Nat → Nat → Int32 := fun a => cond (Nat.beq a 171) (upd (I 171) 45 c) (cond (Nat.beq a 193) kd (cond (Nat.beq a 194) zn (cond (Nat.beq a 197) so (cond (Nat.beq a 198) nu (cond (Nat.beq a 199) sg (cond (Nat.beq a 200) mk (I a)))))))
def bMJ (J : Nat → Nat → Int64) (jo jx : Nat → Int64) : Nat → Nat → Int64 := fun a => cond (Nat.beq a 195) jo (cond (Nat.beq a 196) jx (J a))
section
variable {d y pc n : Nat} {L : gL} {st : List Value} {cu : Nat × Nat} {I I' : Nat → Nat → Int32} {J J' : Nat → Nat → Int64} {P : Nat → Nat} {Q : Option Value → gW → Prop} {T c : Int32} {kd zn so nu sg mk : Nat → Int32} {jo jx : Nat → Int64}
theorem gup_b_kd {x : Int32} : gupI (bM I c kd zn so nu sg mk) 193 n x = bM I c (upd kd n x) zn so nu sg mk := by
  funext a
  by_cases h : a = 193
  · subst h; rfl
  · rw [gupI_n h]
    unfold bM
    rw [beq_ne h]; rfl
theorem gT_b_kd {x X : Int32} (e : T = nI n) (hn : n < 2 ^ 31) (ev : x = X) (h : gT d y pc L st cu (gST (bM I c (upd kd n X) zn so nu sg mk) J' P) Q) : gT d y pc L st cu ((gST (bM I c kd zn so nu sg mk) J' P).1, gupI (gST (bM I c kd zn so nu sg mk) J' P).2.1 193 T.toNatClampNeg x, (gST (bM I c kd zn so nu sg mk) J' P).2.2) Q := by
  subst ev
  rw [e, nI_clamp hn]
  show gT d y pc L st cu (gST (gupI (bM I c kd zn so nu sg mk) 193 n x) J' P) Q
  rw [gup_b_kd]; exact h
theorem gup_b_zn {x : Int32} : gupI (bM I c kd zn so nu sg mk) 194 n x = bM I c kd (upd zn n x) so nu sg mk := by
  funext a
  by_cases h : a = 194
  · subst h; rfl
  · rw [gupI_n h]
    unfold bM
    rw [beq_ne h]; rfl
theorem gT_b_zn {x X : Int32} (e : T = nI n) (hn : n < 2 ^ 31) (ev : x = X) (h : gT d y pc L st cu (gST (bM I c kd (upd zn n X) so nu sg mk) J' P) Q) : gT d y pc L st cu ((gST (bM I c kd zn so nu sg mk) J' P).1, gupI (gST (bM I c kd zn so nu sg mk) J' P).2.1 194 T.toNatClampNeg x, (gST (bM I c kd zn so nu sg mk) J' P).2.2) Q := by
  subst ev
  rw [e, nI_clamp hn]
  show gT d y pc L st cu (gST (gupI (bM I c kd zn so nu sg mk) 194 n x) J' P) Q
  rw [gup_b_zn]; exact h
theorem gup_b_so {x : Int32} : gupI (bM I c kd zn so nu sg mk) 197 n x = bM I c kd zn (upd so n x) nu sg mk := by
  funext a
  by_cases h : a = 197
  · subst h; rfl
  · rw [gupI_n h]
    unfold bM
    rw [beq_ne h]; rfl
theorem gT_b_so {x X : Int32} (e : T = nI n) (hn : n < 2 ^ 31) (ev : x = X) (h : gT d y pc L st cu (gST (bM I c kd zn (upd so n X) nu sg mk) J' P) Q) : gT d y pc L st cu ((gST (bM I c kd zn so nu sg mk) J' P).1, gupI (gST (bM I c kd zn so nu sg mk) J' P).2.1 197 T.toNatClampNeg x, (gST (bM I c kd zn so nu sg mk) J' P).2.2) Q := by
  subst ev
  rw [e, nI_clamp hn]
  show gT d y pc L st cu (gST (gupI (bM I c kd zn so nu sg mk) 197 n x) J' P) Q
  rw [gup_b_so]; exact h
theorem gup_b_nu {x : Int32} : gupI (bM I c kd zn so nu sg mk) 198 n x = bM I c kd zn so (upd nu n x) sg mk := by
  funext a
  by_cases h : a = 198
  · subst h; rfl
  · rw [gupI_n h]
    unfold bM
    rw [beq_ne h]; rfl
theorem gT_b_nu {x X : Int32} (e : T = nI n) (hn : n < 2 ^ 31) (ev : x = X) (h : gT d y pc L st cu (gST (bM I c kd zn so (upd nu n X) sg mk) J' P) Q) : gT d y pc L st cu ((gST (bM I c kd zn so nu sg mk) J' P).1, gupI (gST (bM I c kd zn so nu sg mk) J' P).2.1 198 T.toNatClampNeg x, (gST (bM I c kd zn so nu sg mk) J' P).2.2) Q := by
  subst ev
  rw [e, nI_clamp hn]
  show gT d y pc L st cu (gST (gupI (bM I c kd zn so nu sg mk) 198 n x) J' P) Q
  rw [gup_b_nu]; exact h
theorem gup_b_sg {x : Int32} : gupI (bM I c kd zn so nu sg mk) 199 n x = bM I c kd zn so nu (upd sg n x) mk := by
  funext a
  by_cases h : a = 199
  · subst h; rfl
  · rw [gupI_n h]
    unfold bM
    rw [beq_ne h]; rfl
theorem gT_b_sg {x X : Int32} (e : T = nI n) (hn : n < 2 ^ 31) (ev : x = X) (h : gT d y pc L st cu (gST (bM I c kd zn so nu (upd sg n X) mk) J' P) Q) : gT d y pc L st cu ((gST (bM I c kd zn so nu sg mk) J' P).1, gupI (gST (bM I c kd zn so nu sg mk) J' P).2.1 199 T.toNatClampNeg x, (gST (bM I c kd zn so nu sg mk) J' P).2.2) Q := by
  subst ev
  rw [e, nI_clamp hn]
  show gT d y pc L st cu (gST (gupI (bM I c kd zn so nu sg mk) 199 n x) J' P) Q
  rw [gup_b_sg]; exact h
theorem gup_b_mk {x : Int32} : gupI (bM I c kd zn so nu sg mk) 200 n x = bM I c kd zn so nu sg (upd mk n x) := by
  funext a
  by_cases h : a = 200
  · subst h; rfl
  · rw [gupI_n h]
    unfold bM
    rw [beq_ne h]; rfl
theorem gT_b_mk {x X : Int32} (e : T = nI n) (hn : n < 2 ^ 31) (ev : x = X) (h : gT d y pc L st cu (gST (bM I c kd zn so nu sg (upd mk n X)) J' P) Q) : gT d y pc L st cu ((gST (bM I c kd zn so nu sg mk) J' P).1, gupI (gST (bM I c kd zn so nu sg mk) J' P).2.1 200 T.toNatClampNeg x, (gST (bM I c kd zn so nu sg mk) J' P).2.2) Q := by
  subst ev
  rw [e, nI_clamp hn]
  show gT d y pc L st cu (gST (gupI (bM I c kd zn so nu sg mk) 200 n x) J' P) Q
  rw [gup_b_mk]; exact h
theorem gup_b_jo {x : Int64} : gupL (bMJ J jo jx) 195 n x = bMJ J (vp_updL jo n x) jx := by
  funext a
  by_cases h : a = 195
  · subst h; rfl
  · rw [gupL_n h]
    unfold bMJ
    rw [beq_ne h]; rfl
theorem gT_b_jo {x X : Int64} (e : T = nI n) (hn : n < 2 ^ 31) (ev : x = X) (h : gT d y pc L st cu (gST I' (bMJ J (vp_updL jo n X) jx) P) Q) : gT d y pc L st cu ((gST I' (bMJ J jo jx) P).1, (gST I' (bMJ J jo jx) P).2.1, gupL (gST I' (bMJ J jo jx) P).2.2.1 195 T.toNatClampNeg x, (gST I' (bMJ J jo jx) P).2.2.2) Q := by
  subst ev
  rw [e, nI_clamp hn]
  show gT d y pc L st cu (gST I' (gupL (bMJ J jo jx) 195 n x) P) Q
  rw [gup_b_jo]; exact h
theorem gup_b_jx {x : Int64} : gupL (bMJ J jo jx) 196 n x = bMJ J jo (vp_updL jx n x) := by
  funext a
  by_cases h : a = 196
  · subst h; rfl
  · rw [gupL_n h]
    unfold bMJ
    rw [beq_ne h]; rfl
theorem gT_b_jx {x X : Int64} (e : T = nI n) (hn : n < 2 ^ 31) (ev : x = X) (h : gT d y pc L st cu (gST I' (bMJ J jo (vp_updL jx n X)) P) Q) : gT d y pc L st cu ((gST I' (bMJ J jo jx) P).1, (gST I' (bMJ J jo jx) P).2.1, gupL (gST I' (bMJ J jo jx) P).2.2.1 196 T.toNatClampNeg x, (gST I' (bMJ J jo jx) P).2.2.2) Q := by
  subst ev
  rw [e, nI_clamp hn]
  show gT d y pc L st cu (gST I' (gupL (bMJ J jo jx) 196 n x) P) Q
  rw [gup_b_jx]; exact h
theorem gup_b_c {x : Int32} : gupI (bM I c kd zn so nu sg mk) 171 45 x = bM I x kd zn so nu sg mk := by
  funext a
  by_cases h : a = 171
  · subst h
    show upd (upd (I 171) 45 c) 45 x = upd (I 171) 45 x
    exact upd_upd
  · rw [gupI_n h]
    unfold bM
    rw [beq_ne h]; rfl
theorem gT_b_c {x X : Int32} (ev : x = X) (h : gT d y pc L st cu (gST (bM I X kd zn so nu sg mk) J' P) Q) : gT d y pc L st cu ((gST (bM I c kd zn so nu sg mk) J' P).1, gupI (gST (bM I c kd zn so nu sg mk) J' P).2.1 171 45 x, (gST (bM I c kd zn so nu sg mk) J' P).2.2) Q := by
  subst ev
  show gT d y pc L st cu (gST (gupI (bM I c kd zn so nu sg mk) 171 45 x) J' P) Q
  rw [gup_b_c]; exact h
theorem upd_y {F : Nat → Int32} {z j : Nat} {n : Int32} (h : j = z) : upd F z n j = n := if_pos h
theorem updL_y {F : Nat → Int64} {z j : Nat} {n : Int64} (h : j = z) : vp_updL F z n j = n := if_pos h
theorem updL_ne {F : Nat → Int64} {z j : Nat} {n : Int64} (h : ¬ j = z) : vp_updL F z n j = F j := if_neg h
theorem kg_out {l : zK} {i : Nat} (h : l.length ≤ i) : kg l i = (0, 0) := by
  unfold kg
  rw [List.getD_eq_getElem?_getD, List.getElem?_eq_none h]; rfl
def mB (kd zn so nu sg mk : Nat → Int32) (jo jx : Nat → Int64) (l : List zI) : Prop := ∀ k, k < l.length → mI k kd zn so nu sg mk jo jx (ig l k)
theorem mB_new {l : List zI} {q : zI} {kd' zn' so' nu' sg' mk' : Nat → Int32} {jo' jx' : Nat → Int64} (hB : mB kd zn so nu sg mk jo jx l) (h : mI l.length kd' zn' so' nu' sg' mk' jo' jx' q) (h1 : ∀ j, j < l.length → (kd' j = kd j ∧ zn' j = zn j ∧ so' j = so j ∧ sg' j = sg j ∧ mk' j = mk j) ∧ (jo' j = jo j ∧ jx' j = jx j)) (h2 : ∀ j, j < 3 * l.length → nu' j = nu j) : mB kd' zn' so' nu' sg' mk' jo' jx' (l ++ [q]) := by
  intro k hk
  rw [List.length_append] at hk
  have hk : k < l.length + 1 := hk
  rcases Nat.lt_or_ge k l.length with g | g
  · rw [ig_app1 g]
    have a := hB k g
    have b := h1 k g
    exact ⟨⟨b.1.1.trans a.1.1, b.1.2.1.trans a.1.2.1, b.1.2.2.1.trans a.1.2.2.1, b.1.2.2.2.1.trans a.1.2.2.2.1, b.1.2.2.2.2.trans a.1.2.2.2.2⟩, ⟨b.2.1.trans a.2.1.1, b.2.2.trans a.2.1.2⟩, (h2 _ (by omega)).trans a.2.2.1, (h2 _ (by omega)).trans a.2.2.2.1, (h2 _ (by omega)).trans a.2.2.2.2⟩
  · have : k = l.length := by omega
    subst this
    rw [ig_app2]; exact h
end
theorem m_comes {d k : Nat} {kk zz ss gg : Int32} {oo xx : Int64} {I : Nat → Nat → Int32} {J : Nat → Nat → Int64} {P : Nat → Nat} {kd zn so nu sg mk : Nat → Int32} {jo jx : Nat → Int64} (hk : k < 10) : gTM d 220 [.ref 171, .int kk, .int zz, .long oo, .long xx, .int ss, .int gg] (gST (bM I (nI k) kd zn so nu sg mk) (bMJ J jo jx) P) (fun r u => r = none ∧ u = (gST (bM I (nI (k + 1)) (upd kd k kk) (upd zn k zz) (upd so k ss) (upd (upd (upd nu (3 * k + 0) 0) (3 * k + 1) 0) (3 * k + 2) 0) (upd sg k gg) mk) (bMJ J (vp_updL jo k oo) (vp_updL jx k xx)) P)) := by
  refine gT_n 6 ?_
  refine ⟨rfl, rfl, rfl, (pk_inS (m := 10) (k := k) (rfl) (by omega) (rfl)), ?_⟩
  refine gT_b_kd (n := k) (X := kk) (rfl) (by omega) (rfl) ?_
  refine gT_n 6 ?_
  refine ⟨rfl, rfl, rfl, (pk_inS (m := 10) (k := k) (rfl) (by omega) (rfl)), ?_⟩
  refine gT_b_zn (n := k) (X := zz) (rfl) (by omega) (rfl) ?_
  refine gT_n 6 ?_
  refine ⟨rfl, rfl, rfl, (pk_inS (m := 10) (k := k) (rfl) (by omega) (rfl)), ?_⟩
  refine gT_b_jo (n := k) (X := oo) (rfl) (by omega) (rfl) ?_
  refine gT_n 6 ?_
  refine ⟨rfl, rfl, rfl, (pk_inS (m := 10) (k := k) (rfl) (by omega) (rfl)), ?_⟩
  refine gT_b_jx (n := k) (X := xx) (rfl) (by omega) (rfl) ?_
  refine gT_n 6 ?_
  refine ⟨rfl, rfl, rfl, (pk_inS (m := 10) (k := k) (rfl) (by omega) (rfl)), ?_⟩
  refine gT_b_so (n := k) (X := ss) (rfl) (by omega) (rfl) ?_
  refine gT_n 6 ?_
  refine ⟨rfl, rfl, rfl, (pk_inS (m := 10) (k := k) (rfl) (by omega) (rfl)), ?_⟩
  refine gT_b_sg (n := k) (X := gg) (rfl) (by omega) (rfl) ?_
  refine gT_n 5 ?_
  refine ⟨fun c => absurd c (by decide), fun _ => ?_⟩
  refine gT_n 10 ?_
  refine ⟨rfl, rfl, rfl, (pk_inS (m := 30) (k := ((3 * k) + 0)) (rfl) (by omega) (pk_addE (n := (3 * k)) (k := 0) (pk_mulE (n := 3) (k := k) (rfl) (rfl)) (rfl))), ?_⟩
  refine gT_b_nu (n := ((3 * k) + 0)) (X := 0) (pk_addE (n := (3 * k)) (k := 0) (pk_mulE (n := 3) (k := k) (rfl) (rfl)) (rfl)) (by omega) (rfl) ?_
  refine gT_n 5 ?_
  refine ⟨fun c => absurd c (by decide), fun _ => ?_⟩
  refine gT_n 10 ?_
  refine ⟨rfl, rfl, rfl, (pk_inS (m := 30) (k := ((3 * k) + 1)) (rfl) (by omega) (pk_addE (n := (3 * k)) (k := 1) (pk_mulE (n := 3) (k := k) (rfl) (rfl)) (rfl))), ?_⟩
  refine gT_b_nu (n := ((3 * k) + 1)) (X := 0) (pk_addE (n := (3 * k)) (k := 1) (pk_mulE (n := 3) (k := k) (rfl) (rfl)) (rfl)) (by omega) (rfl) ?_
  refine gT_n 5 ?_
  refine ⟨fun c => absurd c (by decide), fun _ => ?_⟩
  refine gT_n 10 ?_
  refine ⟨rfl, rfl, rfl, (pk_inS (m := 30) (k := ((3 * k) + 2)) (rfl) (by omega) (pk_addE (n := (3 * k)) (k := 2) (pk_mulE (n := 3) (k := k) (rfl) (rfl)) (rfl))), ?_⟩
  refine gT_b_nu (n := ((3 * k) + 2)) (X := 0) (pk_addE (n := (3 * k)) (k := 2) (pk_mulE (n := 3) (k := k) (rfl) (rfl)) (rfl)) (by omega) (rfl) ?_
  refine gT_n 5 ?_
  refine ⟨fun _ => ?_, fun c => absurd (by decide) c⟩
  refine gT_n 6 ?_
  refine ⟨rfl, rfl, ?_⟩
  refine gT_b_c (X := (nI (k + 1))) (pk_addE (n := k) (k := 1) (rfl) (rfl)) ?_
  refine gT_n 1 ?_
  refine ⟨rfl, ?_⟩
  exact ⟨rfl, rfl⟩
theorem m_signs {d k : Nat} {t : zT} {q : zI} {I : Nat → Nat → Int32} {J : Nat → Nat → Int64} {P : Nat → Nat} {kd zn so nu sg mk : Nat → Int32} {jo jx : Nat → Int64} (hk : k < 10) (hI : mI k kd zn so nu sg mk jo jx q) (hq : iOK t q) : gTM (d + 6) 221 [.ref 171] (gST (bM I (nI (k + 1)) kd zn so nu sg mk) (bMJ J jo jx) P) (fun r u => r = none ∧ u = (gST (bM I (nI (k + 1)) kd zn so nu sg (upd mk (k + 1 - 1) (imrk q q.2.2.2.2.2.2.1))) (bMJ J jo jx) P)) := by
  refine gT_n 19 ?_
  refine ⟨rfl, rfl, rfl, rfl, rfl, rfl, (pk_inS (m := 10) (k := (((k + 1)) - 1)) (rfl) (by omega) (pk_subE (n := ((k + 1))) (k := 1) (rfl) (rfl) (by omega))), rfl, rfl, gTM.useA (m_markBy (k := k) (sg := q.2.2.2.2.2.2.1) hk hI hq) (Nat.le_refl _) (aR (aI ((Eq.trans (pk_subE (n := ((k + 1))) (k := 1) (rfl) (rfl) (by omega)) (congrArg nI (Nat.add_sub_cancel _ _)))) (aI ((rdI (Eq.trans (pk_subE (n := ((k + 1))) (k := 1) (rfl) (rfl) (by omega)) (congrArg nI (Nat.add_sub_cancel _ _))) (by omega) hI.1.2.2.2.1)) (rfl)))) (fun r u hq => ?_)⟩
  obtain ⟨rfl, rfl⟩ := hq  -- X12_markBy[R171, nI k, q.2.2.2.2.2.2.1]
  refine gT_n 1 ?_
  refine ⟨rfl, (pk_inS (m := 10) (k := (((k + 1)) - 1)) (rfl) (by omega) (pk_subE (n := ((k + 1))) (k := 1) (rfl) (rfl) (by omega))), ?_⟩
  refine gT_b_mk (n := (((k + 1)) - 1)) (X := (imrk q q.2.2.2.2.2.2.1)) (pk_subE (n := ((k + 1))) (k := 1) (rfl) (rfl) (by omega)) (by omega) (rfl) ?_
  refine gT_n 1 ?_
  refine ⟨rfl, ?_⟩
  exact ⟨rfl, rfl⟩
theorem mAc_at {r : Nat → Int32} {t : zT} {ac : Nat → Int32} {z : Nat} (h : mAc r t ac) (hz : z < t.1) (hs : t.2.2.1 z = true) : r z = ac z := by
  rw [h z hz, if_pos hs]
theorem mB_len {I : Nat → Nat → Int32} {J' : Nat → Nat → Int64} {P : Nat → Nat} {kd zn so nu sg mk : Nat → Int32} {l : List zI} {q : zI} {u : gW} (h : u = gST (bM I (nI (l.length + 1)) kd zn so nu sg mk) J' P) : u = gST (bM I (nI (l ++ [q]).length) kd zn so nu sg mk) J' P := by
  rw [List.length_append]; exact h
theorem mB_fin {l : List zI} {q : zI} {kd zn so nu sg mk : Nat → Int32} {jo jx : Nat → Int64} {nu' : Nat → Int32} {kk zz ss gg x : Int32} {oo xx : Int64} (hB : mB kd zn so nu sg mk jo jx l) (h : kk = q.1 ∧ zz = nI q.2.1 ∧ ss = nI q.2.2.2.2.1 ∧ gg = q.2.2.2.2.2.2.1) (hj : oo = lN (mo q.2.2.1) ∧ xx = lN (mo q.2.2.2.1)) (hn : nu' (3 * l.length) = q.2.2.2.2.2.1.1 ∧ nu' (3 * l.length + 1) = q.2.2.2.2.2.1.2.1 ∧ nu' (3 * l.length + 2) = q.2.2.2.2.2.1.2.2) (hf : ∀ j, j < 3 * l.length → nu' j = nu j) (hx : x = imrk q q.2.2.2.2.2.2.1) : mB (upd kd l.length kk) (upd zn l.length zz) (upd so l.length ss) nu' (upd sg l.length gg) (upd mk (l.length + 1 - 1) x) (vp_updL jo l.length oo) (vp_updL jx l.length xx) (l ++ [qS q]) := by
  refine mB_new hB ⟨⟨?_, ?_, ?_, ?_, ?_⟩, ⟨?_, ?_⟩, hn⟩ (fun j hj => ⟨⟨upd_ne (by omega), upd_ne (by omega), upd_ne (by omega), upd_ne (by omega), upd_ne (by omega)⟩, updL_ne (by omega), updL_ne (by omega)⟩) hf
  · rw [upd_at]; exact h.1
  · rw [upd_at]; exact h.2.1
  · rw [upd_at]; exact h.2.2.1
  · rw [upd_at]; exact h.2.2.2
  · rw [upd_y (by omega)]; exact hx
  · rw [updL_at]; exact hj.1
  · rw [updL_at]; exact hj.2
theorem mI_fin {l : List zI} {q : zI} {kd zn so nu' sg mk : Nat → Int32} {jo jx : Nat → Int64} {kk zz ss gg : Int32} {oo xx : Int64} (h : kk = q.1 ∧ zz = nI q.2.1 ∧ ss = nI q.2.2.2.2.1 ∧ gg = q.2.2.2.2.2.2.1) (hj : oo = lN (mo q.2.2.1) ∧ xx = lN (mo q.2.2.2.1)) (hn : nu' (3 * l.length) = q.2.2.2.2.2.1.1 ∧ nu' (3 * l.length + 1) = q.2.2.2.2.2.1.2.1 ∧ nu' (3 * l.length + 2) = q.2.2.2.2.2.1.2.2) : mI l.length (upd kd l.length kk) (upd zn l.length zz) (upd so l.length ss) nu' (upd sg l.length gg) mk (vp_updL jo l.length oo) (vp_updL jx l.length xx) (qMk q (mk l.length)) :=
  ⟨⟨upd_at.trans h.1, upd_at.trans h.2.1, upd_at.trans h.2.2.1, upd_at.trans h.2.2.2, rfl⟩, ⟨updL_at.trans hj.1, updL_at.trans hj.2⟩, hn⟩
theorem m_keysCome {d z : Nat} {I : Nat → Nat → Int32} {J : Nat → Nat → Int64} {P : Nat → Nat} {kd zn so nu sg mk : Nat → Int32} {jo jx : Nat → Int64} {t : zT} {W : zW} {lm : zR} (hz : zOK t) (oW : wOK t W) (hT : mT (I 171 2) (J 172) (I 173) t) (hr : rOK lm) (hp : lm.Perm W.1) (hR : mR (I 171 7) (J 174) (I 175) (I 176) lm) (hac : mAc (I 180) t W.2.2.2.1) {l : List zI} (hl : l.length < 10) (hB : mB kd zn so nu sg mk jo jx l) (hK : mKs 3 (I 179) (I 177) (I 178) W.2.1) (hzz : z < t.1) (hs : t.2.2.1 z = true) : gTM (d + 7) 222 [.ref 171, .int (nI z)] (gST (bM I (nI l.length) kd zn so nu sg mk) (bMJ J jo jx) P) (fun r u => r = none ∧ ∃ kd' zn' so' nu' sg' mk' jo' jx', u = gST (bM I (nI (l ++ [qS (qKey t W z)]).length) kd' zn' so' nu' sg' mk') (bMJ J jo' jx') P ∧ mB kd' zn' so' nu' sg' mk' jo' jx' (l ++ [qS (qKey t W z)])) := by
  have h4 := hz.2.1
  have hq : iOK t (qKey t W z) := iOK_key hz oW hzz hs
  obtain ⟨hm1, hm2⟩ := hK z (by omega)
  have hl3 : (W.2.1 z).length ≤ 3 := oW.2.1 z (by omega)
  have hcs : (W.2.1 z).length = 0 ∨ (W.2.1 z).length = 1 ∨ (W.2.1 z).length = 2 ∨ (W.2.1 z).length = 3 := by omega
  rcases hcs with hn | hn | hn | hn
  · refine gT_n 14 ?_
    refine ⟨rfl, rfl, (pk_in z 4 (by omega) (rfl)), rfl, rfl, (pk_in z 4 (by omega) (rfl)), rfl, rfl, gTM.useA (m_comes (k := l.length) (kk := 1) (zz := nI z) (oo := lN (mo (t.2.1 z))) (xx := lN (mo 0)) (ss := 0) (gg := W.2.2.2.1 z) hl) (Nat.le_refl _) (aR (aI (rfl) (aI (rfl) (aL ((rdJ (rfl) (by omega) (hT.2.1 _ hzz))) (aL (rfl) (aI (rfl) (aI ((rdI (rfl) (by omega) (mAc_at hac hzz hs))) (rfl)))))))) (fun r u hq => ?_)⟩
    obtain ⟨rfl, rfl⟩ := hq  -- X12_comes[R171, K1, nI z, L(lN (mo (t.2.1 z))), lN 0, K0, (W.2.2.2.1 z)]
    refine gT_n 8 ?_
    refine ⟨rfl, rfl, (pk_in z 4 (by omega) (rfl)), fun _ => ?_, fun c => absurd (kpT (p := fun z : Int32 => z ≤ 0) (show _ = (0 : Int32) from (rdI (rfl) (by omega) (hm1.trans (congrArg nI hn)))) (by decide)) c⟩
    refine gT_n 2 ?_
    refine ⟨rfl, rfl, gTM.use (m_signs (k := l.length) (t := t) (q := qMk (qKey t W z) (mk l.length)) hl (mI_fin (q := qKey t W z) ⟨rfl, rfl, rfl, rfl⟩ ⟨rfl, rfl⟩ ⟨by rw [upd_ne (by omega), upd_ne (by omega), upd_y (by omega)]; rw [show (qKey t W z).2.2.2.2.2.1.1 = (kg (W.2.1 z) 0).1 from rfl, kg_out (by omega)], by rw [upd_ne (by omega), upd_y (by omega)]; rw [show (qKey t W z).2.2.2.2.2.1.2.1 = (kg (W.2.1 z) 1).1 from rfl, kg_out (by omega)], by rw [upd_y (by omega)]; rw [show (qKey t W z).2.2.2.2.2.1.2.2 = (kg (W.2.1 z) 2).1 from rfl, kg_out (by omega)]⟩) hq) (Nat.le_refl _) (fun r u hq => ?_)⟩
    obtain ⟨rfl, rfl⟩ := hq  -- X12_signs[R171]
    refine gT_n 1 ?_
    refine ⟨rfl, ?_⟩
    exact ⟨rfl, _, _, _, _, _, _, _, _, mB_len rfl, mB_fin (q := qKey t W z) hB ⟨rfl, rfl, rfl, rfl⟩ ⟨rfl, rfl⟩ ⟨by rw [upd_ne (by omega), upd_ne (by omega), upd_y (by omega)]; rw [show (qKey t W z).2.2.2.2.2.1.1 = (kg (W.2.1 z) 0).1 from rfl, kg_out (by omega)], by rw [upd_ne (by omega), upd_y (by omega)]; rw [show (qKey t W z).2.2.2.2.2.1.2.1 = (kg (W.2.1 z) 1).1 from rfl, kg_out (by omega)], by rw [upd_y (by omega)]; rw [show (qKey t W z).2.2.2.2.2.1.2.2 = (kg (W.2.1 z) 2).1 from rfl, kg_out (by omega)]⟩ (fun j hj => by rw [upd_ne (by omega), upd_ne (by omega), upd_ne (by omega)]) rfl⟩
  · refine gT_n 14 ?_
    refine ⟨rfl, rfl, (pk_in z 4 (by omega) (rfl)), rfl, rfl, (pk_in z 4 (by omega) (rfl)), rfl, rfl, gTM.useA (m_comes (k := l.length) (kk := 1) (zz := nI z) (oo := lN (mo (t.2.1 z))) (xx := lN (mo 0)) (ss := 0) (gg := W.2.2.2.1 z) hl) (Nat.le_refl _) (aR (aI (rfl) (aI (rfl) (aL ((rdJ (rfl) (by omega) (hT.2.1 _ hzz))) (aL (rfl) (aI (rfl) (aI ((rdI (rfl) (by omega) (mAc_at hac hzz hs))) (rfl)))))))) (fun r u hq => ?_)⟩
    obtain ⟨rfl, rfl⟩ := hq  -- X12_comes[R171, K1, nI z, L(lN (mo (t.2.1 z))), lN 0, K0, (W.2.2.2.1 z)]
    refine gT_n 8 ?_
    refine ⟨rfl, rfl, (pk_in z 4 (by omega) (rfl)), fun c => absurd c (kpT (p := fun z : Int32 => ¬ (z ≤ 0)) (show _ = (1 : Int32) from (rdI (rfl) (by omega) (hm1.trans (congrArg nI hn)))) (by decide)), fun _ => ?_⟩
    refine gT_n 19 ?_
    refine ⟨rfl, rfl, rfl, rfl, (pk_in ((3 * z) + 0) 12 (by omega) (pk_addE (n := (3 * z)) (k := 0) (pk_mulE (n := 3) (k := z) (rfl) (rfl)) (rfl))), rfl, (pk_inS (m := 30) (k := ((3 * (((l.length + 1)) - 1)) + 0)) (rfl) (by omega) (pk_addE (n := (3 * (((l.length + 1)) - 1))) (k := 0) (pk_mulE (n := 3) (k := (((l.length + 1)) - 1)) (rfl) (pk_subE (n := ((l.length + 1))) (k := 1) (rfl) (rfl) (by omega))) (rfl))), ?_⟩
    refine gT_b_nu (n := ((3 * (((l.length + 1)) - 1)) + 0)) (X := (kg (W.2.1 z) 0).1) (pk_addE (n := (3 * (((l.length + 1)) - 1))) (k := 0) (pk_mulE (n := 3) (k := (((l.length + 1)) - 1)) (rfl) (pk_subE (n := ((l.length + 1))) (k := 1) (rfl) (rfl) (by omega))) (rfl)) (by omega) ((rdI (Eq.trans (pk_addE (n := (3 * z)) (k := 0) (pk_mulE (n := 3) (k := z) (rfl) (rfl)) (rfl)) (congrArg nI (show ((3 * z) + 0) = 3 * z + 0 by omega))) (by omega) (hm2 0 (by omega)).1)) ?_
    refine gT_n 8 ?_
    refine ⟨rfl, rfl, (pk_in z 4 (by omega) (rfl)), fun _ => ?_, fun c => absurd (kpT (p := fun z : Int32 => z ≤ 1) (show _ = (1 : Int32) from (rdI (rfl) (by omega) (hm1.trans (congrArg nI hn)))) (by decide)) c⟩
    refine gT_n 2 ?_
    refine ⟨rfl, rfl, gTM.use (m_signs (k := l.length) (t := t) (q := qMk (qKey t W z) (mk l.length)) hl (mI_fin (q := qKey t W z) ⟨rfl, rfl, rfl, rfl⟩ ⟨rfl, rfl⟩ ⟨by rw [upd_y (by omega)]; rfl, by rw [upd_ne (by omega), upd_ne (by omega), upd_y (by omega)]; rw [show (qKey t W z).2.2.2.2.2.1.2.1 = (kg (W.2.1 z) 1).1 from rfl, kg_out (by omega)], by rw [upd_ne (by omega), upd_y (by omega)]; rw [show (qKey t W z).2.2.2.2.2.1.2.2 = (kg (W.2.1 z) 2).1 from rfl, kg_out (by omega)]⟩) hq) (Nat.le_refl _) (fun r u hq => ?_)⟩
    obtain ⟨rfl, rfl⟩ := hq  -- X12_signs[R171]
    refine gT_n 1 ?_
    refine ⟨rfl, ?_⟩
    exact ⟨rfl, _, _, _, _, _, _, _, _, mB_len rfl, mB_fin (q := qKey t W z) hB ⟨rfl, rfl, rfl, rfl⟩ ⟨rfl, rfl⟩ ⟨by rw [upd_y (by omega)]; rfl, by rw [upd_ne (by omega), upd_ne (by omega), upd_y (by omega)]; rw [show (qKey t W z).2.2.2.2.2.1.2.1 = (kg (W.2.1 z) 1).1 from rfl, kg_out (by omega)], by rw [upd_ne (by omega), upd_y (by omega)]; rw [show (qKey t W z).2.2.2.2.2.1.2.2 = (kg (W.2.1 z) 2).1 from rfl, kg_out (by omega)]⟩ (fun j hj => by rw [upd_ne (by omega), upd_ne (by omega), upd_ne (by omega), upd_ne (by omega)]) rfl⟩
  · refine gT_n 14 ?_
    refine ⟨rfl, rfl, (pk_in z 4 (by omega) (rfl)), rfl, rfl, (pk_in z 4 (by omega) (rfl)), rfl, rfl, gTM.useA (m_comes (k := l.length) (kk := 1) (zz := nI z) (oo := lN (mo (t.2.1 z))) (xx := lN (mo 0)) (ss := 0) (gg := W.2.2.2.1 z) hl) (Nat.le_refl _) (aR (aI (rfl) (aI (rfl) (aL ((rdJ (rfl) (by omega) (hT.2.1 _ hzz))) (aL (rfl) (aI (rfl) (aI ((rdI (rfl) (by omega) (mAc_at hac hzz hs))) (rfl)))))))) (fun r u hq => ?_)⟩
    obtain ⟨rfl, rfl⟩ := hq  -- X12_comes[R171, K1, nI z, L(lN (mo (t.2.1 z))), lN 0, K0, (W.2.2.2.1 z)]
    refine gT_n 8 ?_
    refine ⟨rfl, rfl, (pk_in z 4 (by omega) (rfl)), fun c => absurd c (kpT (p := fun z : Int32 => ¬ (z ≤ 0)) (show _ = (2 : Int32) from (rdI (rfl) (by omega) (hm1.trans (congrArg nI hn)))) (by decide)), fun _ => ?_⟩
    refine gT_n 19 ?_
    refine ⟨rfl, rfl, rfl, rfl, (pk_in ((3 * z) + 0) 12 (by omega) (pk_addE (n := (3 * z)) (k := 0) (pk_mulE (n := 3) (k := z) (rfl) (rfl)) (rfl))), rfl, (pk_inS (m := 30) (k := ((3 * (((l.length + 1)) - 1)) + 0)) (rfl) (by omega) (pk_addE (n := (3 * (((l.length + 1)) - 1))) (k := 0) (pk_mulE (n := 3) (k := (((l.length + 1)) - 1)) (rfl) (pk_subE (n := ((l.length + 1))) (k := 1) (rfl) (rfl) (by omega))) (rfl))), ?_⟩
    refine gT_b_nu (n := ((3 * (((l.length + 1)) - 1)) + 0)) (X := (kg (W.2.1 z) 0).1) (pk_addE (n := (3 * (((l.length + 1)) - 1))) (k := 0) (pk_mulE (n := 3) (k := (((l.length + 1)) - 1)) (rfl) (pk_subE (n := ((l.length + 1))) (k := 1) (rfl) (rfl) (by omega))) (rfl)) (by omega) ((rdI (Eq.trans (pk_addE (n := (3 * z)) (k := 0) (pk_mulE (n := 3) (k := z) (rfl) (rfl)) (rfl)) (congrArg nI (show ((3 * z) + 0) = 3 * z + 0 by omega))) (by omega) (hm2 0 (by omega)).1)) ?_
    refine gT_n 8 ?_
    refine ⟨rfl, rfl, (pk_in z 4 (by omega) (rfl)), fun c => absurd c (kpT (p := fun z : Int32 => ¬ (z ≤ 1)) (show _ = (2 : Int32) from (rdI (rfl) (by omega) (hm1.trans (congrArg nI hn)))) (by decide)), fun _ => ?_⟩
    refine gT_n 19 ?_
    refine ⟨rfl, rfl, rfl, rfl, (pk_in ((3 * z) + 1) 12 (by omega) (pk_addE (n := (3 * z)) (k := 1) (pk_mulE (n := 3) (k := z) (rfl) (rfl)) (rfl))), rfl, (pk_inS (m := 30) (k := ((3 * (((l.length + 1)) - 1)) + 1)) (rfl) (by omega) (pk_addE (n := (3 * (((l.length + 1)) - 1))) (k := 1) (pk_mulE (n := 3) (k := (((l.length + 1)) - 1)) (rfl) (pk_subE (n := ((l.length + 1))) (k := 1) (rfl) (rfl) (by omega))) (rfl))), ?_⟩
    refine gT_b_nu (n := ((3 * (((l.length + 1)) - 1)) + 1)) (X := (kg (W.2.1 z) 1).1) (pk_addE (n := (3 * (((l.length + 1)) - 1))) (k := 1) (pk_mulE (n := 3) (k := (((l.length + 1)) - 1)) (rfl) (pk_subE (n := ((l.length + 1))) (k := 1) (rfl) (rfl) (by omega))) (rfl)) (by omega) ((rdI (Eq.trans (pk_addE (n := (3 * z)) (k := 1) (pk_mulE (n := 3) (k := z) (rfl) (rfl)) (rfl)) (congrArg nI (show ((3 * z) + 1) = 3 * z + 1 by omega))) (by omega) (hm2 1 (by omega)).1)) ?_
    refine gT_n 8 ?_
    refine ⟨rfl, rfl, (pk_in z 4 (by omega) (rfl)), fun _ => ?_, fun c => absurd (kpT (p := fun z : Int32 => z ≤ 2) (show _ = (2 : Int32) from (rdI (rfl) (by omega) (hm1.trans (congrArg nI hn)))) (by decide)) c⟩
    refine gT_n 2 ?_
    refine ⟨rfl, rfl, gTM.use (m_signs (k := l.length) (t := t) (q := qMk (qKey t W z) (mk l.length)) hl (mI_fin (q := qKey t W z) ⟨rfl, rfl, rfl, rfl⟩ ⟨rfl, rfl⟩ ⟨by rw [upd_ne (by omega), upd_y (by omega)]; rfl, by rw [upd_y (by omega)]; rfl, by rw [upd_ne (by omega), upd_ne (by omega), upd_y (by omega)]; rw [show (qKey t W z).2.2.2.2.2.1.2.2 = (kg (W.2.1 z) 2).1 from rfl, kg_out (by omega)]⟩) hq) (Nat.le_refl _) (fun r u hq => ?_)⟩
    obtain ⟨rfl, rfl⟩ := hq  -- X12_signs[R171]
    refine gT_n 1 ?_
    refine ⟨rfl, ?_⟩
    exact ⟨rfl, _, _, _, _, _, _, _, _, mB_len rfl, mB_fin (q := qKey t W z) hB ⟨rfl, rfl, rfl, rfl⟩ ⟨rfl, rfl⟩ ⟨by rw [upd_ne (by omega), upd_y (by omega)]; rfl, by rw [upd_y (by omega)]; rfl, by rw [upd_ne (by omega), upd_ne (by omega), upd_y (by omega)]; rw [show (qKey t W z).2.2.2.2.2.1.2.2 = (kg (W.2.1 z) 2).1 from rfl, kg_out (by omega)]⟩ (fun j hj => by rw [upd_ne (by omega), upd_ne (by omega), upd_ne (by omega), upd_ne (by omega), upd_ne (by omega)]) rfl⟩
  · refine gT_n 14 ?_
    refine ⟨rfl, rfl, (pk_in z 4 (by omega) (rfl)), rfl, rfl, (pk_in z 4 (by omega) (rfl)), rfl, rfl, gTM.useA (m_comes (k := l.length) (kk := 1) (zz := nI z) (oo := lN (mo (t.2.1 z))) (xx := lN (mo 0)) (ss := 0) (gg := W.2.2.2.1 z) hl) (Nat.le_refl _) (aR (aI (rfl) (aI (rfl) (aL ((rdJ (rfl) (by omega) (hT.2.1 _ hzz))) (aL (rfl) (aI (rfl) (aI ((rdI (rfl) (by omega) (mAc_at hac hzz hs))) (rfl)))))))) (fun r u hq => ?_)⟩
    obtain ⟨rfl, rfl⟩ := hq  -- X12_comes[R171, K1, nI z, L(lN (mo (t.2.1 z))), lN 0, K0, (W.2.2.2.1 z)]
    refine gT_n 8 ?_
    refine ⟨rfl, rfl, (pk_in z 4 (by omega) (rfl)), fun c => absurd c (kpT (p := fun z : Int32 => ¬ (z ≤ 0)) (show _ = (3 : Int32) from (rdI (rfl) (by omega) (hm1.trans (congrArg nI hn)))) (by decide)), fun _ => ?_⟩
    refine gT_n 19 ?_
    refine ⟨rfl, rfl, rfl, rfl, (pk_in ((3 * z) + 0) 12 (by omega) (pk_addE (n := (3 * z)) (k := 0) (pk_mulE (n := 3) (k := z) (rfl) (rfl)) (rfl))), rfl, (pk_inS (m := 30) (k := ((3 * (((l.length + 1)) - 1)) + 0)) (rfl) (by omega) (pk_addE (n := (3 * (((l.length + 1)) - 1))) (k := 0) (pk_mulE (n := 3) (k := (((l.length + 1)) - 1)) (rfl) (pk_subE (n := ((l.length + 1))) (k := 1) (rfl) (rfl) (by omega))) (rfl))), ?_⟩
    refine gT_b_nu (n := ((3 * (((l.length + 1)) - 1)) + 0)) (X := (kg (W.2.1 z) 0).1) (pk_addE (n := (3 * (((l.length + 1)) - 1))) (k := 0) (pk_mulE (n := 3) (k := (((l.length + 1)) - 1)) (rfl) (pk_subE (n := ((l.length + 1))) (k := 1) (rfl) (rfl) (by omega))) (rfl)) (by omega) ((rdI (Eq.trans (pk_addE (n := (3 * z)) (k := 0) (pk_mulE (n := 3) (k := z) (rfl) (rfl)) (rfl)) (congrArg nI (show ((3 * z) + 0) = 3 * z + 0 by omega))) (by omega) (hm2 0 (by omega)).1)) ?_
    refine gT_n 8 ?_
    refine ⟨rfl, rfl, (pk_in z 4 (by omega) (rfl)), fun c => absurd c (kpT (p := fun z : Int32 => ¬ (z ≤ 1)) (show _ = (3 : Int32) from (rdI (rfl) (by omega) (hm1.trans (congrArg nI hn)))) (by decide)), fun _ => ?_⟩
    refine gT_n 19 ?_
    refine ⟨rfl, rfl, rfl, rfl, (pk_in ((3 * z) + 1) 12 (by omega) (pk_addE (n := (3 * z)) (k := 1) (pk_mulE (n := 3) (k := z) (rfl) (rfl)) (rfl))), rfl, (pk_inS (m := 30) (k := ((3 * (((l.length + 1)) - 1)) + 1)) (rfl) (by omega) (pk_addE (n := (3 * (((l.length + 1)) - 1))) (k := 1) (pk_mulE (n := 3) (k := (((l.length + 1)) - 1)) (rfl) (pk_subE (n := ((l.length + 1))) (k := 1) (rfl) (rfl) (by omega))) (rfl))), ?_⟩
    refine gT_b_nu (n := ((3 * (((l.length + 1)) - 1)) + 1)) (X := (kg (W.2.1 z) 1).1) (pk_addE (n := (3 * (((l.length + 1)) - 1))) (k := 1) (pk_mulE (n := 3) (k := (((l.length + 1)) - 1)) (rfl) (pk_subE (n := ((l.length + 1))) (k := 1) (rfl) (rfl) (by omega))) (rfl)) (by omega) ((rdI (Eq.trans (pk_addE (n := (3 * z)) (k := 1) (pk_mulE (n := 3) (k := z) (rfl) (rfl)) (rfl)) (congrArg nI (show ((3 * z) + 1) = 3 * z + 1 by omega))) (by omega) (hm2 1 (by omega)).1)) ?_
    refine gT_n 8 ?_
    refine ⟨rfl, rfl, (pk_in z 4 (by omega) (rfl)), fun c => absurd c (kpT (p := fun z : Int32 => ¬ (z ≤ 2)) (show _ = (3 : Int32) from (rdI (rfl) (by omega) (hm1.trans (congrArg nI hn)))) (by decide)), fun _ => ?_⟩
    refine gT_n 19 ?_
    refine ⟨rfl, rfl, rfl, rfl, (pk_in ((3 * z) + 2) 12 (by omega) (pk_addE (n := (3 * z)) (k := 2) (pk_mulE (n := 3) (k := z) (rfl) (rfl)) (rfl))), rfl, (pk_inS (m := 30) (k := ((3 * (((l.length + 1)) - 1)) + 2)) (rfl) (by omega) (pk_addE (n := (3 * (((l.length + 1)) - 1))) (k := 2) (pk_mulE (n := 3) (k := (((l.length + 1)) - 1)) (rfl) (pk_subE (n := ((l.length + 1))) (k := 1) (rfl) (rfl) (by omega))) (rfl))), ?_⟩
    refine gT_b_nu (n := ((3 * (((l.length + 1)) - 1)) + 2)) (X := (kg (W.2.1 z) 2).1) (pk_addE (n := (3 * (((l.length + 1)) - 1))) (k := 2) (pk_mulE (n := 3) (k := (((l.length + 1)) - 1)) (rfl) (pk_subE (n := ((l.length + 1))) (k := 1) (rfl) (rfl) (by omega))) (rfl)) (by omega) ((rdI (Eq.trans (pk_addE (n := (3 * z)) (k := 2) (pk_mulE (n := 3) (k := z) (rfl) (rfl)) (rfl)) (congrArg nI (show ((3 * z) + 2) = 3 * z + 2 by omega))) (by omega) (hm2 2 (by omega)).1)) ?_
    refine gT_n 8 ?_
    refine ⟨rfl, rfl, (pk_in z 4 (by omega) (rfl)), fun _ => ?_, fun c => absurd (kpT (p := fun z : Int32 => z ≤ 3) (show _ = (3 : Int32) from (rdI (rfl) (by omega) (hm1.trans (congrArg nI hn)))) (by decide)) c⟩
    refine gT_n 2 ?_
    refine ⟨rfl, rfl, gTM.use (m_signs (k := l.length) (t := t) (q := qMk (qKey t W z) (mk l.length)) hl (mI_fin (q := qKey t W z) ⟨rfl, rfl, rfl, rfl⟩ ⟨rfl, rfl⟩ ⟨by rw [upd_ne (by omega), upd_ne (by omega), upd_y (by omega)]; rfl, by rw [upd_ne (by omega), upd_y (by omega)]; rfl, by rw [upd_y (by omega)]; rfl⟩) hq) (Nat.le_refl _) (fun r u hq => ?_)⟩
    obtain ⟨rfl, rfl⟩ := hq  -- X12_signs[R171]
    refine gT_n 1 ?_
    refine ⟨rfl, ?_⟩
    exact ⟨rfl, _, _, _, _, _, _, _, _, mB_len rfl, mB_fin (q := qKey t W z) hB ⟨rfl, rfl, rfl, rfl⟩ ⟨rfl, rfl⟩ ⟨by rw [upd_ne (by omega), upd_ne (by omega), upd_y (by omega)]; rfl, by rw [upd_ne (by omega), upd_y (by omega)]; rfl, by rw [upd_y (by omega)]; rfl⟩ (fun j hj => by rw [upd_ne (by omega), upd_ne (by omega), upd_ne (by omega), upd_ne (by omega), upd_ne (by omega), upd_ne (by omega)]) rfl⟩
theorem m_digestsCome {d z : Nat} {I : Nat → Nat → Int32} {J : Nat → Nat → Int64} {P : Nat → Nat} {kd zn so nu sg mk : Nat → Int32} {jo jx : Nat → Int64} {t : zT} {W : zW} {lm : zR} (hz : zOK t) (oW : wOK t W) (hT : mT (I 171 2) (J 172) (I 173) t) (hr : rOK lm) (hp : lm.Perm W.1) (hR : mR (I 171 7) (J 174) (I 175) (I 176) lm) (hac : mAc (I 180) t W.2.2.2.1) {l : List zI} (hl : l.length < 10) (hB : mB kd zn so nu sg mk jo jx l) (hK : mKs 2 (I 183) (I 181) (I 182) W.2.2.1) (h1 : 1 ≤ z) (hzz : z < t.1) (hs : t.2.2.1 (zpa t z) = true) : gTM (d + 7) 223 [.ref 171, .int (nI z)] (gST (bM I (nI l.length) kd zn so nu sg mk) (bMJ J jo jx) P) (fun r u => r = none ∧ ∃ kd' zn' so' nu' sg' mk' jo' jx', u = gST (bM I (nI (l ++ [qS (qDig t W z)]).length) kd' zn' so' nu' sg' mk') (bMJ J jo' jx') P ∧ mB kd' zn' so' nu' sg' mk' jo' jx' (l ++ [qS (qDig t W z)])) := by
  have h4 := hz.2.1
  have hpp : zpa t z < t.1 := zof_lt hz _
  have hq : iOK t (qDig t W z) := iOK_dig hz oW hzz hs
  obtain ⟨hm1, hm2⟩ := hK z (by omega)
  have hl3 : (W.2.2.1 z).length ≤ 2 := oW.2.2.1 z (by omega)
  have hcs : (W.2.2.1 z).length = 0 ∨ (W.2.2.1 z).length = 1 ∨ (W.2.2.1 z).length = 2 := by omega
  rcases hcs with hn | hn | hn
  · refine gT_n 14 ?_
    refine ⟨rfl, rfl, (pk_in z 4 (by omega) (rfl)), rfl, rfl, rfl, gTM.use (m_parentOf1 (I := bM I _ _ _ _ _ _ _) (J := bMJ J _ _) hz hT h1 hzz) (Nat.le_refl _) (fun r u hq => ?_)⟩
    obtain ⟨rfl, rfl⟩ := hq  -- X12_parentOf[R171, nI z]
    refine gT_n 2 ?_
    refine ⟨rfl, (pk_in ((zpa t z)) 4 (by omega) (rfl)), rfl, rfl, gTM.useA (m_comes (k := l.length) (kk := 0) (zz := nI z) (oo := lN (mo (t.2.1 z))) (xx := lN (mo 0)) (ss := 0) (gg := W.2.2.2.1 (zpa t z)) hl) (Nat.le_refl _) (aR (aI (rfl) (aI (rfl) (aL ((rdJ (rfl) (by omega) (hT.2.1 _ hzz))) (aL (rfl) (aI (rfl) (aI ((rdI (rfl) (by omega) (mAc_at hac hpp hs))) (rfl)))))))) (fun r u hq => ?_)⟩
    obtain ⟨rfl, rfl⟩ := hq  -- X12_comes[R171, K0, nI z, L(lN (mo (t.2.1 z))), lN 0, K0, (W.2.2.2.1 ((zpa t z)))]
    refine gT_n 8 ?_
    refine ⟨rfl, rfl, (pk_in z 4 (by omega) (rfl)), fun _ => ?_, fun c => absurd (kpT (p := fun z : Int32 => z ≤ 0) (show _ = (0 : Int32) from (rdI (rfl) (by omega) (hm1.trans (congrArg nI hn)))) (by decide)) c⟩
    refine gT_n 2 ?_
    refine ⟨rfl, rfl, gTM.use (m_signs (k := l.length) (t := t) (q := qMk (qDig t W z) (mk l.length)) hl (mI_fin (q := qDig t W z) ⟨rfl, rfl, rfl, rfl⟩ ⟨rfl, rfl⟩ ⟨by rw [upd_ne (by omega), upd_ne (by omega), upd_y (by omega)]; rw [show (qDig t W z).2.2.2.2.2.1.1 = (kg (W.2.2.1 z) 0).1 from rfl, kg_out (by omega)], by rw [upd_ne (by omega), upd_y (by omega)]; rw [show (qDig t W z).2.2.2.2.2.1.2.1 = (kg (W.2.2.1 z) 1).1 from rfl, kg_out (by omega)], by rw [upd_y (by omega)]; rw [show (qDig t W z).2.2.2.2.2.1.2.2 = (kg (W.2.2.1 z) 2).1 from rfl, kg_out (by omega)]⟩) hq) (Nat.le_refl _) (fun r u hq => ?_)⟩
    obtain ⟨rfl, rfl⟩ := hq  -- X12_signs[R171]
    refine gT_n 1 ?_
    refine ⟨rfl, ?_⟩
    exact ⟨rfl, _, _, _, _, _, _, _, _, mB_len rfl, mB_fin (q := qDig t W z) hB ⟨rfl, rfl, rfl, rfl⟩ ⟨rfl, rfl⟩ ⟨by rw [upd_ne (by omega), upd_ne (by omega), upd_y (by omega)]; rw [show (qDig t W z).2.2.2.2.2.1.1 = (kg (W.2.2.1 z) 0).1 from rfl, kg_out (by omega)], by rw [upd_ne (by omega), upd_y (by omega)]; rw [show (qDig t W z).2.2.2.2.2.1.2.1 = (kg (W.2.2.1 z) 1).1 from rfl, kg_out (by omega)], by rw [upd_y (by omega)]; rw [show (qDig t W z).2.2.2.2.2.1.2.2 = (kg (W.2.2.1 z) 2).1 from rfl, kg_out (by omega)]⟩ (fun j hj => by rw [upd_ne (by omega), upd_ne (by omega), upd_ne (by omega)]) rfl⟩
  · refine gT_n 14 ?_
    refine ⟨rfl, rfl, (pk_in z 4 (by omega) (rfl)), rfl, rfl, rfl, gTM.use (m_parentOf1 (I := bM I _ _ _ _ _ _ _) (J := bMJ J _ _) hz hT h1 hzz) (Nat.le_refl _) (fun r u hq => ?_)⟩
    obtain ⟨rfl, rfl⟩ := hq  -- X12_parentOf[R171, nI z]
    refine gT_n 2 ?_
    refine ⟨rfl, (pk_in ((zpa t z)) 4 (by omega) (rfl)), rfl, rfl, gTM.useA (m_comes (k := l.length) (kk := 0) (zz := nI z) (oo := lN (mo (t.2.1 z))) (xx := lN (mo 0)) (ss := 0) (gg := W.2.2.2.1 (zpa t z)) hl) (Nat.le_refl _) (aR (aI (rfl) (aI (rfl) (aL ((rdJ (rfl) (by omega) (hT.2.1 _ hzz))) (aL (rfl) (aI (rfl) (aI ((rdI (rfl) (by omega) (mAc_at hac hpp hs))) (rfl)))))))) (fun r u hq => ?_)⟩
    obtain ⟨rfl, rfl⟩ := hq  -- X12_comes[R171, K0, nI z, L(lN (mo (t.2.1 z))), lN 0, K0, (W.2.2.2.1 ((zpa t z)))]
    refine gT_n 8 ?_
    refine ⟨rfl, rfl, (pk_in z 4 (by omega) (rfl)), fun c => absurd c (kpT (p := fun z : Int32 => ¬ (z ≤ 0)) (show _ = (1 : Int32) from (rdI (rfl) (by omega) (hm1.trans (congrArg nI hn)))) (by decide)), fun _ => ?_⟩
    refine gT_n 19 ?_
    refine ⟨rfl, rfl, rfl, rfl, (pk_in ((2 * z) + 0) 8 (by omega) (pk_addE (n := (2 * z)) (k := 0) (pk_mulE (n := 2) (k := z) (rfl) (rfl)) (rfl))), rfl, (pk_inS (m := 30) (k := ((3 * (((l.length + 1)) - 1)) + 0)) (rfl) (by omega) (pk_addE (n := (3 * (((l.length + 1)) - 1))) (k := 0) (pk_mulE (n := 3) (k := (((l.length + 1)) - 1)) (rfl) (pk_subE (n := ((l.length + 1))) (k := 1) (rfl) (rfl) (by omega))) (rfl))), ?_⟩
    refine gT_b_nu (n := ((3 * (((l.length + 1)) - 1)) + 0)) (X := (kg (W.2.2.1 z) 0).1) (pk_addE (n := (3 * (((l.length + 1)) - 1))) (k := 0) (pk_mulE (n := 3) (k := (((l.length + 1)) - 1)) (rfl) (pk_subE (n := ((l.length + 1))) (k := 1) (rfl) (rfl) (by omega))) (rfl)) (by omega) ((rdI (Eq.trans (pk_addE (n := (2 * z)) (k := 0) (pk_mulE (n := 2) (k := z) (rfl) (rfl)) (rfl)) (congrArg nI (show ((2 * z) + 0) = 2 * z + 0 by omega))) (by omega) (hm2 0 (by omega)).1)) ?_
    refine gT_n 8 ?_
    refine ⟨rfl, rfl, (pk_in z 4 (by omega) (rfl)), fun _ => ?_, fun c => absurd (kpT (p := fun z : Int32 => z ≤ 1) (show _ = (1 : Int32) from (rdI (rfl) (by omega) (hm1.trans (congrArg nI hn)))) (by decide)) c⟩
    refine gT_n 2 ?_
    refine ⟨rfl, rfl, gTM.use (m_signs (k := l.length) (t := t) (q := qMk (qDig t W z) (mk l.length)) hl (mI_fin (q := qDig t W z) ⟨rfl, rfl, rfl, rfl⟩ ⟨rfl, rfl⟩ ⟨by rw [upd_y (by omega)]; rfl, by rw [upd_ne (by omega), upd_ne (by omega), upd_y (by omega)]; rw [show (qDig t W z).2.2.2.2.2.1.2.1 = (kg (W.2.2.1 z) 1).1 from rfl, kg_out (by omega)], by rw [upd_ne (by omega), upd_y (by omega)]; rw [show (qDig t W z).2.2.2.2.2.1.2.2 = (kg (W.2.2.1 z) 2).1 from rfl, kg_out (by omega)]⟩) hq) (Nat.le_refl _) (fun r u hq => ?_)⟩
    obtain ⟨rfl, rfl⟩ := hq  -- X12_signs[R171]
    refine gT_n 1 ?_
    refine ⟨rfl, ?_⟩
    exact ⟨rfl, _, _, _, _, _, _, _, _, mB_len rfl, mB_fin (q := qDig t W z) hB ⟨rfl, rfl, rfl, rfl⟩ ⟨rfl, rfl⟩ ⟨by rw [upd_y (by omega)]; rfl, by rw [upd_ne (by omega), upd_ne (by omega), upd_y (by omega)]; rw [show (qDig t W z).2.2.2.2.2.1.2.1 = (kg (W.2.2.1 z) 1).1 from rfl, kg_out (by omega)], by rw [upd_ne (by omega), upd_y (by omega)]; rw [show (qDig t W z).2.2.2.2.2.1.2.2 = (kg (W.2.2.1 z) 2).1 from rfl, kg_out (by omega)]⟩ (fun j hj => by rw [upd_ne (by omega), upd_ne (by omega), upd_ne (by omega), upd_ne (by omega)]) rfl⟩
  · refine gT_n 14 ?_
    refine ⟨rfl, rfl, (pk_in z 4 (by omega) (rfl)), rfl, rfl, rfl, gTM.use (m_parentOf1 (I := bM I _ _ _ _ _ _ _) (J := bMJ J _ _) hz hT h1 hzz) (Nat.le_refl _) (fun r u hq => ?_)⟩
    obtain ⟨rfl, rfl⟩ := hq  -- X12_parentOf[R171, nI z]
    refine gT_n 2 ?_
    refine ⟨rfl, (pk_in ((zpa t z)) 4 (by omega) (rfl)), rfl, rfl, gTM.useA (m_comes (k := l.length) (kk := 0) (zz := nI z) (oo := lN (mo (t.2.1 z))) (xx := lN (mo 0)) (ss := 0) (gg := W.2.2.2.1 (zpa t z)) hl) (Nat.le_refl _) (aR (aI (rfl) (aI (rfl) (aL ((rdJ (rfl) (by omega) (hT.2.1 _ hzz))) (aL (rfl) (aI (rfl) (aI ((rdI (rfl) (by omega) (mAc_at hac hpp hs))) (rfl)))))))) (fun r u hq => ?_)⟩
    obtain ⟨rfl, rfl⟩ := hq  -- X12_comes[R171, K0, nI z, L(lN (mo (t.2.1 z))), lN 0, K0, (W.2.2.2.1 ((zpa t z)))]
    refine gT_n 8 ?_
    refine ⟨rfl, rfl, (pk_in z 4 (by omega) (rfl)), fun c => absurd c (kpT (p := fun z : Int32 => ¬ (z ≤ 0)) (show _ = (2 : Int32) from (rdI (rfl) (by omega) (hm1.trans (congrArg nI hn)))) (by decide)), fun _ => ?_⟩
    refine gT_n 19 ?_
    refine ⟨rfl, rfl, rfl, rfl, (pk_in ((2 * z) + 0) 8 (by omega) (pk_addE (n := (2 * z)) (k := 0) (pk_mulE (n := 2) (k := z) (rfl) (rfl)) (rfl))), rfl, (pk_inS (m := 30) (k := ((3 * (((l.length + 1)) - 1)) + 0)) (rfl) (by omega) (pk_addE (n := (3 * (((l.length + 1)) - 1))) (k := 0) (pk_mulE (n := 3) (k := (((l.length + 1)) - 1)) (rfl) (pk_subE (n := ((l.length + 1))) (k := 1) (rfl) (rfl) (by omega))) (rfl))), ?_⟩
    refine gT_b_nu (n := ((3 * (((l.length + 1)) - 1)) + 0)) (X := (kg (W.2.2.1 z) 0).1) (pk_addE (n := (3 * (((l.length + 1)) - 1))) (k := 0) (pk_mulE (n := 3) (k := (((l.length + 1)) - 1)) (rfl) (pk_subE (n := ((l.length + 1))) (k := 1) (rfl) (rfl) (by omega))) (rfl)) (by omega) ((rdI (Eq.trans (pk_addE (n := (2 * z)) (k := 0) (pk_mulE (n := 2) (k := z) (rfl) (rfl)) (rfl)) (congrArg nI (show ((2 * z) + 0) = 2 * z + 0 by omega))) (by omega) (hm2 0 (by omega)).1)) ?_
    refine gT_n 8 ?_
    refine ⟨rfl, rfl, (pk_in z 4 (by omega) (rfl)), fun c => absurd c (kpT (p := fun z : Int32 => ¬ (z ≤ 1)) (show _ = (2 : Int32) from (rdI (rfl) (by omega) (hm1.trans (congrArg nI hn)))) (by decide)), fun _ => ?_⟩
    refine gT_n 19 ?_
    refine ⟨rfl, rfl, rfl, rfl, (pk_in ((2 * z) + 1) 8 (by omega) (pk_addE (n := (2 * z)) (k := 1) (pk_mulE (n := 2) (k := z) (rfl) (rfl)) (rfl))), rfl, (pk_inS (m := 30) (k := ((3 * (((l.length + 1)) - 1)) + 1)) (rfl) (by omega) (pk_addE (n := (3 * (((l.length + 1)) - 1))) (k := 1) (pk_mulE (n := 3) (k := (((l.length + 1)) - 1)) (rfl) (pk_subE (n := ((l.length + 1))) (k := 1) (rfl) (rfl) (by omega))) (rfl))), ?_⟩
    refine gT_b_nu (n := ((3 * (((l.length + 1)) - 1)) + 1)) (X := (kg (W.2.2.1 z) 1).1) (pk_addE (n := (3 * (((l.length + 1)) - 1))) (k := 1) (pk_mulE (n := 3) (k := (((l.length + 1)) - 1)) (rfl) (pk_subE (n := ((l.length + 1))) (k := 1) (rfl) (rfl) (by omega))) (rfl)) (by omega) ((rdI (Eq.trans (pk_addE (n := (2 * z)) (k := 1) (pk_mulE (n := 2) (k := z) (rfl) (rfl)) (rfl)) (congrArg nI (show ((2 * z) + 1) = 2 * z + 1 by omega))) (by omega) (hm2 1 (by omega)).1)) ?_
    refine gT_n 8 ?_
    refine ⟨rfl, rfl, (pk_in z 4 (by omega) (rfl)), fun _ => ?_, fun c => absurd (kpT (p := fun z : Int32 => z ≤ 2) (show _ = (2 : Int32) from (rdI (rfl) (by omega) (hm1.trans (congrArg nI hn)))) (by decide)) c⟩
    refine gT_n 2 ?_
    refine ⟨rfl, rfl, gTM.use (m_signs (k := l.length) (t := t) (q := qMk (qDig t W z) (mk l.length)) hl (mI_fin (q := qDig t W z) ⟨rfl, rfl, rfl, rfl⟩ ⟨rfl, rfl⟩ ⟨by rw [upd_ne (by omega), upd_y (by omega)]; rfl, by rw [upd_y (by omega)]; rfl, by rw [upd_ne (by omega), upd_ne (by omega), upd_y (by omega)]; rw [show (qDig t W z).2.2.2.2.2.1.2.2 = (kg (W.2.2.1 z) 2).1 from rfl, kg_out (by omega)]⟩) hq) (Nat.le_refl _) (fun r u hq => ?_)⟩
    obtain ⟨rfl, rfl⟩ := hq  -- X12_signs[R171]
    refine gT_n 1 ?_
    refine ⟨rfl, ?_⟩
    exact ⟨rfl, _, _, _, _, _, _, _, _, mB_len rfl, mB_fin (q := qDig t W z) hB ⟨rfl, rfl, rfl, rfl⟩ ⟨rfl, rfl⟩ ⟨by rw [upd_ne (by omega), upd_y (by omega)]; rfl, by rw [upd_y (by omega)]; rfl, by rw [upd_ne (by omega), upd_ne (by omega), upd_y (by omega)]; rw [show (qDig t W z).2.2.2.2.2.1.2.2 = (kg (W.2.2.1 z) 2).1 from rfl, kg_out (by omega)]⟩ (fun j hj => by rw [upd_ne (by omega), upd_ne (by omega), upd_ne (by omega), upd_ne (by omega), upd_ne (by omega)]) rfl⟩
theorem m_linkComes {d z i : Nat} {I : Nat → Nat → Int32} {J : Nat → Nat → Int64} {P : Nat → Nat} {kd zn so nu sg mk : Nat → Int32} {jo jx : Nat → Int64} {t : zT} {W : zW} {lm : zR} (hz : zOK t) (oW : wOK t W) (hT : mT (I 171 2) (J 172) (I 173) t) (hr : rOK lm) (hp : lm.Perm W.1) (hR : mR (I 171 7) (J 174) (I 175) (I 176) lm) (hac : mAc (I 180) t W.2.2.2.1) {l : List zI} (hl : l.length < 10) (hB : mB kd zn so nu sg mk jo jx l) {os : zO} (hos : oIs os (fG t lm z)) (hi : i < os.length) (hzz : z < t.1) (hs : t.2.2.1 z = true) : gTM (d + 8) 224 [.ref 171, .int (nI z), .long (lN (mo (og os i).1))] (gST (bM I (nI l.length) kd zn so nu sg mk) (bMJ J jo jx) P) (fun r u => r = none ∧ ∃ kd' zn' so' nu' sg' mk' jo' jx', u = gST (bM I (nI (l ++ [qS (qLnk W z os i)]).length) kd' zn' so' nu' sg' mk') (bMJ J jo' jx') P ∧ mB kd' zn' so' nu' sg' mk' jo' jx' (l ++ [qS (qLnk W z os i)])) := by
  have h4 := hz.2.1
  have ef := (hos.2.1 i hi).1
  have hq : iOK t (qLnk W z os i) := iOK_lnk hz oW hzz hs hos hi
  refine gT_n 8 ?_
  refine ⟨rfl, rfl, gTM.use (m_nextOf (I := bM I _ _ _ _ _ _ _) (J := bMJ J _ _) hz hT hr hR hzz hos hi) (Nat.le_refl _) (fun r u hq => ?_)⟩
  obtain ⟨rfl, rfl⟩ := hq  -- X12_nextOf[R171, nI z, L(lN (mo (og os i).1))]
  refine gT_n 4 ?_
  refine ⟨rfl, rfl, gTM.use (m_sortsOf (I := bM I _ _ _ _ _ _ _) (J := bMJ J _ _) hz hT hr hR hzz (hos.2.1 i hi).2.2.2) (Nat.le_refl _) (fun r u hq => ?_)⟩
  obtain ⟨rfl, rfl⟩ := hq  -- X12_sortsOf[R171, nI z, L(lN (mo (og os i).1))]
  refine gT_n 5 ?_
  refine ⟨rfl, rfl, (pk_in z 4 (by omega) (rfl)), rfl, rfl, gTM.useA (m_comes (k := l.length) (kk := 3) (zz := nI z) (oo := lN (mo (og os i).1)) (xx := lN (mo (onx os i))) (ss := nI (fG t lm z (og os i).1)) (gg := W.2.2.2.1 z) hl) (Nat.le_refl _) (aR (aI (rfl) (aI (rfl) (aL (rfl) (aL (rfl) (aI (rfl) (aI ((rdI (rfl) (by omega) (mAc_at hac hzz hs))) (rfl)))))))) (fun r u hq => ?_)⟩
  obtain ⟨rfl, rfl⟩ := hq  -- X12_comes[R171, K3, nI z, L(lN (mo (og os i).1)), L(lN (mo (onx os i))), (nI (fG t lm z (og os i).1)), (W.2.2.2.1 z)]
  refine gT_n 2 ?_
  refine ⟨rfl, rfl, gTM.use (m_signs (k := l.length) (t := t) (q := qMk (qLnk W z os i) (mk l.length)) hl (mI_fin (q := qLnk W z os i) ⟨rfl, rfl, congrArg nI ef, rfl⟩ ⟨rfl, rfl⟩ ⟨by rw [upd_ne (by omega), upd_ne (by omega), upd_y (by omega)]; rfl, by rw [upd_ne (by omega), upd_y (by omega)]; rfl, by rw [upd_y (by omega)]; rfl⟩) hq) (Nat.le_refl _) (fun r u hq => ?_)⟩
  obtain ⟨rfl, rfl⟩ := hq  -- X12_signs[R171]
  refine gT_n 1 ?_
  refine ⟨rfl, ?_⟩
  exact ⟨rfl, _, _, _, _, _, _, _, _, mB_len rfl, mB_fin (q := qLnk W z os i) hB ⟨rfl, rfl, congrArg nI ef, rfl⟩ ⟨rfl, rfl⟩ ⟨by rw [upd_ne (by omega), upd_ne (by omega), upd_y (by omega)]; rfl, by rw [upd_ne (by omega), upd_y (by omega)]; rfl, by rw [upd_y (by omega)]; rfl⟩ (fun j hj => by rw [upd_ne (by omega), upd_ne (by omega), upd_ne (by omega)]) rfl⟩
theorem m_recY {d n s : Nat} {l : zR} {I : Nat → Nat → Int32} {J : Nat → Nat → Int64} {P : Nat → Nat} (hr : rOK l) (hR : mR (I 171 7) (J 174) (I 175) (I 176) l) (hn : vn n) (hs : s < 3) (hno : ¬ rno l n s) : gTM d 178 [.ref 171, .long (lN (mo n)), .int (nI s)] (gST I J P) (fun r u => u = gST I J P ∧ ∃ i, rhit l n s i ∧ r = some (.int (nI i))) := by
  refine gTM.use (m_recordOf_171 hr hR hn hs) (Nat.le_refl _) (fun r u h => ?_)
  obtain ⟨h1, h2 | h2⟩ := h
  · exact ⟨h1, h2⟩
  · exact absurd h2.1 hno
theorem m_recordComes {d z o s : Nat} {x : Int32} {I : Nat → Nat → Int32} {J : Nat → Nat → Int64} {P : Nat → Nat} {kd zn so nu sg mk : Nat → Int32} {jo jx : Nat → Int64} {t : zT} {W : zW} {lm : zR} (hz : zOK t) (oW : wOK t W) (hT : mT (I 171 2) (J 172) (I 173) t) (hr : rOK lm) (hp : lm.Perm W.1) (hR : mR (I 171 7) (J 174) (I 175) (I 176) lm) (hac : mAc (I 180) t W.2.2.2.1) {l : List zI} (hl : l.length < 10) (hB : mB kd zn so nu sg mk jo jx l) (hx0 : rVal W.1 o s x) (hno : ¬ rno lm o s) (ho : vn o) (h3 : s < 3) (hzz : z < t.1) (hs : t.2.2.1 z = true) : gTM (d + 7) 225 [.ref 171, .int (nI z), .long (lN (mo o)), .int (nI s)] (gST (bM I (nI l.length) kd zn so nu sg mk) (bMJ J jo jx) P) (fun r u => r = none ∧ ∃ kd' zn' so' nu' sg' mk' jo' jx', u = gST (bM I (nI (l ++ [qS (qRec W z o s x)]).length) kd' zn' so' nu' sg' mk') (bMJ J jo' jx') P ∧ mB kd' zn' so' nu' sg' mk' jo' jx' (l ++ [qS (qRec W z o s x)])) := by
  have h4 := hz.2.1
  have hq : iOK t (qRec W z o s x) := iOK_rec hz oW hzz hs ho h3
  refine gT_n 11 ?_
  refine ⟨rfl, rfl, (pk_in z 4 (by omega) (rfl)), rfl, rfl, gTM.useA (m_comes (k := l.length) (kk := 2) (zz := nI z) (oo := lN (mo o)) (xx := lN (mo 0)) (ss := nI s) (gg := W.2.2.2.1 z) hl) (Nat.le_refl _) (aR (aI (rfl) (aI (rfl) (aL (rfl) (aL (rfl) (aI (rfl) (aI ((rdI (rfl) (by omega) (mAc_at hac hzz hs))) (rfl)))))))) (fun r u hq => ?_)⟩
  obtain ⟨rfl, rfl⟩ := hq  -- X12_comes[R171, K2, nI z, L(lN (mo o)), lN 0, nI s, (W.2.2.2.1 z)]
  refine gT_n 14 ?_
  refine ⟨rfl, rfl, rfl, rfl, rfl, gTM.use (m_recY (I := bM I _ _ _ _ _ _ _) (J := bMJ J _ _) hr hR ho h3 hno) (Nat.le_refl _) (fun r u hq => ?_)⟩
  obtain ⟨rfl, j, hj, rfl⟩ := hq  -- X12_recordOf[R171, L(lN (mo o)), nI s]
  have hx := (rVal_one oW.1 hp hx0 (Or.inl ⟨_, rhit_mem hj, rfl⟩)).symm
  have hj1 := hj.1
  have hr1 := hr.1
  refine gT_n 2 ?_
  refine ⟨rfl, (pk_in j 25 (by omega) (rfl)), rfl, (pk_inS (m := 30) (k := (3 * (((l.length + 1)) - 1))) (rfl) (by omega) (pk_mulE (n := 3) (k := (((l.length + 1)) - 1)) (rfl) (pk_subE (n := ((l.length + 1))) (k := 1) (rfl) (rfl) (by omega)))), ?_⟩
  refine gT_b_nu (n := (3 * (((l.length + 1)) - 1))) (X := (nI (rg lm j).2.2)) (pk_mulE (n := 3) (k := (((l.length + 1)) - 1)) (rfl) (pk_subE (n := ((l.length + 1))) (k := 1) (rfl) (rfl) (by omega))) (by omega) ((rdI (rfl) (by have := hj.1; have := hr.1; omega) (hR.2 j hj.1).2.2)) ?_
  refine gT_n 2 ?_
  refine ⟨rfl, rfl, gTM.use (m_signs (k := l.length) (t := t) (q := qMk (qRec W z o s x) (mk l.length)) hl (mI_fin (q := qRec W z o s x) ⟨rfl, rfl, rfl, rfl⟩ ⟨rfl, rfl⟩ ⟨by rw [upd_y (by omega)]; exact hx, by rw [upd_ne (by omega), upd_ne (by omega), upd_y (by omega)]; rfl, by rw [upd_ne (by omega), upd_y (by omega)]; rfl⟩) hq) (Nat.le_refl _) (fun r u hq => ?_)⟩
  obtain ⟨rfl, rfl⟩ := hq  -- X12_signs[R171]
  refine gT_n 1 ?_
  refine ⟨rfl, ?_⟩
  exact ⟨rfl, _, _, _, _, _, _, _, _, mB_len rfl, mB_fin (q := qRec W z o s x) hB ⟨rfl, rfl, rfl, rfl⟩ ⟨rfl, rfl⟩ ⟨by rw [upd_y (by omega)]; exact hx, by rw [upd_ne (by omega), upd_ne (by omega), upd_y (by omega)]; rfl, by rw [upd_ne (by omega), upd_y (by omega)]; rfl⟩ (fun j hj => by rw [upd_ne (by omega), upd_ne (by omega), upd_ne (by omega), upd_ne (by omega)]) rfl⟩
