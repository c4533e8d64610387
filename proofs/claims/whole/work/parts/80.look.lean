/-! what a check looks at: the class -/
def amo (q : Int32 × Int32 × Int32) (k : Int32) : Prop := 0 < k ∧ (q.1 = k ∨ q.2.1 = k ∨ q.2.2 = k)
def gen (q : zI) : Prop := q.2.2.2.2.2.2.2 = imrk q q.2.2.2.2.2.2.1
def rt (q : zI) (kn : Int32 → Prop) : Prop := kn q.2.2.2.2.2.2.1 ∧ gen q
def kro (r : Nat → Int32) (kn : Int32 → Prop) : Prop := ∀ k, 0 < k → ((r 0 = k ∨ r 1 = k ∨ r 2 = k) ↔ kn k)
def cm3 (q : Int32 × Int32 × Int32) : Int32 × Int32 × Int32 :=
  if 0 < q.1 then (if 0 < q.2.1 then (if 0 < q.2.2 then (q.1, q.2.1, q.2.2) else (q.1, q.2.1, 0)) else (if 0 < q.2.2 then (q.1, q.2.2, 0) else (q.1, 0, 0))) else (if 0 < q.2.1 then (if 0 < q.2.2 then (q.2.1, q.2.2, 0) else (q.2.1, 0, 0)) else (if 0 < q.2.2 then (q.2.2, 0, 0) else (0, 0, 0)))
def itm (I : Nat → Nat → Int32) (J : Nat → Nat → Int64) (P : Nat → Nat) (l : List zI) : Prop := ∀ k, k < l.length → (147 ≤ P k ∧ P k + 1 ≤ 166) ∧ iCell P (P k) ∧ cI (I (P k)) (I (P k + 1)) (J (P k)) (ig l k)
def genF (X : Nat → Nat → Int32) (l : List zI) : Prop := ∀ i, i < l.length → (gen (ig l i) ∧ X 170 i = 1) ∨ (¬ gen (ig l i) ∧ X 170 i = 0)
theorem kM_it {I V : Nat → Nat → Int32} {b : Nat} (h : 147 ≤ b ∧ b ≤ 166) : kM I V b = I b := by
  unfold kM kIn
  rw [ble_f (a := b) (b := 33) (by omega), ble_f (a := 167) (b := b) (by omega), Bool.and_false]; rfl
theorem kM_r {I V : Nat → Nat → Int32} {b f : Nat} (h : 147 ≤ b ∧ b ≤ 166) : kM I V b f = I b f := by rw [kM_it h]
theorem mJ_r {J : Nat → Nat → Int64} {Y : Nat → Int64} {b f : Nat} (h : 147 ≤ b ∧ b ≤ 166) : m1 J 28 Y b f = J b f := by rw [m1_n (by omega)]
theorem itm_k {I X : Nat → Nat → Int32} {J : Nat → Nat → Int64} {Y : Nat → Int64} {P : Nat → Nat} {l : List zI} (h : itm I J P l) : itm (kM I X) (m1 J 28 Y) P l := fun k hk => by
  obtain ⟨a, b, c⟩ := h k hk
  refine ⟨a, b, ?_⟩
  rw [kM_it (by omega), kM_it (by omega), m1_n (by omega)]
  exact c
theorem itm_of {I : Nat → Nat → Int32} {J : Nat → Nat → Int64} {P : Nat → Nat} {p : zP} (h : cP I J P p) (hP : pP P) (h10 : p.1.length ≤ 10) : itm I J P p.1 := fun k hk => by
  obtain ⟨j, hj, e, hb, hI⟩ := cP_at h hP hk h10
  exact ⟨by omega, hb, hI⟩
theorem cH_fr {X X' : Nat → Nat → Int32} {Y : Nat → Int64} {C : List zE} (h4 : C.length ≤ 4) (hf : ∀ j, j < 167 → X' j = X j) (h : cH X Y C) : cH X' Y C := by
  refine ⟨by rw [hf 25 (by omega)]; exact h.1, fun j hj => ?_⟩
  have g := h.2 j hj
  unfold cE1 at g ⊢
  dsimp only at g ⊢
  rw [hf 26 (by omega), hf 27 (by omega), hf (30 + j) (by omega)]
  exact g
theorem c_holds {d b : Nat} {k : Int32} {I : Nat → Nat → Int32} {J : Nat → Nat → Int64} {P : Nat → Nat} (har : gar (gST I J P) b = some 0) (hln : gln (gST I J P) b = 3) : gTM d 154 [.ref b, .int k] (gST I J P) (gB (gST I J P) (I b 0 = k ∨ I b 1 = k ∨ I b 2 = k)) := by
  refine gT_n 6 ?_
  refine ⟨(by rw [har]; rfl), fun c => absurd c (kpT (p := fun z : Int32 => ¬ (z ≤ 0)) (show _ = (3 : Int32) from (congrArg nI (hln))) (by decide)), fun _ => ?_⟩
  refine gT_n 5 ?_
  refine ⟨har, (pk_inS (m := 3) (k := 0) (hln) (by decide) (rfl)), px_ne (X := (I b 0)) (Y := k) (rfl) (rfl) (fun κ1 => ?_) (fun κ1 => ?_)⟩
  · refine gT_n 6 ?_
    refine ⟨(by rw [har]; rfl), fun c => absurd c (kpT (p := fun z : Int32 => ¬ (z ≤ 1)) (show _ = (3 : Int32) from (congrArg nI (hln))) (by decide)), fun _ => ?_⟩
    refine gT_n 5 ?_
    refine ⟨har, (pk_inS (m := 3) (k := 1) (hln) (by decide) (rfl)), px_ne (X := (I b 1)) (Y := k) (rfl) (rfl) (fun κ2 => ?_) (fun κ2 => ?_)⟩
    · refine gT_n 6 ?_
      refine ⟨(by rw [har]; rfl), fun c => absurd c (kpT (p := fun z : Int32 => ¬ (z ≤ 2)) (show _ = (3 : Int32) from (congrArg nI (hln))) (by decide)), fun _ => ?_⟩
      refine gT_n 5 ?_
      refine ⟨har, (pk_inS (m := 3) (k := 2) (hln) (by decide) (rfl)), px_ne (X := (I b 2)) (Y := k) (rfl) (rfl) (fun κ3 => ?_) (fun κ3 => ?_)⟩
      · refine gT_n 6 ?_
        refine ⟨(by rw [har]; rfl), fun _ => ?_, fun c => absurd (kpT (p := fun z : Int32 => z ≤ 3) (show _ = (3 : Int32) from (congrArg nI (hln))) (by decide)) c⟩
        refine gT_n 2 ?_
        refine ⟨(Or.inl rfl), ?_⟩
        exact ⟨rfl, Or.inr ⟨rfl, fun c => Or.elim c κ1 (fun c => Or.elim c κ2 κ3)⟩⟩
      · refine gT_n 2 ?_
        refine ⟨(Or.inr rfl), ?_⟩
        exact ⟨rfl, Or.inl ⟨rfl, Or.inr (Or.inr κ3)⟩⟩
    · refine gT_n 2 ?_
      refine ⟨(Or.inr rfl), ?_⟩
      exact ⟨rfl, Or.inl ⟨rfl, Or.inr (Or.inl κ2)⟩⟩
  · refine gT_n 2 ?_
    refine ⟨(Or.inr rfl), ?_⟩
    exact ⟨rfl, Or.inl ⟨rfl, Or.inl κ1⟩⟩
theorem c_recall168 {d z : Nat} {k ck : Int32} {I X : Nat → Nat → Int32} {J : Nat → Nat → Int64} {Y : Nat → Int64} {P : Nat → Nat} {C : List zE} (hH : cH X Y C) (hC4 : C.length ≤ 4) (hz4 : ∀ j, j < C.length → (eg C j).1 < 4) (hz : z < 4) : gTM (d + 1) 5 [.ref 25, .int (nI z), .int k, .int ck, .ref 168] (gST (kM I X) (m1 J 28 Y) P) (fun r u => ∃ r0, isE C z k r0 ∧ ((aliv C ck r0 ∧ r = some (.int 1) ∧ ∃ X', u = gST (kM I X') (m1 J 28 Y) P ∧ (∀ j, ¬ j = 168 → X' j = X j) ∧ ∃ e, r0 = some e ∧ X' 168 0 = (eg C e).2.2.1.1 ∧ X' 168 1 = (eg C e).2.2.1.2.1 ∧ X' 168 2 = (eg C e).2.2.1.2.2) ∨ (¬ aliv C ck r0 ∧ r = some (.int 0) ∧ u = (gST (kM I X) (m1 J 28 Y) P)))) := by
  refine gT_n 4 ?_
  refine ⟨rfl, rfl, gTM.use (c_eix hH hC4 hz4 hz) (Nat.le_refl _) (fun r u hq => ?_)⟩
  obtain ⟨rfl, ⟨a, ha, rfl⟩ | ⟨ha, rfl⟩⟩ := hq  -- X0_indexOf[R25, nI z, k]
  · have ha1 := ha.1
    refine gT_n 5 ?_
    refine ⟨rfl, rfl, ?_⟩
    refine gT_n 2 ?_
    refine ⟨fun c => absurd c (nI_pos (by have := ha.1; omega)), fun _ => ?_⟩
    refine gT_n 4 ?_
    refine ⟨rfl, pk_le C.length a (fun κ1 => ?_) (fun κ1 => ?_) (hH.1) (rfl) (by omega) (by have := ha.1; omega)⟩
    · refine gT_n 2 ?_
      refine ⟨(Or.inl rfl), ?_⟩
      show gT _ 5 15 _ _ _ _ _
      refine gT_n 1 ?_
      refine ⟨fun c => absurd (by decide) c, fun _ => ?_⟩
      refine gT_n 2 ?_
      refine ⟨(Or.inl rfl), ?_⟩
      exact absurd ha1 (by omega)
    · refine gT_n 8 ?_
      refine ⟨rfl, rfl, (pk_in a 4 (by omega) (rfl)), pj_ge (X := (ck).toInt64) (Y := (eg C a).2.2.2) (rfl) ((rdJ (rfl) (by omega) (hH.2 a ha1).2.2.1)) (fun κ2 => ?_) (fun κ2 => ?_)⟩
      · refine gT_n 2 ?_
        refine ⟨(Or.inl rfl), ?_⟩
        show gT _ 5 15 _ _ _ _ _
        refine gT_n 1 ?_
        refine ⟨fun c => absurd (by decide) c, fun _ => ?_⟩
        refine gT_n 2 ?_
        refine ⟨(Or.inl rfl), ?_⟩
        exact ⟨some a, ha, Or.inr ⟨fun c => by obtain ⟨e, h, g⟩ := c; cases h; exact κ2 g, rfl, rfl⟩⟩
      · refine gT_n 3 ?_
        refine ⟨(Or.inr rfl), ?_⟩
        show gT _ 5 15 _ _ _ _ _
        refine gT_n 1 ?_
        refine ⟨fun _ => ?_, fun c => absurd c (by decide)⟩
        refine gT_n 4 ?_
        refine ⟨rfl, rfl, (pk_in a 4 (by omega) (rfl)), ?_⟩
        refine gT_top (aa_ref (b := 30 + a) (rfl) (by omega) (kR30 (I := I) (J := J) (P := P) (by omega)).2.2) ?_
        refine gT_n 5 ?_
        refine ⟨rfl, (kR30 (by omega)).1, rfl, ⟨by decide, by decide, by decide, by rw [(kR30 (by omega)).2.1]; decide, by show 0 + 3 ≤ 3; decide⟩, ?_⟩
        refine gT_kC (b := 168) (c := 30 + a) rfl (k30 (by omega)) ?_
        refine gT_n 2 ?_
        refine ⟨(Or.inr rfl), ?_⟩
        exact ⟨some a, ha, Or.inl ⟨⟨a, rfl, κ2⟩, rfl, _, rfl, fun j hj => vu_n hj, a, rfl, by rw [vu_b]; exact (hH.2 a ha1).2.2.2⟩⟩
  · refine gT_n 5 ?_
    refine ⟨rfl, rfl, ?_⟩
    refine gT_n 2 ?_
    refine ⟨fun _ => ?_, fun c => absurd (by decide) c⟩
    refine gT_n 2 ?_
    refine ⟨(Or.inl rfl), ?_⟩
    show gT _ 5 15 _ _ _ _ _
    refine gT_n 1 ?_
    refine ⟨fun c => absurd (by decide) c, fun _ => ?_⟩
    refine gT_n 2 ?_
    refine ⟨(Or.inl rfl), ?_⟩
    exact ⟨none, ha, Or.inr ⟨fun c => by obtain ⟨e, h, -⟩ := c; exact absurd h (by simp), rfl, rfl⟩⟩
theorem c_recall169 {d z : Nat} {k ck : Int32} {I X : Nat → Nat → Int32} {J : Nat → Nat → Int64} {Y : Nat → Int64} {P : Nat → Nat} {C : List zE} (hH : cH X Y C) (hC4 : C.length ≤ 4) (hz4 : ∀ j, j < C.length → (eg C j).1 < 4) (hz : z < 4) : gTM (d + 1) 5 [.ref 25, .int (nI z), .int k, .int ck, .ref 169] (gST (kM I X) (m1 J 28 Y) P) (fun r u => ∃ r0, isE C z k r0 ∧ ((aliv C ck r0 ∧ r = some (.int 1) ∧ ∃ X', u = gST (kM I X') (m1 J 28 Y) P ∧ (∀ j, ¬ j = 169 → X' j = X j) ∧ ∃ e, r0 = some e ∧ X' 169 0 = (eg C e).2.2.1.1 ∧ X' 169 1 = (eg C e).2.2.1.2.1 ∧ X' 169 2 = (eg C e).2.2.1.2.2) ∨ (¬ aliv C ck r0 ∧ r = some (.int 0) ∧ u = (gST (kM I X) (m1 J 28 Y) P)))) := by
  refine gT_n 4 ?_
  refine ⟨rfl, rfl, gTM.use (c_eix hH hC4 hz4 hz) (Nat.le_refl _) (fun r u hq => ?_)⟩
  obtain ⟨rfl, ⟨a, ha, rfl⟩ | ⟨ha, rfl⟩⟩ := hq  -- X0_indexOf[R25, nI z, k]
  · have ha1 := ha.1
    refine gT_n 5 ?_
    refine ⟨rfl, rfl, ?_⟩
    refine gT_n 2 ?_
    refine ⟨fun c => absurd c (nI_pos (by have := ha.1; omega)), fun _ => ?_⟩
    refine gT_n 4 ?_
    refine ⟨rfl, pk_le C.length a (fun κ1 => ?_) (fun κ1 => ?_) (hH.1) (rfl) (by omega) (by have := ha.1; omega)⟩
    · refine gT_n 2 ?_
      refine ⟨(Or.inl rfl), ?_⟩
      show gT _ 5 15 _ _ _ _ _
      refine gT_n 1 ?_
      refine ⟨fun c => absurd (by decide) c, fun _ => ?_⟩
      refine gT_n 2 ?_
      refine ⟨(Or.inl rfl), ?_⟩
      exact absurd ha1 (by omega)
    · refine gT_n 8 ?_
      refine ⟨rfl, rfl, (pk_in a 4 (by omega) (rfl)), pj_ge (X := (ck).toInt64) (Y := (eg C a).2.2.2) (rfl) ((rdJ (rfl) (by omega) (hH.2 a ha1).2.2.1)) (fun κ2 => ?_) (fun κ2 => ?_)⟩
      · refine gT_n 2 ?_
        refine ⟨(Or.inl rfl), ?_⟩
        show gT _ 5 15 _ _ _ _ _
        refine gT_n 1 ?_
        refine ⟨fun c => absurd (by decide) c, fun _ => ?_⟩
        refine gT_n 2 ?_
        refine ⟨(Or.inl rfl), ?_⟩
        exact ⟨some a, ha, Or.inr ⟨fun c => by obtain ⟨e, h, g⟩ := c; cases h; exact κ2 g, rfl, rfl⟩⟩
      · refine gT_n 3 ?_
        refine ⟨(Or.inr rfl), ?_⟩
        show gT _ 5 15 _ _ _ _ _
        refine gT_n 1 ?_
        refine ⟨fun _ => ?_, fun c => absurd c (by decide)⟩
        refine gT_n 4 ?_
        refine ⟨rfl, rfl, (pk_in a 4 (by omega) (rfl)), ?_⟩
        refine gT_top (aa_ref (b := 30 + a) (rfl) (by omega) (kR30 (I := I) (J := J) (P := P) (by omega)).2.2) ?_
        refine gT_n 5 ?_
        refine ⟨rfl, (kR30 (by omega)).1, rfl, ⟨by decide, by decide, by decide, by rw [(kR30 (by omega)).2.1]; decide, by show 0 + 3 ≤ 3; decide⟩, ?_⟩
        refine gT_kC (b := 169) (c := 30 + a) rfl (k30 (by omega)) ?_
        refine gT_n 2 ?_
        refine ⟨(Or.inr rfl), ?_⟩
        exact ⟨some a, ha, Or.inl ⟨⟨a, rfl, κ2⟩, rfl, _, rfl, fun j hj => vu_n hj, a, rfl, by rw [vu_b]; exact (hH.2 a ha1).2.2.2⟩⟩
  · refine gT_n 5 ?_
    refine ⟨rfl, rfl, ?_⟩
    refine gT_n 2 ?_
    refine ⟨fun _ => ?_, fun c => absurd (by decide) c⟩
    refine gT_n 2 ?_
    refine ⟨(Or.inl rfl), ?_⟩
    show gT _ 5 15 _ _ _ _ _
    refine gT_n 1 ?_
    refine ⟨fun c => absurd (by decide) c, fun _ => ?_⟩
    refine gT_n 2 ?_
    refine ⟨(Or.inl rfl), ?_⟩
    exact ⟨none, ha, Or.inr ⟨fun c => by obtain ⟨e, h, -⟩ := c; exact absurd h (by simp), rfl, rfl⟩⟩
theorem c_isOf {d z : Nat} {t : zT} {kd : Int32} {I X : Nat → Nat → Int32} {J : Nat → Nat → Int64} {Y : Nat → Int64} {P : Nat → Nat} (hz : zOK t) (hz4 : z < 4)  {l : List zI} (hit : itm I J P l) (h10 : l.length ≤ 10) (hok : vIs t l) {i : Nat} (hi : i < l.length) : gTM d 100 [.ref 167, .int (nI i), .int kd, .int (nI z)] (gST (kM I X) (m1 J 28 Y) P) (gB (gST (kM I X) (m1 J 28 Y) P) ((ig l i).1 = kd ∧ (ig l i).2.1 = z)) := by
  obtain ⟨hrr, hb, hI⟩ := hit i hi
  have hbb : 147 ≤ P i ∧ P i ≤ 166 := by omega
  have hbb1 : 147 ≤ P i + 1 ∧ P i + 1 ≤ 166 := by omega
  have hq := hok _ (ig_mem hi)
  refine gT_n 5 ?_
  refine ⟨rfl, rfl, rfl, (pk_in i 10 (by omega) (rfl)), ?_⟩
  refine gT_top (aa_ref (b := P i) (rfl) (by omega) rfl) ?_
  refine gT_n 3 ?_
  refine ⟨hb.ob, px_ne (X := (ig l i).1) (Y := kd) ((Eq.trans (kM_r hbb) (hI.1.1))) (rfl) (fun κ1 => ?_) (fun κ1 => ?_)⟩
  · refine gT_n 2 ?_
    refine ⟨(Or.inl rfl), ?_⟩
    exact ⟨rfl, Or.inr ⟨rfl, fun c => κ1 c.1⟩⟩
  · refine gT_n 5 ?_
    refine ⟨rfl, rfl, rfl, (pk_in i 10 (by omega) (rfl)), ?_⟩
    refine gT_top (aa_ref (b := P i) (rfl) (by omega) rfl) ?_
    refine gT_n 3 ?_
    refine ⟨hb.ob, pk_ne ((ig l i).2.1) z (fun κ2 => ?_) (fun κ2 => ?_) ((Eq.trans (kM_r hbb) (hI.1.2.1))) (rfl) (by have := hq.1; have := hz.2.1; omega) (by omega)⟩
    · refine gT_n 2 ?_
      refine ⟨(Or.inl rfl), ?_⟩
      exact ⟨rfl, Or.inr ⟨rfl, fun c => κ2 c.2⟩⟩
    · refine gT_n 3 ?_
      refine ⟨(Or.inr rfl), ?_⟩
      exact ⟨rfl, Or.inl ⟨rfl, κ1, κ2⟩⟩
theorem c_isRight168 {d : Nat} {kn : Int32 → Prop} {I X : Nat → Nat → Int32} {J : Nat → Nat → Int64} {Y : Nat → Int64} {P : Nat → Nat} {t : zT} (hz : zOK t)  {l : List zI} (hit : itm I J P l) (h10 : l.length ≤ 10) (hok : vIs t l) {i : Nat} (hi : i < l.length) (hgn : genF X l) (hk : kro (X 168) kn) : gTM (d + 1) 101 [.ref 167, .int (nI i), .ref 168] (gST (kM I X) (m1 J 28 Y) P) (gB (gST (kM I X) (m1 J 28 Y) P) (rt (ig l i) kn)) := by
  obtain ⟨hrr, hb, hI⟩ := hit i hi
  have hbb : 147 ≤ P i ∧ P i ≤ 166 := by omega
  have hbb1 : 147 ≤ P i + 1 ∧ P i + 1 ≤ 166 := by omega
  have hq := hok _ (ig_mem hi)
  rcases hgn i hi with ⟨hg, hX⟩ | ⟨hg, hX⟩
  · refine gT_n 5 ?_
    refine ⟨rfl, (Or.inr rfl), (pk_in i 10 (by omega) (rfl)), fun c => absurd c (kpT (p := fun z : Int32 => ¬ (z = 0)) (show _ = (1 : Int32) from (rdI (rfl) (by omega) hX)) (by decide)), fun _ => ?_⟩
    refine gT_n 6 ?_
    refine ⟨rfl, rfl, rfl, (pk_in i 10 (by omega) (rfl)), ?_⟩
    refine gT_top (aa_ref (b := P i) (rfl) (by omega) rfl) ?_
    refine gT_n 2 ?_
    refine ⟨hb.ob, rfl, gTM.useA (c_holds (I := kM I X) (J := m1 J 28 Y) rfl rfl) (Nat.le_refl _) (aR (aI ((Eq.trans (kM_r hbb) (hI.1.2.2.2.1))) (rfl))) (fun r u hq => ?_)⟩
    obtain ⟨rfl, ⟨rfl, β1⟩ | ⟨rfl, β1⟩⟩ := hq  -- X11_holds[R168, (ig l i).2.2.2.2.2.2.1]
    · refine gT_n 1 ?_
      refine ⟨fun c => absurd c (by decide), fun _ => ?_⟩
      refine gT_n 3 ?_
      refine ⟨(Or.inr rfl), ?_⟩
      exact ⟨rfl, Or.inl ⟨rfl, (hk _ hq.2.2.2.2).mp β1, hg⟩⟩
    · refine gT_n 1 ?_
      refine ⟨fun _ => ?_, fun c => absurd (by decide) c⟩
      refine gT_n 2 ?_
      refine ⟨(Or.inl rfl), ?_⟩
      exact ⟨rfl, Or.inr ⟨rfl, fun c => β1 ((hk _ hq.2.2.2.2).mpr c.1)⟩⟩
  · refine gT_n 5 ?_
    refine ⟨rfl, (Or.inr rfl), (pk_in i 10 (by omega) (rfl)), fun _ => ?_, fun c => absurd (kpT (p := fun z : Int32 => z = 0) (show _ = (0 : Int32) from (rdI (rfl) (by omega) hX)) (by decide)) c⟩
    refine gT_n 2 ?_
    refine ⟨(Or.inl rfl), ?_⟩
    exact ⟨rfl, Or.inr ⟨rfl, fun c => hg c.2⟩⟩
theorem c_isRight169 {d : Nat} {kn : Int32 → Prop} {I X : Nat → Nat → Int32} {J : Nat → Nat → Int64} {Y : Nat → Int64} {P : Nat → Nat} {t : zT} (hz : zOK t)  {l : List zI} (hit : itm I J P l) (h10 : l.length ≤ 10) (hok : vIs t l) {i : Nat} (hi : i < l.length) (hgn : genF X l) (hk : kro (X 169) kn) : gTM (d + 1) 101 [.ref 167, .int (nI i), .ref 169] (gST (kM I X) (m1 J 28 Y) P) (gB (gST (kM I X) (m1 J 28 Y) P) (rt (ig l i) kn)) := by
  obtain ⟨hrr, hb, hI⟩ := hit i hi
  have hbb : 147 ≤ P i ∧ P i ≤ 166 := by omega
  have hbb1 : 147 ≤ P i + 1 ∧ P i + 1 ≤ 166 := by omega
  have hq := hok _ (ig_mem hi)
  rcases hgn i hi with ⟨hg, hX⟩ | ⟨hg, hX⟩
  · refine gT_n 5 ?_
    refine ⟨rfl, (Or.inr rfl), (pk_in i 10 (by omega) (rfl)), fun c => absurd c (kpT (p := fun z : Int32 => ¬ (z = 0)) (show _ = (1 : Int32) from (rdI (rfl) (by omega) hX)) (by decide)), fun _ => ?_⟩
    refine gT_n 6 ?_
    refine ⟨rfl, rfl, rfl, (pk_in i 10 (by omega) (rfl)), ?_⟩
    refine gT_top (aa_ref (b := P i) (rfl) (by omega) rfl) ?_
    refine gT_n 2 ?_
    refine ⟨hb.ob, rfl, gTM.useA (c_holds (I := kM I X) (J := m1 J 28 Y) rfl rfl) (Nat.le_refl _) (aR (aI ((Eq.trans (kM_r hbb) (hI.1.2.2.2.1))) (rfl))) (fun r u hq => ?_)⟩
    obtain ⟨rfl, ⟨rfl, β1⟩ | ⟨rfl, β1⟩⟩ := hq  -- X11_holds[R169, (ig l i).2.2.2.2.2.2.1]
    · refine gT_n 1 ?_
      refine ⟨fun c => absurd c (by decide), fun _ => ?_⟩
      refine gT_n 3 ?_
      refine ⟨(Or.inr rfl), ?_⟩
      exact ⟨rfl, Or.inl ⟨rfl, (hk _ hq.2.2.2.2).mp β1, hg⟩⟩
    · refine gT_n 1 ?_
      refine ⟨fun _ => ?_, fun c => absurd (by decide) c⟩
      refine gT_n 2 ?_
      refine ⟨(Or.inl rfl), ?_⟩
      exact ⟨rfl, Or.inr ⟨rfl, fun c => β1 ((hk _ hq.2.2.2.2).mpr c.1)⟩⟩
  · refine gT_n 5 ?_
    refine ⟨rfl, (Or.inr rfl), (pk_in i 10 (by omega) (rfl)), fun _ => ?_, fun c => absurd (kpT (p := fun z : Int32 => z = 0) (show _ = (0 : Int32) from (rdI (rfl) (by omega) hX)) (by decide)) c⟩
    refine gT_n 2 ?_
    refine ⟨(Or.inl rfl), ?_⟩
    exact ⟨rfl, Or.inr ⟨rfl, fun c => hg c.2⟩⟩
theorem c_isRightI {d : Nat} {kn : Int32 → Prop} {I X : Nat → Nat → Int32} {J : Nat → Nat → Int64} {Y : Nat → Int64} {P : Nat → Nat} {t : zT} (hz : zOK t)  {l : List zI} (hit : itm I J P l) (h10 : l.length ≤ 10) (hok : vIs t l) {i : Nat} (hi : i < l.length) (hgn : genF X l)  : gTM (d + 1) 101 [.ref 167, .int (nI i), .ref (P i + 1)] (gST (kM I X) (m1 J 28 Y) P) (gB (gST (kM I X) (m1 J 28 Y) P) (gen (ig l i) ∧ amo (ig l i).2.2.2.2.2.1 (ig l i).2.2.2.2.2.2.1)) := by
  obtain ⟨hrr, hb, hI⟩ := hit i hi
  have hbb : 147 ≤ P i ∧ P i ≤ 166 := by omega
  have hbb1 : 147 ≤ P i + 1 ∧ P i + 1 ≤ 166 := by omega
  have hq := hok _ (ig_mem hi)
  rcases hgn i hi with ⟨hg, hX⟩ | ⟨hg, hX⟩
  · refine gT_n 5 ?_
    refine ⟨rfl, (Or.inr rfl), (pk_in i 10 (by omega) (rfl)), fun c => absurd c (kpT (p := fun z : Int32 => ¬ (z = 0)) (show _ = (1 : Int32) from (rdI (rfl) (by omega) hX)) (by decide)), fun _ => ?_⟩
    refine gT_n 6 ?_
    refine ⟨rfl, rfl, rfl, (pk_in i 10 (by omega) (rfl)), ?_⟩
    refine gT_top (aa_ref (b := P i) (rfl) (by omega) rfl) ?_
    refine gT_n 2 ?_
    refine ⟨hb.ob, rfl, gTM.useA (c_holds (I := kM I X) (J := m1 J 28 Y) hb.ar1 hb.ln1) (Nat.le_refl _) (aR (aI ((Eq.trans (kM_r hbb) (hI.1.2.2.2.1))) (rfl))) (fun r u hq => ?_)⟩
    obtain ⟨rfl, ⟨rfl, β1⟩ | ⟨rfl, β1⟩⟩ := hq  -- X11_holds[Rb + 1, (ig l i).2.2.2.2.2.2.1]
    · refine gT_n 1 ?_
      refine ⟨fun c => absurd c (by decide), fun _ => ?_⟩
      refine gT_n 3 ?_
      refine ⟨(Or.inr rfl), ?_⟩
      rw [kM_r hbb1, kM_r hbb1, kM_r hbb1, hI.2.2.1, hI.2.2.2.1, hI.2.2.2.2] at β1
      exact ⟨rfl, Or.inl ⟨rfl, hg, hq.2.2.2.2, β1⟩⟩
    · refine gT_n 1 ?_
      refine ⟨fun _ => ?_, fun c => absurd (by decide) c⟩
      refine gT_n 2 ?_
      refine ⟨(Or.inl rfl), ?_⟩
      rw [kM_r hbb1, kM_r hbb1, kM_r hbb1, hI.2.2.1, hI.2.2.2.1, hI.2.2.2.2] at β1
      exact ⟨rfl, Or.inr ⟨rfl, fun c => β1 c.2.2⟩⟩
  · refine gT_n 5 ?_
    refine ⟨rfl, (Or.inr rfl), (pk_in i 10 (by omega) (rfl)), fun _ => ?_, fun c => absurd (kpT (p := fun z : Int32 => z = 0) (show _ = (0 : Int32) from (rdI (rfl) (by omega) hX)) (by decide)) c⟩
    refine gT_n 2 ?_
    refine ⟨(Or.inl rfl), ?_⟩
    exact ⟨rfl, Or.inr ⟨rfl, fun c => hg c.1⟩⟩
