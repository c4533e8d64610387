/-! items: contents, marks, details -/
def icon (q : zI) : Int32 := mixI (mixI (mixI (mixI (mxN (mxN (mixI (mixI 7 q.1) (nI q.2.1)) q.2.2.1) q.2.2.2.1) (nI q.2.2.2.2.1)) q.2.2.2.2.2.1.1) q.2.2.2.2.2.1.2.1) q.2.2.2.2.2.1.2.2
def imrk (q : zI) (k : Int32) : Int32 := remI (icon q * (2 * k + 1) + k)
def iCell (P : Nat → Nat) (b : Nat) : Prop := SH[b]? = some (.inl 1) ∧ SH[b + 1]? = some (.inr (0, 3)) ∧ gRf P b 5 = some (b + 1)
section
variable {P : Nat → Nat} {b : Nat} {I : Nat → Nat → Int32} {J : Nat → Nat → Int64}
theorem iCell.ob (h : iCell P b) : gob (gST I J P) b = some 1 := by
  show (match SH[b]? with | some (.inl c) => some c | _ => none) = some 1
  rw [h.1]
theorem iCell.ar1 (h : iCell P b) : gar (gST I J P) (b + 1) = some 0 := by
  unfold gar
  rw [show (gST I J P).1[b + 1]? = some (.inr (0, 3)) from h.2.1]
theorem iCell.ln1 (h : iCell P b) : gln (gST I J P) (b + 1) = 3 := by
  unfold gln
  rw [show (gST I J P).1[b + 1]? = some (.inr (0, 3)) from h.2.1]
theorem iCell.v5 (h : iCell P b) : gval (gST I J P) b 1 5 = .ref (b + 1) := by
  show va_rf (gRf P b 5) = _
  rw [h.2.2]; rfl
end
theorem iCell_at {P : Nat → Nat} {j : Nat} (hj : j < 10) : iCell P (147 + 2 * j) := by
  have : j = 0 ∨ j = 1 ∨ j = 2 ∨ j = 3 ∨ j = 4 ∨ j = 5 ∨ j = 6 ∨ j = 7 ∨ j = 8 ∨ j = 9 := by omega
  rcases this with rfl | rfl | rfl | rfl | rfl | rfl | rfl | rfl | rfl | rfl <;> exact ⟨rfl, rfl, rfl⟩
theorem iF_at {I : Nat → Nat → Int32} {J : Nat → Nat → Int64} {j : Nat} (hj : j < 10) : iF I j = I (147 + 2 * j) ∧ iN I j = I (147 + 2 * j + 1) ∧ iJ J j = J (147 + 2 * j) := by
  have : j = 0 ∨ j = 1 ∨ j = 2 ∨ j = 3 ∨ j = 4 ∨ j = 5 ∨ j = 6 ∨ j = 7 ∨ j = 8 ∨ j = 9 := by omega
  rcases this with rfl | rfl | rfl | rfl | rfl | rfl | rfl | rfl | rfl | rfl <;> exact ⟨rfl, rfl, rfl⟩
/-- the item at a place -/
theorem cP_at {I : Nat → Nat → Int32} {J : Nat → Nat → Int64} {P : Nat → Nat} {pr : zP} {k : Nat} (h : cP I J P pr) (hP : pP P) (hk : k < pr.1.length) (h10 : pr.1.length ≤ 10) : ∃ j, j < 10 ∧ P k = 147 + 2 * j ∧ iCell P (P k) ∧ cI (I (P k)) (I (P k + 1)) (J (P k)) (ig pr.1 k) := by
  obtain ⟨p, hp, -⟩ := hP
  obtain ⟨h1, h2⟩ := hp k (by omega)
  refine ⟨p k, h1, h2, ?_, ?_⟩
  · rw [h2]; exact iCell_at h1
  · have e := h.2.2.2.2.2 k hk (p k) h1 h2
    obtain ⟨a, b, c⟩ := iF_at (I := I) (J := J) h1
    rw [a, b, c] at e
    rw [h2]; exact e
theorem c_content {d b : Nat} {q : zI} {t : zT} {I : Nat → Nat → Int32} {J : Nat → Nat → Int64} {P : Nat → Nat} (hb : iCell P b) (hI : cI (I b) (I (b + 1)) (J b) q) (hq : iOK t q) : gTM (d + 3) 12 [.ref b] (gST I J P) (fun r u => u = gST I J P ∧ r = some (.int (icon q))) := by
  refine gT_n 4 ?_
  refine ⟨hb.ob, rfl, gTM.useA (c_mix) (Nat.le_refl _) (aI (rfl) (aI (hI.1.1) (rfl))) (fun r u hq => ?_)⟩
  obtain ⟨rfl, rfl⟩ := hq  -- X1_mix[K7, q.1]
  refine gT_n 3 ?_
  refine ⟨hb.ob, rfl, gTM.useA (c_mix) (Nat.le_refl _) (aI (rfl) (aI (hI.1.2.1) (rfl))) (fun r u hq => ?_)⟩
  obtain ⟨rfl, rfl⟩ := hq  -- X1_mix[(mixI 7 q.1), (nI q.2.1)]
  refine gT_n 5 ?_
  refine ⟨hb.ob, rfl, gTM.useA (c_mixName hq.2.1) (Nat.le_refl _) (aI (rfl) (aL (hI.2.1.1) (rfl))) (fun r u hq => ?_)⟩
  obtain ⟨rfl, rfl⟩ := hq  -- X1_mixName[(mixI (mixI 7 q.1) (nI q.2.1)), lN q.2.2.1]
  refine gT_n 5 ?_
  refine ⟨hb.ob, rfl, gTM.useA (c_mixName hq.2.2.1) (Nat.le_refl _) (aI (rfl) (aL (hI.2.1.2) (rfl))) (fun r u hq => ?_)⟩
  obtain ⟨rfl, rfl⟩ := hq  -- X1_mixName[(mxN (mixI (mixI 7 q.1) (nI q.2.1)) q.2.2.1), lN q.2.2.2.1]
  refine gT_n 5 ?_
  refine ⟨hb.ob, rfl, gTM.useA (c_mix) (Nat.le_refl _) (aI (rfl) (aI (hI.1.2.2.1) (rfl))) (fun r u hq => ?_)⟩
  obtain ⟨rfl, rfl⟩ := hq  -- X1_mix[(mxN (mxN (mixI (mixI 7 q.1) (nI q.2.1)) q.2.2.1) q.2.2.2.1), (nI q.2.2.2.2.1)]
  refine gT_n 6 ?_
  refine ⟨fun c => absurd c (by decide), fun _ => ?_⟩
  refine gT_n 3 ?_
  refine ⟨hb.ob, ?_⟩
  refine gT_top (hb.v5) ?_
  refine gT_n 3 ?_
  refine ⟨hb.ar1, (pk_inS (m := 3) (k := 0) (hb.ln1) (by decide) (rfl)), rfl, gTM.useA (c_mix) (Nat.le_refl _) (aI (rfl) (aI (hI.2.2.1) (rfl))) (fun r u hq => ?_)⟩
  obtain ⟨rfl, rfl⟩ := hq  -- X1_mix[(mixI (mxN (mxN (mixI (mixI 7 q.1) (nI q.2.1)) q.2.2.1) q.2.2.2.1) (nI q.2.2.2.2.1)), q.2.2.2.2.2.1.1]
  refine gT_n 6 ?_
  refine ⟨fun c => absurd c (by decide), fun _ => ?_⟩
  refine gT_n 3 ?_
  refine ⟨hb.ob, ?_⟩
  refine gT_top (hb.v5) ?_
  refine gT_n 3 ?_
  refine ⟨hb.ar1, (pk_inS (m := 3) (k := 1) (hb.ln1) (by decide) (rfl)), rfl, gTM.useA (c_mix) (Nat.le_refl _) (aI (rfl) (aI (hI.2.2.2.1) (rfl))) (fun r u hq => ?_)⟩
  obtain ⟨rfl, rfl⟩ := hq  -- X1_mix[(mixI (mixI (mxN (mxN (mixI (mixI 7 q.1) (nI q.2.1)) q.2.2.1) q.2.2.2.1) (nI q.2.2.2.2.1)) q.2.2.2.2.2.1.1), q.2.2.2.2.2.1.2.1]
  refine gT_n 6 ?_
  refine ⟨fun c => absurd c (by decide), fun _ => ?_⟩
  refine gT_n 3 ?_
  refine ⟨hb.ob, ?_⟩
  refine gT_top (hb.v5) ?_
  refine gT_n 3 ?_
  refine ⟨hb.ar1, (pk_inS (m := 3) (k := 2) (hb.ln1) (by decide) (rfl)), rfl, gTM.useA (c_mix) (Nat.le_refl _) (aI (rfl) (aI (hI.2.2.2.2) (rfl))) (fun r u hq => ?_)⟩
  obtain ⟨rfl, rfl⟩ := hq  -- X1_mix[(mixI (mixI (mixI (mxN (mxN (mixI (mixI 7 q.1) (nI q.2.1)) q.2.2.1) q.2.2.2.1) (nI q.2.2.2.2.1)) q.2.2.2.2.2.1.1) q.2.2.2.2.2.1.2.1), q.2.2.2.2.2.1.2.2]
  refine gT_n 6 ?_
  refine ⟨fun _ => ?_, fun c => absurd (by decide) c⟩
  refine gT_n 2 ?_
  exact ⟨rfl, rfl⟩
theorem c_rightMark {d b : Nat} {q : zI} {t : zT} {I : Nat → Nat → Int32} {J : Nat → Nat → Int64} {P : Nat → Nat} (hb : iCell P b) (hI : cI (I b) (I (b + 1)) (J b) q) (hq : iOK t q) : gTM (d + 4) 15 [.ref b] (gST I J P) (fun r u => u = gST I J P ∧ r = some (.int (imrk q q.2.2.2.2.2.2.1))) := by
  refine gT_n 2 ?_
  refine ⟨hb.ob, rfl, gTM.use (c_content hb hI hq) (Nat.le_refl _) (fun r u hq => ?_)⟩
  obtain ⟨rfl, rfl⟩ := hq  -- X1_content[Rb]
  refine gT_n 13 ?_
  refine ⟨hb.ob, hb.ob, (by decide), ?_⟩
  exact ⟨rfl, ri (show remI (icon q * (2 * I b 6 + 1) + I b 6) = _ by rw [hI.1.2.2.2.1]; rfl)⟩
def idF (q : zI) : Nat → Int32
  | 0 => q.1
  | 1 => nI q.2.1
  | 2 => nI (cnt q.2.2.1)
  | 3 => if q.1 = 3 then nI (cnt q.2.2.2.1) else -4
  | 4 => nI q.2.2.2.2.1
  | 5 => q.2.2.2.2.2.1.1
  | 6 => q.2.2.2.2.2.1.2.1
  | 7 => q.2.2.2.2.2.1.2.2
  | 8 => q.2.2.2.2.2.2.1
  | 9 => q.2.2.2.2.2.2.2
  | _ => icon q
theorem c_detail0 {d b : Nat} {q : zI} {t : zT} {I : Nat → Nat → Int32} {J : Nat → Nat → Int64} {P : Nat → Nat} (hb : iCell P b) (hI : cI (I b) (I (b + 1)) (J b) q) (hq : iOK t q) : gTM (d + 4) 19 [.ref b, .int 0] (gST I J P) (fun r u => u = gST I J P ∧ r = some (.int (idF q 0))) := by
  refine gT_n 2 ?_
  refine ⟨fun _ => ?_, fun c => absurd rfl c⟩
  refine gT_n 3 ?_
  refine ⟨hb.ob, ?_⟩
  exact ⟨rfl, ri (hI.1.1)⟩
theorem c_detail1 {d b : Nat} {q : zI} {t : zT} {I : Nat → Nat → Int32} {J : Nat → Nat → Int64} {P : Nat → Nat} (hb : iCell P b) (hI : cI (I b) (I (b + 1)) (J b) q) (hq : iOK t q) : gTM (d + 4) 19 [.ref b, .int 1] (gST I J P) (fun r u => u = gST I J P ∧ r = some (.int (idF q 1))) := by
  refine gT_n 2 ?_
  refine ⟨fun c => absurd c (by decide), fun _ => ⟨fun _ => ?_, fun c => absurd rfl c⟩⟩
  refine gT_n 3 ?_
  refine ⟨hb.ob, ?_⟩
  exact ⟨rfl, ri (hI.1.2.1)⟩
theorem c_detail2 {d b : Nat} {q : zI} {t : zT} {I : Nat → Nat → Int32} {J : Nat → Nat → Int64} {P : Nat → Nat} (hb : iCell P b) (hI : cI (I b) (I (b + 1)) (J b) q) (hq : iOK t q) : gTM (d + 4) 19 [.ref b, .int 2] (gST I J P) (fun r u => u = gST I J P ∧ r = some (.int (idF q 2))) := by
  refine gT_n 2 ?_
  refine ⟨fun c => absurd c (by decide), fun _ => ⟨fun c => absurd c (by decide), fun _ => ⟨fun _ => ?_, fun c => absurd rfl c⟩⟩⟩
  refine gT_n 3 ?_
  refine ⟨hb.ob, rfl, gTM.useA (c_count (hq.2.1.lt)) (Nat.le_refl _) (aL (hI.2.1.1) (rfl)) (fun r u hq => ?_)⟩
  obtain ⟨rfl, rfl⟩ := hq  -- X3_count[lN q.2.2.1]
  refine gT_n 1 ?_
  exact ⟨rfl, ri (rfl)⟩
theorem c_detail3 {d b : Nat} {q : zI} {t : zT} {I : Nat → Nat → Int32} {J : Nat → Nat → Int64} {P : Nat → Nat} (hb : iCell P b) (hI : cI (I b) (I (b + 1)) (J b) q) (hq : iOK t q) : gTM (d + 4) 19 [.ref b, .int 3] (gST I J P) (fun r u => u = gST I J P ∧ r = some (.int (idF q 3))) := by
  refine gT_n 2 ?_
  refine ⟨fun c => absurd c (by decide), fun _ => ⟨fun c => absurd c (by decide), fun _ => ⟨fun c => absurd c (by decide), fun _ => ⟨fun _ => ?_, fun c => absurd rfl c⟩⟩⟩⟩
  refine gT_n 4 ?_
  refine ⟨hb.ob, px_ne (X := q.1) (Y := (3)) (hI.1.1) (rfl) (fun κ1 => ?_) (fun κ1 => ?_)⟩
  · refine gT_n 2 ?_
    exact ⟨rfl, ri (Eq.symm (if_neg κ1))⟩
  · refine gT_n 3 ?_
    refine ⟨hb.ob, rfl, gTM.useA (c_count (hq.2.2.1.lt)) (Nat.le_refl _) (aL (hI.2.1.2) (rfl)) (fun r u hq => ?_)⟩
    obtain ⟨rfl, rfl⟩ := hq  -- X3_count[lN q.2.2.2.1]
    refine gT_n 2 ?_
    exact ⟨rfl, ri (Eq.symm (if_pos κ1))⟩
theorem c_detail4 {d b : Nat} {q : zI} {t : zT} {I : Nat → Nat → Int32} {J : Nat → Nat → Int64} {P : Nat → Nat} (hb : iCell P b) (hI : cI (I b) (I (b + 1)) (J b) q) (hq : iOK t q) : gTM (d + 4) 19 [.ref b, .int 4] (gST I J P) (fun r u => u = gST I J P ∧ r = some (.int (idF q 4))) := by
  refine gT_n 2 ?_
  refine ⟨fun c => absurd c (by decide), fun _ => ⟨fun c => absurd c (by decide), fun _ => ⟨fun c => absurd c (by decide), fun _ => ⟨fun c => absurd c (by decide), fun _ => ⟨fun _ => ?_, fun c => absurd rfl c⟩⟩⟩⟩⟩
  refine gT_n 3 ?_
  refine ⟨hb.ob, ?_⟩
  exact ⟨rfl, ri (hI.1.2.2.1)⟩
theorem c_detail5 {d b : Nat} {q : zI} {t : zT} {I : Nat → Nat → Int32} {J : Nat → Nat → Int64} {P : Nat → Nat} (hb : iCell P b) (hI : cI (I b) (I (b + 1)) (J b) q) (hq : iOK t q) : gTM (d + 4) 19 [.ref b, .int 5] (gST I J P) (fun r u => u = gST I J P ∧ r = some (.int (idF q 5))) := by
  refine gT_n 2 ?_
  refine ⟨fun c => absurd c (by decide), fun _ => ⟨fun c => absurd c (by decide), fun _ => ⟨fun c => absurd c (by decide), fun _ => ⟨fun c => absurd c (by decide), fun _ => ⟨fun c => absurd c (by decide), fun _ => ⟨fun _ => ?_, fun c => absurd rfl c⟩⟩⟩⟩⟩⟩
  refine gT_n 2 ?_
  refine ⟨hb.ob, ?_⟩
  refine gT_top (hb.v5) ?_
  refine gT_n 5 ?_
  refine ⟨hb.ar1, (pk_inS (m := 3) (k := 0) (hb.ln1) (by decide) (rfl)), ?_⟩
  exact ⟨rfl, ri (hI.2.2.1)⟩
theorem c_detail6 {d b : Nat} {q : zI} {t : zT} {I : Nat → Nat → Int32} {J : Nat → Nat → Int64} {P : Nat → Nat} (hb : iCell P b) (hI : cI (I b) (I (b + 1)) (J b) q) (hq : iOK t q) : gTM (d + 4) 19 [.ref b, .int 6] (gST I J P) (fun r u => u = gST I J P ∧ r = some (.int (idF q 6))) := by
  refine gT_n 2 ?_
  refine ⟨fun c => absurd c (by decide), fun _ => ⟨fun c => absurd c (by decide), fun _ => ⟨fun c => absurd c (by decide), fun _ => ⟨fun c => absurd c (by decide), fun _ => ⟨fun c => absurd c (by decide), fun _ => ⟨fun c => absurd c (by decide), fun _ => ⟨fun _ => ?_, fun c => absurd rfl c⟩⟩⟩⟩⟩⟩⟩
  refine gT_n 2 ?_
  refine ⟨hb.ob, ?_⟩
  refine gT_top (hb.v5) ?_
  refine gT_n 5 ?_
  refine ⟨hb.ar1, (pk_inS (m := 3) (k := 1) (hb.ln1) (by decide) (rfl)), ?_⟩
  exact ⟨rfl, ri (hI.2.2.2.1)⟩
theorem c_detail7 {d b : Nat} {q : zI} {t : zT} {I : Nat → Nat → Int32} {J : Nat → Nat → Int64} {P : Nat → Nat} (hb : iCell P b) (hI : cI (I b) (I (b + 1)) (J b) q) (hq : iOK t q) : gTM (d + 4) 19 [.ref b, .int 7] (gST I J P) (fun r u => u = gST I J P ∧ r = some (.int (idF q 7))) := by
  refine gT_n 2 ?_
  refine ⟨fun c => absurd c (by decide), fun _ => ⟨fun c => absurd c (by decide), fun _ => ⟨fun c => absurd c (by decide), fun _ => ⟨fun c => absurd c (by decide), fun _ => ⟨fun c => absurd c (by decide), fun _ => ⟨fun c => absurd c (by decide), fun _ => ⟨fun c => absurd c (by decide), fun _ => ⟨fun _ => ?_, fun c => absurd rfl c⟩⟩⟩⟩⟩⟩⟩⟩
  refine gT_n 2 ?_
  refine ⟨hb.ob, ?_⟩
  refine gT_top (hb.v5) ?_
  refine gT_n 5 ?_
  refine ⟨hb.ar1, (pk_inS (m := 3) (k := 2) (hb.ln1) (by decide) (rfl)), ?_⟩
  exact ⟨rfl, ri (hI.2.2.2.2)⟩
theorem c_detail8 {d b : Nat} {q : zI} {t : zT} {I : Nat → Nat → Int32} {J : Nat → Nat → Int64} {P : Nat → Nat} (hb : iCell P b) (hI : cI (I b) (I (b + 1)) (J b) q) (hq : iOK t q) : gTM (d + 4) 19 [.ref b, .int 8] (gST I J P) (fun r u => u = gST I J P ∧ r = some (.int (idF q 8))) := by
  refine gT_n 2 ?_
  refine ⟨fun c => absurd c (by decide), fun _ => ⟨fun c => absurd c (by decide), fun _ => ⟨fun c => absurd c (by decide), fun _ => ⟨fun c => absurd c (by decide), fun _ => ⟨fun c => absurd c (by decide), fun _ => ⟨fun c => absurd c (by decide), fun _ => ⟨fun c => absurd c (by decide), fun _ => ⟨fun c => absurd c (by decide), fun _ => ⟨fun _ => ?_, fun c => absurd rfl c⟩⟩⟩⟩⟩⟩⟩⟩⟩
  refine gT_n 3 ?_
  refine ⟨hb.ob, ?_⟩
  exact ⟨rfl, ri (hI.1.2.2.2.1)⟩
theorem c_detail9 {d b : Nat} {q : zI} {t : zT} {I : Nat → Nat → Int32} {J : Nat → Nat → Int64} {P : Nat → Nat} (hb : iCell P b) (hI : cI (I b) (I (b + 1)) (J b) q) (hq : iOK t q) : gTM (d + 4) 19 [.ref b, .int 9] (gST I J P) (fun r u => u = gST I J P ∧ r = some (.int (idF q 9))) := by
  refine gT_n 2 ?_
  refine ⟨fun c => absurd c (by decide), fun _ => ⟨fun c => absurd c (by decide), fun _ => ⟨fun c => absurd c (by decide), fun _ => ⟨fun c => absurd c (by decide), fun _ => ⟨fun c => absurd c (by decide), fun _ => ⟨fun c => absurd c (by decide), fun _ => ⟨fun c => absurd c (by decide), fun _ => ⟨fun c => absurd c (by decide), fun _ => ⟨fun c => absurd c (by decide), fun _ => ⟨fun _ => ?_, fun c => absurd rfl c⟩⟩⟩⟩⟩⟩⟩⟩⟩⟩
  refine gT_n 3 ?_
  refine ⟨hb.ob, ?_⟩
  exact ⟨rfl, ri (hI.1.2.2.2.2)⟩
theorem c_detail10 {d b : Nat} {q : zI} {t : zT} {I : Nat → Nat → Int32} {J : Nat → Nat → Int64} {P : Nat → Nat} (hb : iCell P b) (hI : cI (I b) (I (b + 1)) (J b) q) (hq : iOK t q) : gTM (d + 4) 19 [.ref b, .int 10] (gST I J P) (fun r u => u = gST I J P ∧ r = some (.int (idF q 10))) := by
  refine gT_n 2 ?_
  refine ⟨fun c => absurd c (by decide), fun _ => ⟨fun c => absurd c (by decide), fun _ => ⟨fun c => absurd c (by decide), fun _ => ⟨fun c => absurd c (by decide), fun _ => ⟨fun c => absurd c (by decide), fun _ => ⟨fun c => absurd c (by decide), fun _ => ⟨fun c => absurd c (by decide), fun _ => ⟨fun c => absurd c (by decide), fun _ => ⟨fun c => absurd c (by decide), fun _ => ⟨fun c => absurd c (by decide), fun _ => ?_⟩⟩⟩⟩⟩⟩⟩⟩⟩⟩
  refine gT_n 2 ?_
  refine ⟨hb.ob, rfl, gTM.use (c_content hb hI hq) (Nat.le_refl _) (fun r u hq => ?_)⟩
  obtain ⟨rfl, rfl⟩ := hq  -- X1_content[Rb]
  refine gT_n 1 ?_
  exact ⟨rfl, ri (rfl)⟩
theorem m_content {d k : Nat} {q : zI} {t : zT} {I : Nat → Nat → Int32} {J : Nat → Nat → Int64} {P : Nat → Nat} (hk : k < 10) (hI : mI k (I 193) (I 194) (I 197) (I 198) (I 199) (I 200) (J 195) (J 196) q) (hq : iOK t q) : gTM (d + 4) 218 [.ref 171, .int (nI k)] (gST I J P) (fun r u => u = gST I J P ∧ r = some (.int (icon q))) := by
  refine gT_n 6 ?_
  refine ⟨rfl, rfl, (pk_in k 10 (by omega) (rfl)), rfl, gTM.useA (m_mix) (Nat.le_refl _) (aI (rfl) (aI ((rdI (rfl) (by omega) hI.1.1)) (rfl))) (fun r u hq => ?_)⟩
  obtain ⟨rfl, rfl⟩ := hq  -- X12_mixed[K7, q.1]
  refine gT_n 5 ?_
  refine ⟨rfl, rfl, (pk_in k 10 (by omega) (rfl)), rfl, gTM.useA (m_mix) (Nat.le_refl _) (aI (rfl) (aI ((rdI (rfl) (by omega) hI.1.2.1)) (rfl))) (fun r u hq => ?_)⟩
  obtain ⟨rfl, rfl⟩ := hq  -- X12_mixed[(mixI 7 q.1), (nI q.2.1)]
  refine gT_n 7 ?_
  refine ⟨rfl, rfl, (pk_in k 10 (by omega) (rfl)), rfl, gTM.useA (m_mixName hq.2.1) (Nat.le_refl _) (aI (rfl) (aL ((rdJ (rfl) (by omega) hI.2.1.1)) (rfl))) (fun r u hq => ?_)⟩
  obtain ⟨rfl, rfl⟩ := hq  -- X12_mixedName[(mixI (mixI 7 q.1) (nI q.2.1)), lN q.2.2.1]
  refine gT_n 5 ?_
  refine ⟨rfl, rfl, (pk_in k 10 (by omega) (rfl)), rfl, gTM.useA (m_mixName hq.2.2.1) (Nat.le_refl _) (aI (rfl) (aL ((rdJ (rfl) (by omega) hI.2.1.2)) (rfl))) (fun r u hq => ?_)⟩
  obtain ⟨rfl, rfl⟩ := hq  -- X12_mixedName[(mxN (mixI (mixI 7 q.1) (nI q.2.1)) q.2.2.1), lN q.2.2.2.1]
  refine gT_n 7 ?_
  refine ⟨rfl, rfl, (pk_in k 10 (by omega) (rfl)), rfl, gTM.useA (m_mix) (Nat.le_refl _) (aI (rfl) (aI ((rdI (rfl) (by omega) hI.1.2.2.1)) (rfl))) (fun r u hq => ?_)⟩
  obtain ⟨rfl, rfl⟩ := hq  -- X12_mixed[(mxN (mxN (mixI (mixI 7 q.1) (nI q.2.1)) q.2.2.1) q.2.2.2.1), (nI q.2.2.2.2.1)]
  refine gT_n 6 ?_
  refine ⟨fun c => absurd c (by decide), fun _ => ?_⟩
  refine gT_n 10 ?_
  refine ⟨rfl, rfl, (pk_in ((3 * k) + 0) 30 (by omega) (pk_addE (n := (3 * k)) (k := 0) (pk_mulE (n := 3) (k := k) (rfl) (rfl)) (rfl))), rfl, gTM.useA (m_mix) (Nat.le_refl _) (aI (rfl) (aI ((rdI (Eq.trans (pk_addE (n := (3 * k)) (k := 0) (pk_mulE (n := 3) (k := k) (rfl) (rfl)) (rfl)) (congrArg nI (show ((3 * k) + 0) = 3 * k + 0 by omega))) (by omega) hI.2.2.1)) (rfl))) (fun r u hq => ?_)⟩
  obtain ⟨rfl, rfl⟩ := hq  -- X12_mixed[(mixI (mxN (mxN (mixI (mixI 7 q.1) (nI q.2.1)) q.2.2.1) q.2.2.2.1) (nI q.2.2.2.2.1)), q.2.2.2.2.2.1.1]
  refine gT_n 6 ?_
  refine ⟨fun c => absurd c (by decide), fun _ => ?_⟩
  refine gT_n 10 ?_
  refine ⟨rfl, rfl, (pk_in ((3 * k) + 1) 30 (by omega) (pk_addE (n := (3 * k)) (k := 1) (pk_mulE (n := 3) (k := k) (rfl) (rfl)) (rfl))), rfl, gTM.useA (m_mix) (Nat.le_refl _) (aI (rfl) (aI ((rdI (Eq.trans (pk_addE (n := (3 * k)) (k := 1) (pk_mulE (n := 3) (k := k) (rfl) (rfl)) (rfl)) (congrArg nI (show ((3 * k) + 1) = 3 * k + 1 by omega))) (by omega) hI.2.2.2.1)) (rfl))) (fun r u hq => ?_)⟩
  obtain ⟨rfl, rfl⟩ := hq  -- X12_mixed[(mixI (mixI (mxN (mxN (mixI (mixI 7 q.1) (nI q.2.1)) q.2.2.1) q.2.2.2.1) (nI q.2.2.2.2.1)) q.2.2.2.2.2.1.1), q.2.2.2.2.2.1.2.1]
  refine gT_n 6 ?_
  refine ⟨fun c => absurd c (by decide), fun _ => ?_⟩
  refine gT_n 10 ?_
  refine ⟨rfl, rfl, (pk_in ((3 * k) + 2) 30 (by omega) (pk_addE (n := (3 * k)) (k := 2) (pk_mulE (n := 3) (k := k) (rfl) (rfl)) (rfl))), rfl, gTM.useA (m_mix) (Nat.le_refl _) (aI (rfl) (aI ((rdI (Eq.trans (pk_addE (n := (3 * k)) (k := 2) (pk_mulE (n := 3) (k := k) (rfl) (rfl)) (rfl)) (congrArg nI (show ((3 * k) + 2) = 3 * k + 2 by omega))) (by omega) hI.2.2.2.2)) (rfl))) (fun r u hq => ?_)⟩
  obtain ⟨rfl, rfl⟩ := hq  -- X12_mixed[(mixI (mixI (mixI (mxN (mxN (mixI (mixI 7 q.1) (nI q.2.1)) q.2.2.1) q.2.2.2.1) (nI q.2.2.2.2.1)) q.2.2.2.2.2.1.1) q.2.2.2.2.2.1.2.1), q.2.2.2.2.2.1.2.2]
  refine gT_n 6 ?_
  refine ⟨fun _ => ?_, fun c => absurd (by decide) c⟩
  refine gT_n 2 ?_
  exact ⟨rfl, rfl⟩
theorem m_markBy {d k : Nat} {q : zI} {t : zT} {I : Nat → Nat → Int32} {J : Nat → Nat → Int64} {P : Nat → Nat} (hk : k < 10) (hI : mI k (I 193) (I 194) (I 197) (I 198) (I 199) (I 200) (J 195) (J 196) q) (hq : iOK t q) {sg : Int32} : gTM (d + 5) 219 [.ref 171, .int (nI k), .int sg] (gST I J P) (fun r u => u = gST I J P ∧ r = some (.int (imrk q sg))) := by
  refine gT_n 3 ?_
  refine ⟨rfl, rfl, gTM.use (m_content hk hI hq) (Nat.le_refl _) (fun r u hq => ?_)⟩
  obtain ⟨rfl, rfl⟩ := hq  -- X12_contentOf[R171, nI k]
  refine gT_n 11 ?_
  refine ⟨(by decide), ?_⟩
  exact ⟨rfl, rfl⟩
