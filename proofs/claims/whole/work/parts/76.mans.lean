/-! the answer's items; ask: the reference's call -/
theorem fOc_0 {f : Nat → Nat} {n s k : Nat} (h : fOc f n s k 0) : (f n).testBit s = true := by
  by_cases g : 0 < f n
  · have h := (pif_pos g).mp h
    by_cases b : (f n).testBit s = true
    · exact b
    · exact absurd ((pif_neg b).mp h) (by decide)
  · have h := (pif_neg g).mp h
    by_cases e : k = cnt n
    · exact absurd ((pif_pos e).mp h) (by decide)
    · have h := (pif_neg e).mp h
      by_cases a : 0 < f (nlon (nfst n k) 1)
      · have h := (pif_pos a).mp h
        by_cases b : (f (nlon (nfst n k) 1)).testBit s = true
        · exact absurd ((pif_pos b).mp h) (by decide)
        · exact absurd ((pif_neg b).mp h) (by decide)
      · exact absurd ((pif_neg a).mp h) (by decide)
theorem fOc_2b {f : Nat → Nat} {n s k : Nat} (h : fOc f n s k 2) : (f (nlon (nfst n k) 1)).testBit s = true := by
  obtain ⟨a, b⟩ := fOc_ge h (by decide) (by decide)
  have h := (pif_neg b).mp ((pif_neg a).mp h)
  by_cases c : 0 < f (nlon (nfst n k) 1)
  · have h := (pif_pos c).mp h
    by_cases b : (f (nlon (nfst n k) 1)).testBit s = true
    · exact b
    · exact absurd ((pif_neg b).mp h) (by decide)
  · exact absurd ((pif_neg c).mp h) (by decide)
theorem m_answerToV {d n s k : Nat} {t : zT} {W : zW} {lm : zR} {v : Int32} {I : Nat → Nat → Int32} {J : Nat → Nat → Int64} {P : Nat → Nat} (hz : zOK t) (hT : mT (I 171 2) (J 172) (I 173) t) (hr : rOK lm) (hp : lm.Perm W.1) (hR : mR (I 171 7) (J 174) (I 175) (I 176) lm) {os : zO} (hos : oIs os (fG t W.1 (zof t n))) (hn : vn n) (hs : s < 3) (hC : isC os n k) (hv : fOc (fG t W.1 (zof t n)) n s k v) : gTM (d + 12) 212 [.ref 171, .int (nI (zof t n)), .long (lN (mo n)), .int (nI s)] (gST I J P) (fun x u => u = gST I J P ∧ x = some (.int v)) := by
  have hom : oIs os (fG t lm (zof t n)) := oIs_ext hos (fun m => fG_perm hp.symm)
  refine gTM.use (m_answerTo hz hT hr hR (zof_lt hz n) hom hn rfl hs) (Nat.le_refl _) (fun r u h => ?_)
  obtain ⟨h1, k2, v2, h2, h3, h4⟩ := h
  obtain rfl := isC_one hC h2
  obtain rfl := fOc_one hv (fOc_f h3 (fun m => fG_perm hp))
  exact ⟨h1, h4⟩
theorem m_isOwner1 {d z n : Nat} {t : zT} {lm : zR} {I : Nat → Nat → Int32} {J : Nat → Nat → Int64} {P : Nat → Nat} (hz : zOK t) (hT : mT (I 171 2) (J 172) (I 173) t) (hr : rOK lm) (hR : mR (I 171 7) (J 174) (I 175) (I 176) lm) (hzz : z < t.1) (hn : vn n) (h64 : fG t lm z n < 64) (ho : 0 < fG t lm z n) : gTM (d + 8) 169 [.ref 171, .int (nI z), .long (lN (mo n))] (gST I J P) (fun r u => u = gST I J P ∧ r = some (.int 1)) := by
  refine gTM.use (m_isOwner hz hT hr hR hzz hn h64) (Nat.le_refl _) (fun r u h => ?_)
  obtain ⟨h1, h2 | h2⟩ := h
  · exact ⟨h1, h2.1⟩
  · exact absurd ho h2.2
theorem m_isOwner0 {d z n : Nat} {t : zT} {lm : zR} {I : Nat → Nat → Int32} {J : Nat → Nat → Int64} {P : Nat → Nat} (hz : zOK t) (hT : mT (I 171 2) (J 172) (I 173) t) (hr : rOK lm) (hR : mR (I 171 7) (J 174) (I 175) (I 176) lm) (hzz : z < t.1) (hn : vn n) (h64 : fG t lm z n < 64) (ho : ¬ 0 < fG t lm z n) : gTM (d + 8) 169 [.ref 171, .int (nI z), .long (lN (mo n))] (gST I J P) (fun r u => u = gST I J P ∧ r = some (.int 0)) := by
  refine gTM.use (m_isOwner hz hT hr hR hzz hn h64) (Nat.le_refl _) (fun r u h => ?_)
  obtain ⟨h1, h2 | h2⟩ := h
  · exact absurd h2.2 ho
  · exact ⟨h1, h2.1⟩
theorem m_end {I : Nat → Nat → Int32} {J : Nat → Nat → Int64} {P : Nat → Nat} {kd zn so nu sg mk : Nat → Int32} {jo jx : Nat → Int64} {l l2 : List zI} (hB : mB kd zn so nu sg mk jo jx l) (e : l = l2) : (none : Option Value) = none ∧ ∃ kd' zn' so' nu' sg' mk' jo' jx', gST (bM I (nI l.length) kd zn so nu sg mk) (bMJ J jo jx) P = gST (bM I (nI l2.length) kd' zn' so' nu' sg' mk') (bMJ J jo' jx') P ∧ mB kd' zn' so' nu' sg' mk' jo' jx' l2 := by
  subst e
  exact ⟨rfl, _, _, _, _, _, _, _, _, rfl, hB⟩
theorem m_answerComes {d n s : Nat} {I : Nat → Nat → Int32} {J : Nat → Nat → Int64} {P : Nat → Nat} {kd zn so nu sg mk : Nat → Int32} {jo jx : Nat → Int64} {t : zT} {W : zW} {lm : zR} (hz : zOK t) (oW : wOK t W) (hT : mT (I 171 2) (J 172) (I 173) t) (hr : rOK lm) (hp : lm.Perm W.1) (hR : mR (I 171 7) (J 174) (I 175) (I 176) lm) (hac : mAc (I 180) t W.2.2.2.1) (hK : mKs 3 (I 179) (I 177) (I 178) W.2.1) (hD : mKs 2 (I 183) (I 181) (I 182) W.2.2.1) (hn : vn n) (hs : s < 3) (hsg : t.2.2.1 (zof t n) = true) {a l' : List zI} (hB0 : mB kd zn so nu sg mk jo jx (a.map qS)) (hl8 : a.length ≤ 8) (hS : fAn t W n s a l') : gTM (d + 13) 229 [.ref 171, .int (nI (zof t n)), .long (lN (mo n)), .int (nI s)] (gST (bM I (nI (a.map qS).length) kd zn so nu sg mk) (bMJ J jo jx) P) (fun r u => r = none ∧ ∃ kd' zn' so' nu' sg' mk' jo' jx', u = gST (bM I (nI (l'.map qS).length) kd' zn' so' nu' sg' mk') (bMJ J jo' jx') P ∧ mB kd' zn' so' nu' sg' mk' jo' jx' (l'.map qS)) := by
  have h4 := hz.2.1
  have hzz := zof_lt hz n
  obtain ⟨os, k, v, aa, hos, h28, hC, ha, hv, hsp⟩ := hS
  have hom : oIs os (fG t lm (zof t n)) := oIs_ext hos (fun m => fG_perm hp.symm)
  rcases fOc_5 hv with rfl | rfl | rfl | rfl | rfl
  · obtain ⟨x, hx, rfl⟩ := (pif_pos rfl).mp (hsp)
    refine gT_n 5 ?_
    refine ⟨rfl, rfl, gTM.use (m_answerToV (I := bM I _ _ _ _ _ _ _) (J := bMJ J _ _) hz hT hr hp hR hos hn hs hC hv) (Nat.le_refl _) (fun r u hq => ?_)⟩
    obtain ⟨rfl, rfl⟩ := hq  -- X12_answerTo[R171, nI ((zof t n)), lN n, nI s]
    refine gT_n 3 ?_
    refine ⟨fun c => absurd (by decide) c, fun _ => ?_⟩
    refine gT_n 5 ?_
    refine ⟨rfl, rfl, gTM.use (m_recordComes (I := I) (J := J) hz oW hT hr hp hR hac (by rw [List.length_map]; omega) hB0 hx (fun q => rno_bit hs q ((fG_perm hp).symm ▸ fOc_0 hv)) hn hs hzz hsg) (Nat.le_refl _) (fun r u hq => ?_)⟩
    obtain ⟨rfl, kd1, zn1, so1, nu1, sg1, mk1, jo1, jx1, rfl, hB1⟩ := hq  -- X12_recordComes[R171, nI ((zof t n)), lN n, nI s]
    refine gT_n 2 ?_
    refine ⟨rfl, ?_⟩
    exact m_end hB1 (by simp only [List.map_append]; rfl)
  · have hsp1 := (pif_pos rfl).mp ((pif_neg (by decide : ¬ (1 : Int32) = 0)).mp (hsp))
    by_cases ho : 0 < fG t W.1 (zof t n) n
    · obtain ⟨i, hi, ei, rfl⟩ := (pif_pos ho).mp hsp1
      have ho : 0 < fG t lm (zof t n) n := (fG_perm hp).symm ▸ ho
      refine gT_n 5 ?_
      refine ⟨rfl, rfl, gTM.use (m_answerToV (I := bM I _ _ _ _ _ _ _) (J := bMJ J _ _) hz hT hr hp hR hos hn hs hC hv) (Nat.le_refl _) (fun r u hq => ?_)⟩
      obtain ⟨rfl, rfl⟩ := hq  -- X12_answerTo[R171, nI ((zof t n)), lN n, nI s]
      refine gT_n 3 ?_
      refine ⟨fun _ => ?_, fun c => absurd c (by decide)⟩
      refine gT_n 3 ?_
      refine ⟨fun c => absurd (by decide) c, fun _ => ?_⟩
      refine gT_n 6 ?_
      refine ⟨rfl, rfl, gTM.use (m_isOwner1 (I := bM I _ _ _ _ _ _ _) (J := bMJ J _ _) hz hT hr hR hzz hn (fG_64 hr) ho) (Nat.le_refl _) (fun r u hq => ?_)⟩
      obtain ⟨rfl, rfl⟩ := hq  -- X12_isOwner[R171, nI ((zof t n)), lN n]
      refine gT_n 1 ?_
      refine ⟨fun c => absurd c (by decide), fun _ => ?_⟩
      refine gT_n 3 ?_
      refine ⟨rfl, rfl, gTM.useA (m_linkComes (I := I) (J := J) hz oW hT hr hp hR hac (by rw [List.length_map]; omega) hB0 hom hi hzz hsg) (Nat.le_refl _) (aR (aI (rfl) (aL ((Eq.trans (rfl) (congrArg (fun q => lN (mo q)) (Eq.symm ei)))) (rfl)))) (fun r u hq => ?_)⟩
      obtain ⟨rfl, kd1, zn1, so1, nu1, sg1, mk1, jo1, jx1, rfl, hB1⟩ := hq  -- X12_linkComes[R171, nI ((zof t n)), L(lN (mo (og os i).1))]
      refine gT_n 2 ?_
      refine ⟨rfl, ?_⟩
      exact m_end hB1 (by simp only [List.map_append]; rfl)
    · obtain rfl := (pif_neg ho).mp hsp1
      have hapx := apex_lt hz hn ho
      have ho : ¬ 0 < fG t lm (zof t n) n := (fG_perm hp).symm ▸ ho
      refine gT_n 5 ?_
      refine ⟨rfl, rfl, gTM.use (m_answerToV (I := bM I _ _ _ _ _ _ _) (J := bMJ J _ _) hz hT hr hp hR hos hn hs hC hv) (Nat.le_refl _) (fun r u hq => ?_)⟩
      obtain ⟨rfl, rfl⟩ := hq  -- X12_answerTo[R171, nI ((zof t n)), lN n, nI s]
      refine gT_n 3 ?_
      refine ⟨fun _ => ?_, fun c => absurd c (by decide)⟩
      refine gT_n 3 ?_
      refine ⟨fun c => absurd (by decide) c, fun _ => ?_⟩
      refine gT_n 6 ?_
      refine ⟨rfl, rfl, gTM.use (m_isOwner0 (I := bM I _ _ _ _ _ _ _) (J := bMJ J _ _) hz hT hr hR hzz hn (fG_64 hr) ho) (Nat.le_refl _) (fun r u hq => ?_)⟩
      obtain ⟨rfl, rfl⟩ := hq  -- X12_isOwner[R171, nI ((zof t n)), lN n]
      refine gT_n 1 ?_
      refine ⟨fun _ => ?_, fun c => absurd (by decide) c⟩
      refine gT_n 4 ?_
      refine ⟨rfl, rfl, gTM.use (m_covering (I := bM I _ _ _ _ _ _ _) (J := bMJ J _ _) hz hT hr hR hzz hom hn hapx) (Nat.le_refl _) (fun r u hq => ?_)⟩
      obtain ⟨rfl, c, hc, hcA, rfl⟩ := hq  -- X12_covering[R171, nI ((zof t n)), lN n]
      obtain rfl := isA_one ha hcA
      refine gT_n 1 ?_
      refine ⟨rfl, rfl, gTM.use (m_linkComes (I := I) (J := J) hz oW hT hr hp hR hac (by rw [List.length_map]; omega) hB0 hom hc hzz hsg) (Nat.le_refl _) (fun r u hq => ?_)⟩
      obtain ⟨rfl, kd1, zn1, so1, nu1, sg1, mk1, jo1, jx1, rfl, hB1⟩ := hq  -- X12_linkComes[R171, nI ((zof t n)), lN ((og os c).1)]
      refine gT_n 2 ?_
      refine ⟨rfl, ?_⟩
      exact m_end hB1 (by simp only [List.map_append]; rfl)
  · obtain ⟨x, hx, rfl⟩ := (pif_pos rfl).mp ((pif_neg (by decide : ¬ (2 : Int32) = 1)).mp ((pif_neg (by decide : ¬ (2 : Int32) = 0)).mp (hsp)))
    have hgk := fOc_ge hv (by decide) (by decide)
    have hapx := apex_lt hz hn hgk.1
    have hk4 : k < 4 := by have := hC.1; have := cnt_le n; have := hgk.2; omega
    have hst : vn (nlon (nfst n k) 1) := vn_lon (vn_fst hn (isC_le hC)) (by rw [cnt_fk hn hC.1]; exact hk4) (Or.inl (by decide)) (by decide)
    refine gT_n 5 ?_
    refine ⟨rfl, rfl, gTM.use (m_answerToV (I := bM I _ _ _ _ _ _ _) (J := bMJ J _ _) hz hT hr hp hR hos hn hs hC hv) (Nat.le_refl _) (fun r u hq => ?_)⟩
    obtain ⟨rfl, rfl⟩ := hq  -- X12_answerTo[R171, nI ((zof t n)), lN n, nI s]
    refine gT_n 3 ?_
    refine ⟨fun _ => ?_, fun c => absurd c (by decide)⟩
    refine gT_n 3 ?_
    refine ⟨fun _ => ?_, fun c => absurd c (by decide)⟩
    refine gT_n 3 ?_
    refine ⟨fun c => absurd (by decide) c, fun _ => ?_⟩
    refine gT_n 6 ?_
    refine ⟨rfl, rfl, gTM.use (m_starOf (I := bM I _ _ _ _ _ _ _) (J := bMJ J _ _) hz hT hr hR hzz hom hn rfl (fun k2 h => by obtain rfl := isC_one h hC; exact hk4)) (Nat.le_refl _) (fun r u hq => ?_)⟩
    obtain ⟨rfl, k2, hC2, rfl⟩ := hq  -- X12_starOf[R171, nI ((zof t n)), lN n]
    refine gT_n 2 ?_
    refine ⟨rfl, rfl, gTM.useA (m_recordComes (I := I) (J := J) hz oW hT hr hp hR hac (by rw [List.length_map]; omega) hB0 hx (fun q => rno_bit hs q ((fG_perm hp).symm ▸ fOc_2b hv)) hst hs hzz hsg) (Nat.le_refl _) (aR (aI (rfl) (aL ((by rw [isC_one hC2 hC])) (aI (rfl) (rfl))))) (fun r u hq => ?_)⟩
    obtain ⟨rfl, kd1, zn1, so1, nu1, sg1, mk1, jo1, jx1, rfl, hB1⟩ := hq  -- X12_recordComes[R171, nI ((zof t n)), lN ((nlon (nfst n k) 1)), nI s]
    refine gT_n 6 ?_
    refine ⟨rfl, rfl, gTM.use (m_covering (I := bM I _ _ _ _ _ _ _) (J := bMJ J _ _) hz hT hr hR hzz hom hn hapx) (Nat.le_refl _) (fun r u hq => ?_)⟩
    obtain ⟨rfl, c, hc, hcA, rfl⟩ := hq  -- X12_covering[R171, nI ((zof t n)), lN n]
    obtain rfl := isA_one ha hcA
    refine gT_n 1 ?_
    refine ⟨rfl, rfl, gTM.use (m_linkComes (I := I) (J := J) hz oW hT hr hp hR hac (by rw [List.length_append, List.length_map]; show a.length + 1 < 10; omega) hB1 hom hc hzz hsg) (Nat.le_refl _) (fun r u hq => ?_)⟩
    obtain ⟨rfl, kd2, zn2, so2, nu2, sg2, mk2, jo2, jx2, rfl, hB2⟩ := hq  -- X12_linkComes[R171, nI ((zof t n)), lN ((og os c).1)]
    refine gT_n 2 ?_
    refine ⟨rfl, ?_⟩
    exact m_end hB2 (by simp only [List.map_append]; rfl)
  · obtain ⟨i, hi, ei, rfl⟩ := (pif_pos rfl).mp ((pif_neg (by decide : ¬ (3 : Int32) = 2)).mp ((pif_neg (by decide : ¬ (3 : Int32) = 1)).mp ((pif_neg (by decide : ¬ (3 : Int32) = 0)).mp (hsp))))
    have hgk := fOc_ge hv (by decide) (by decide)
    have hapx := apex_lt hz hn hgk.1
    have hk4 : k < 4 := by have := hC.1; have := cnt_le n; have := hgk.2; omega
    have hst : vn (nlon (nfst n k) 1) := vn_lon (vn_fst hn (isC_le hC)) (by rw [cnt_fk hn hC.1]; exact hk4) (Or.inl (by decide)) (by decide)
    refine gT_n 5 ?_
    refine ⟨rfl, rfl, gTM.use (m_answerToV (I := bM I _ _ _ _ _ _ _) (J := bMJ J _ _) hz hT hr hp hR hos hn hs hC hv) (Nat.le_refl _) (fun r u hq => ?_)⟩
    obtain ⟨rfl, rfl⟩ := hq  -- X12_answerTo[R171, nI ((zof t n)), lN n, nI s]
    refine gT_n 3 ?_
    refine ⟨fun _ => ?_, fun c => absurd c (by decide)⟩
    refine gT_n 3 ?_
    refine ⟨fun _ => ?_, fun c => absurd c (by decide)⟩
    refine gT_n 3 ?_
    refine ⟨fun _ => ?_, fun c => absurd c (by decide)⟩
    refine gT_n 3 ?_
    refine ⟨fun c => absurd (by decide) c, fun _ => ?_⟩
    refine gT_n 6 ?_
    refine ⟨rfl, rfl, gTM.use (m_starOf (I := bM I _ _ _ _ _ _ _) (J := bMJ J _ _) hz hT hr hR hzz hom hn rfl (fun k2 h => by obtain rfl := isC_one h hC; exact hk4)) (Nat.le_refl _) (fun r u hq => ?_)⟩
    obtain ⟨rfl, k2, hC2, rfl⟩ := hq  -- X12_starOf[R171, nI ((zof t n)), lN n]
    refine gT_n 1 ?_
    refine ⟨rfl, rfl, gTM.useA (m_linkComes (I := I) (J := J) hz oW hT hr hp hR hac (by rw [List.length_map]; omega) hB0 hom hi hzz hsg) (Nat.le_refl _) (aR (aI (rfl) (aL ((Eq.trans ((by rw [isC_one hC2 hC])) (congrArg (fun q => lN (mo q)) (Eq.symm ei)))) (rfl)))) (fun r u hq => ?_)⟩
    obtain ⟨rfl, kd1, zn1, so1, nu1, sg1, mk1, jo1, jx1, rfl, hB1⟩ := hq  -- X12_linkComes[R171, nI ((zof t n)), L(lN (mo (og os i).1))]
    refine gT_n 6 ?_
    refine ⟨rfl, rfl, gTM.use (m_covering (I := bM I _ _ _ _ _ _ _) (J := bMJ J _ _) hz hT hr hR hzz hom hn hapx) (Nat.le_refl _) (fun r u hq => ?_)⟩
    obtain ⟨rfl, c, hc, hcA, rfl⟩ := hq  -- X12_covering[R171, nI ((zof t n)), lN n]
    obtain rfl := isA_one ha hcA
    refine gT_n 1 ?_
    refine ⟨rfl, rfl, gTM.use (m_linkComes (I := I) (J := J) hz oW hT hr hp hR hac (by rw [List.length_append, List.length_map]; show a.length + 1 < 10; omega) hB1 hom hc hzz hsg) (Nat.le_refl _) (fun r u hq => ?_)⟩
    obtain ⟨rfl, kd2, zn2, so2, nu2, sg2, mk2, jo2, jx2, rfl, hB2⟩ := hq  -- X12_linkComes[R171, nI ((zof t n)), lN ((og os c).1)]
    refine gT_n 2 ?_
    refine ⟨rfl, ?_⟩
    exact m_end hB2 (by simp only [List.map_append]; rfl)
  · obtain ⟨b, hbA, hsp1⟩ := (pif_neg (by decide : ¬ (4 : Int32) = 3)).mp ((pif_neg (by decide : ¬ (4 : Int32) = 2)).mp ((pif_neg (by decide : ¬ (4 : Int32) = 1)).mp ((pif_neg (by decide : ¬ (4 : Int32) = 0)).mp (hsp))))
    have hgk := fOc_ge hv (by decide) (by decide)
    have hapx := apex_lt hz hn hgk.1
    have hk4 : k < 4 := by have := hC.1; have := cnt_le n; have := hgk.2; omega
    have hst : vn (nlon (nfst n k) 1) := vn_lon (vn_fst hn (isC_le hC)) (by rw [cnt_fk hn hC.1]; exact hk4) (Or.inl (by decide)) (by decide)
    refine gT_n 5 ?_
    refine ⟨rfl, rfl, gTM.use (m_answerToV (I := bM I _ _ _ _ _ _ _) (J := bMJ J _ _) hz hT hr hp hR hos hn hs hC hv) (Nat.le_refl _) (fun r u hq => ?_)⟩
    obtain ⟨rfl, rfl⟩ := hq  -- X12_answerTo[R171, nI ((zof t n)), lN n, nI s]
    refine gT_n 3 ?_
    refine ⟨fun _ => ?_, fun c => absurd c (by decide)⟩
    refine gT_n 3 ?_
    refine ⟨fun _ => ?_, fun c => absurd c (by decide)⟩
    refine gT_n 3 ?_
    refine ⟨fun _ => ?_, fun c => absurd c (by decide)⟩
    refine gT_n 3 ?_
    refine ⟨fun _ => ?_, fun c => absurd c (by decide)⟩
    refine gT_n 4 ?_
    refine ⟨rfl, rfl, gTM.use (m_covering (I := bM I _ _ _ _ _ _ _) (J := bMJ J _ _) hz hT hr hR hzz hom hn hapx) (Nat.le_refl _) (fun r u hq => ?_)⟩
    obtain ⟨rfl, c, hc, hcA, rfl⟩ := hq  -- X12_cover1[R171, nI ((zof t n)), lN n]
    obtain rfl := isA_one ha hcA
    refine gT_n 7 ?_
    refine ⟨rfl, rfl, gTM.use (m_starOf (I := bM I _ _ _ _ _ _ _) (J := bMJ J _ _) hz hT hr hR hzz hom hn rfl (fun k2 h => by obtain rfl := isC_one h hC; exact hk4)) (Nat.le_refl _) (fun r u hq => ?_)⟩
    obtain ⟨rfl, k2, hC2, rfl⟩ := hq  -- X12_starOf[R171, nI ((zof t n)), lN n]
    refine gT_n 1 ?_
    refine ⟨rfl, rfl, gTM.useA (m_covering (I := bM I _ _ _ _ _ _ _) (J := bMJ J _ _) hz hT hr hR hzz hom hst (star_gt hz oW.1 hn hos hC)) (Nat.le_refl _) (aR (aI (rfl) (aL ((by rw [isC_one hC2 hC])) (rfl)))) (fun r u hq => ?_)⟩
    obtain ⟨rfl, c2, hc2, hcA2, rfl⟩ := hq  -- X12_cover2[R171, nI ((zof t n)), lN ((nlon (nfst n k) 1))]
    obtain rfl := isA_one hbA hcA2
    refine gT_n 5 ?_
    refine ⟨rfl, rfl, gTM.use (m_linkComes (I := I) (J := J) hz oW hT hr hp hR hac (by rw [List.length_map]; omega) hB0 hom hc hzz hsg) (Nat.le_refl _) (fun r u hq => ?_)⟩
    obtain ⟨rfl, kd1, zn1, so1, nu1, sg1, mk1, jo1, jx1, rfl, hB1⟩ := hq  -- X12_linkComes[R171, nI ((zof t n)), lN ((og os c).1)]
    refine gT_n 4 ?_
    refine pm_eq ((og os c2).1) ((og os c).1) (fun κ1 => ?_) (fun κ1 => ?_) (rfl) (rfl) ((hom.2.1 c2 hc2).2.2.2) ((hom.2.1 c hc).2.2.2)
    · refine gT_n 1 ?_
      refine ⟨rfl, ?_⟩
      have e := (oSt_inj hos.1 hc2 hc κ1)
      have hsp2 := (pif_pos (by omega)).mp hsp1
      subst hsp2
      exact m_end hB1 (by simp only [List.map_append]; rfl)
    · refine gT_n 4 ?_
      refine ⟨rfl, rfl, gTM.use (m_linkComes (I := I) (J := J) hz oW hT hr hp hR hac (by rw [List.length_append, List.length_map]; show a.length + 1 < 10; omega) hB1 hom hc2 hzz hsg) (Nat.le_refl _) (fun r u hq => ?_)⟩
      obtain ⟨rfl, kd2, zn2, so2, nu2, sg2, mk2, jo2, jx2, rfl, hB2⟩ := hq  -- X12_linkComes[R171, nI ((zof t n)), lN ((og os c2).1)]
      refine gT_n 1 ?_
      refine ⟨rfl, ?_⟩
      have hsp2 := (pif_neg (fun e => κ1 (by rw [show c2 = c by omega]))).mp hsp1
      subst hsp2
      exact m_end hB2 (by simp only [List.map_append]; rfl)
