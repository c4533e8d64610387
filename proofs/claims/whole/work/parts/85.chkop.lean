/-! a check: the class's call -/
def aft (t : zT) (D : zK) (ck pk : Int32) (l : List zI) (w : Nat) : Nat → Int32 → (Int32 → Prop) → List zE → Nat → Int32 → Nat → (Int32 → Prop) → List zE → Nat → Prop
  | 0, x1, kn1, C, n, x, z, kn', C', n' => pif (x1 = 100) (x = 100 ∧ z = w ∧ kn' = kn1 ∧ C' = C ∧ n' = n) (x = x1 ∧ z = w ∧ C' = C ∧ n' = n)
  | m + 1, x1, kn1, C, n, x, z, kn', C', n' => pif (x1 = 100) (∃ x2 kn2 C2 n2, fKy t D ck pk l (zc t w m) kn1 C x2 kn2 C2 n2 ∧ aft t D ck pk l w m x2 kn2 C2 (n + n2) x z kn' C' n') (x = x1 ∧ z = zc t w (m + 1) ∧ C' = C ∧ n' = n)
theorem c_judgeL {d : Nat} {I : Nat → Nat → Int32} {J : Nat → Nat → Int64} {P : Nat → Nat} {t : zT} {D : zK} {ck pk : Int32} {l : List zI} (hz : zOK t) (hS : kS t D ck pk l I J P) {so nm w : Nat} (h3 : so < 3) (hw : w < t.1) (hso : I 145 4 = nI so) (hz5 : I 145 5 = nI w) (hn : vn nm) (hnm : J 145 3 = lN nm) {Z : Int32 → Nat → (Int32 → Prop) → List zE → Nat → Prop} : ∀ m st, st + m ≤ 3 → (∀ k, k < m → ¬ zc t w k = 0) → ∀ (X : Nat → Nat → Int32) (Y : Nat → Int64) (C : List zE) (x1 : Int32) (kn1 : Int32 → Prop) (n : Nat), X 167 2 = nI (zc t w m) → cH X Y C → eOK t C → (x1 = 100 → kro (X 169) kn1) → genF X l → X 167 3 = nI n → X 167 0 = 1 → X 167 1 = -4 → (∀ x z kn' C' n', aft t D ck pk l w m x1 kn1 C n x z kn' C' n' → Z x z kn' C' n') → gT (d + 5) 94 89 [(2, .int (nI st)), (1, .int x1), (0, .ref 167)] [] (0, 0) (gST (kM I X) (m1 J 28 Y) P) (fun r u => ∃ x x0 v z kn' C' n' X' Y', u = gST (kM I X') (m1 J 28 Y') P ∧ r = some (.int x) ∧ Z x0 z kn' C' n' ∧ pif (x0 = 100) (fSh t l kn' w nm so x v) (x = x0 ∧ v = -4) ∧ cH X' Y' C' ∧ eOK t C' ∧ (X' 167 0 = 1 ∧ X' 167 1 = v ∧ X' 167 2 = nI z ∧ X' 167 3 = nI n')) := by
  have hS0 := hS
  obtain ⟨hT, hD, hck, hpk, hcn, hit, h10, hok⟩ := hS
  have h4 := hz.2.1
  intro m
  induction m with
  | zero =>
    intro st hst hnz X Y C x1 kn1 n hz2 hH hE hk hgn h3c h0 hv hZ
    have hz2 : X 167 2 = nI w := hz2
    by_cases hx : x1 = 100
    · subst hx
      refine gT_n 3 ?_
      refine pk_le 4 st (fun κ1 => ?_) (fun κ1 => ?_) (rfl) (rfl) (by omega) (by omega)
      · refine gT_n 3 ?_
        refine ⟨fun c => absurd (by decide) c, fun _ => ?_⟩
        refine gT_n 2 ?_
        refine ⟨rfl, rfl, gTM.use (c_conclude (nm := nm) (pz := w) hz hS0 (hk rfl) hgn h3 hw hso hz5 hn hnm hv) (Nat.le_refl _) (fun r u hq => ?_)⟩
        obtain ⟨x, v, X2, rfl, rfl, hsh, rfl⟩ := hq  -- X9_conclude[R167]
        refine gT_n 2 ?_
        refine ⟨x, 100, v, w, kn1, C, n, _, Y, rfl, rfl, hZ _ _ _ _ _ ((pif_pos rfl).mpr ⟨rfl, rfl, rfl, rfl, rfl⟩), (pif_pos rfl).mpr hsh, cH_fr hE.1 (fun j hj => gupI_n (by omega)) hH, hE, ?_⟩
        rw [gupI_b]
        exact ⟨h0, rfl, hz2, h3c⟩
      · refine gT_n 3 ?_
        refine ⟨fun c => absurd (by decide) c, fun _ => ?_⟩
        refine gT_n 6 ?_
        refine ⟨rfl, rfl, rfl, pk_eq w w (fun κ2 => ?_) (fun κ2 => ?_) (hz2) (hz5) (by omega) (by omega)⟩
        · refine gT_n 3 ?_
          refine ⟨fun c => absurd (by decide) c, fun _ => ?_⟩
          refine gT_n 2 ?_
          refine ⟨rfl, rfl, gTM.use (c_conclude (nm := nm) (pz := w) hz hS0 (hk rfl) hgn h3 hw hso hz5 hn hnm hv) (Nat.le_refl _) (fun r u hq => ?_)⟩
          obtain ⟨x, v, X2, rfl, rfl, hsh, rfl⟩ := hq  -- X9_conclude[R167]
          refine gT_n 2 ?_
          refine ⟨x, 100, v, w, kn1, C, n, _, Y, rfl, rfl, hZ _ _ _ _ _ ((pif_pos rfl).mpr ⟨rfl, rfl, rfl, rfl, rfl⟩), (pif_pos rfl).mpr hsh, cH_fr hE.1 (fun j hj => gupI_n (by omega)) hH, hE, ?_⟩
          rw [gupI_b]
          exact ⟨h0, rfl, hz2, h3c⟩
        · exact absurd rfl (by assumption)
    · refine gT_n 3 ?_
      refine pk_le 4 st (fun κ1 => ?_) (fun κ1 => ?_) (rfl) (rfl) (by omega) (by omega)
      · refine gT_n 3 ?_
        refine px_ne (X := x1) (Y := (100)) (rfl) (rfl) (fun κ2 => ?_) (fun κ2 => ?_)
        · refine gT_n 2 ?_
          exact ⟨x1, x1, -4, w, fun _ => False, C, n, X, Y, rfl, rfl, hZ _ _ _ _ _ ((pif_neg hx).mpr ⟨rfl, rfl, rfl, rfl⟩), (pif_neg hx).mpr ⟨rfl, rfl⟩, hH, hE, h0, hv, hz2, h3c⟩
        · exact absurd (by assumption) hx
      · refine gT_n 3 ?_
        refine px_ne (X := x1) (Y := (100)) (rfl) (rfl) (fun κ3 => ?_) (fun κ3 => ?_)
        · refine gT_n 3 ?_
          refine px_ne (X := x1) (Y := (100)) (rfl) (rfl) (fun _ => ?_) (fun c => by first | exact absurd κ3 c | exact absurd c κ3 | (exfalso; omega))
          refine gT_n 2 ?_
          exact ⟨x1, x1, -4, w, fun _ => False, C, n, X, Y, rfl, rfl, hZ _ _ _ _ _ ((pif_neg hx).mpr ⟨rfl, rfl, rfl, rfl⟩), (pif_neg hx).mpr ⟨rfl, rfl⟩, hH, hE, h0, hv, hz2, h3c⟩
        · exact absurd (by assumption) hx
  | succ m ih =>
    intro st hst hnz X Y C x1 kn1 n hz2 hH hE hk hgn h3c h0 hv hZ
    have hp := zc_lt hz hw (m + 1)
    have hm := zc_lt hz hw m
    have hne : ¬ w = zc t w (m + 1) := zc_ne hz hw (j := 0) (by omega) hnz
    by_cases hx : x1 = 100
    · subst hx
      refine gT_n 3 ?_
      refine pk_le 4 st (fun κ1 => ?_) (fun κ1 => ?_) (rfl) (rfl) (by omega) (by omega)
      · refine gT_n 3 ?_
        refine ⟨fun c => absurd (by decide) c, fun _ => ?_⟩
        exact absurd hst (by omega)
      · refine gT_n 3 ?_
        refine ⟨fun c => absurd (by decide) c, fun _ => ?_⟩
        refine gT_n 6 ?_
        refine ⟨rfl, rfl, rfl, pk_eq ((zc t w (m + 1))) w (fun κ2 => ?_) (fun κ2 => ?_) (hz2) (hz5) (by omega) (by omega)⟩
        · refine gT_n 3 ?_
          refine ⟨fun c => absurd (by decide) c, fun _ => ?_⟩
          exact absurd (Eq.symm (by assumption)) hne
        · refine gT_n 9 ?_
          refine ⟨rfl, rfl, rfl, rfl, rfl, rfl, gTM.useA (c_stepDown (I := kM I X) (J := m1 J 28 Y) hz hT hw hp rfl (fun j hj e => zc_ne hz hw (by omega : j + 1 < m + 1) (fun k hk => hnz k (by omega)) e) (fun j hj => hnz j (by omega))) (Nat.le_refl _) (aR (aI (hz2) (aI (hz5) (rfl)))) (fun r u hq => ?_)⟩
          obtain ⟨rfl, rfl⟩ := hq  -- X8_stepDown[R12, nI ((zc t w (m + 1))), nI w]
          refine gT_n 1 ?_
          refine ⟨rfl, ?_⟩
          refine gT_kP (b := 167) rfl (X := (nI ((zc t w m)))) (rfl) ?_
          refine gT_n 4 ?_
          refine ⟨rfl, rfl, rfl, gTM.use (c_learn (z := zc t w m) hz hS0 (cH_fr hE.1 (fun j hj => gupI_n (by omega)) hH) hE (kn := kn1) (hk rfl) hgn hm) (Nat.le_refl _) (fun r u hq => ?_)⟩
          obtain ⟨x2, kn2, C2, n2, X2, Y2, rfl, rfl, hky, hH2, hE2, hk2, hg2, hca2, hf2⟩ := hq  -- X9_learn[R167, nI ((zc t w m))]
          refine gT_n 3 ?_
          have e := ih (st + 1) (by omega) (fun k hk => hnz k (by omega)) X2 Y2 C2 x2 kn2 (n + n2) ((hf2 2 (by decide)).trans gupI_rr) hH2 hE2 hk2 (fun j hj => by rw [hg2]; exact hgn j hj) (by rw [hca2, gupI_b, upd_ne (by decide), h3c]; exact pk_addE rfl rfl) ((hf2 0 (by decide)).trans (by rw [gupI_b, upd_ne (by decide)]; exact h0)) ((hf2 1 (by decide)).trans (by rw [gupI_b, upd_ne (by decide)]; exact hv)) (fun x z kn' C' n' h => hZ x z kn' C' n' ((pif_pos rfl).mpr ⟨x2, kn2, C2, n2, hky, h⟩))
          rw [← nI_1 st] at e
          exact gT_k e ⟨rfl, rfl, rfl, trivial⟩ rfl
    · refine gT_n 3 ?_
      refine pk_le 4 st (fun κ1 => ?_) (fun κ1 => ?_) (rfl) (rfl) (by omega) (by omega)
      · refine gT_n 3 ?_
        refine px_ne (X := x1) (Y := (100)) (rfl) (rfl) (fun κ2 => ?_) (fun κ2 => ?_)
        · refine gT_n 2 ?_
          exact ⟨x1, x1, -4, zc t w (m + 1), fun _ => False, C, n, X, Y, rfl, rfl, hZ _ _ _ _ _ ((pif_neg hx).mpr ⟨rfl, rfl, rfl, rfl⟩), (pif_neg hx).mpr ⟨rfl, rfl⟩, hH, hE, h0, hv, hz2, h3c⟩
        · exact absurd (by assumption) hx
      · refine gT_n 3 ?_
        refine px_ne (X := x1) (Y := (100)) (rfl) (rfl) (fun κ3 => ?_) (fun κ3 => ?_)
        · refine gT_n 3 ?_
          refine px_ne (X := x1) (Y := (100)) (rfl) (rfl) (fun _ => ?_) (fun c => by first | exact absurd κ3 c | exact absurd c κ3 | (exfalso; omega))
          refine gT_n 2 ?_
          exact ⟨x1, x1, -4, zc t w (m + 1), fun _ => False, C, n, X, Y, rfl, rfl, hZ _ _ _ _ _ ((pif_neg hx).mpr ⟨rfl, rfl, rfl, rfl⟩), (pif_neg hx).mpr ⟨rfl, rfl⟩, hH, hE, h0, hv, hz2, h3c⟩
        · exact absurd (by assumption) hx
