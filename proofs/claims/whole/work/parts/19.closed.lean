section GCLOSED
variable {l : Launch} {E : gEnv} {d y pc : Nat} {L : gL} {cu : Nat × Nat} {w : gW} {Q : Option Value → gW → Prop} {p : Program} {e : Env} {s : State} {m : MethodId} {args : Array Value} {below : List Frame} {meth : Method} {c : Code} {R : Room} {Z : State → Prop} {H : Heap} {locs : List Loc} {ls : Array Slot}
theorem gldI {a : Nat} {f : Int32 → List Value → Prop} (h : gpI (glk L a).toList f) : ∃ x, glk L a = some (.int x) ∧ f x [] := by
  obtain ⟨x, r, h1, h2⟩ := gpI_inv h
  have := gtl h1
  rw [this] at h1
  cases h1
  exact ⟨x, this, h2⟩
theorem gldJ {a : Nat} {f : Int64 → List Value → Prop} (h : gpJ (glk L a).toList f) : ∃ x, glk L a = some (.long x) ∧ f x [] := by
  obtain ⟨x, r, h1, h2⟩ := gpJ_inv h
  have := gtl h1
  rw [this] at h1
  cases h1
  exact ⟨x, this, h2⟩
theorem gldR {a : Nat} {f : Nat → List Value → Prop} (h : gpR (glk L a).toList f) : ∃ x, glk L a = some (.ref x) ∧ f x [] := by
  obtain ⟨x, r, h1, h2⟩ := gpR_inv h
  have := gtl h1
  rw [this] at h1
  cases h1
  exact ⟨x, this, h2⟩
/-- a switch by the numbers from lo on -/
theorem gAt.table (A : gAt l E d y L cu w Q p e s m args below meth c R Z H locs ls) {x : Int32} {a len : Nat} {r : List Value} {dflt lo hi : Int} {offs : Array Int} {tab : List (Int32 × Nat)} (hdg : decode (g_code y) pc = .ok (.tableswitch dflt lo hi offs, len)) (h1 : (pc : Int) + dflt = (a : Int)) (h2 : hi = lo + (tab.length : Int) - 1) (h3 : (List.range tab.length).all (fun j => decide ((tab.getD j (0, 0)).1.toInt = lo + (j : Int)) && decide (offs[j]?.map (fun z => (pc : Int) + z) = some ((tab.getD j (0, 0)).2 : Int))) = true)
    (h : gsw x a (fun t => gSound l E d y t L r cu w Q) tab) : W p l e R s m args below meth c H locs cu.1 cu.2 Z (F0 m pc ls (.int x :: r.map (gcv E))) := by
  have key : ∀ (j : Nat) (q : Int32 × Nat), tab[j]? = some q → q.1.toInt = lo + (j : Int) ∧ offs[j]?.map (fun z => (pc : Int) + z) = some (q.2 : Int) := by
    intro j q hq
    have hj := (List.getElem?_eq_some_iff.mp hq).1
    have h4 := List.all_eq_true.mp h3 j (List.mem_range.mpr hj)
    have e1 : tab.getD j (0, 0) = q := by rw [List.getD_eq_getElem?_getD, hq]; rfl
    simp only [Bool.and_eq_true, decide_eq_true_eq, e1] at h4
    exact h4
  rcases gsw_inv h with ⟨j, q, hq, hx, hg⟩ | ⟨hne, hg⟩
  · obtain ⟨k1, k2⟩ := key j q hq
    have hj := (List.getElem?_eq_some_iff.mp hq).1
    have e2 : (x.toInt - lo).toNat = j := by rw [hx, k1]; omega
    cases ho : offs[j]? with
    | none => rw [ho] at k2; cases k2
    | some off =>
      rw [ho] at k2
      exact lv_tableIn A.exec A.code hdg (by rw [hx, k1]; omega) (by rw [hx, k1, h2]; omega) (by rw [e2]; exact ho) (Option.some.inj k2) (A.go hg)
  · refine lv_tableOut A.exec A.code hdg ?_ h1 (A.go hg)
    by_cases hlo : x.toInt < lo
    · exact Or.inl hlo
    · by_cases hhi : hi < x.toInt
      · exact Or.inr hhi
      · exfalso
        have hj : (x.toInt - lo).toNat < tab.length := by omega
        have hq : tab[(x.toInt - lo).toNat]? = some tab[(x.toInt - lo).toNat] := List.getElem?_eq_getElem hj
        obtain ⟨k1, -⟩ := key _ _ hq
        refine hne _ _ hq (Int32.toInt_inj.mp ?_)
        rw [k1]
        omega
theorem gAt.lookup (A : gAt l E d y L cu w Q p e s m args below meth c R Z H locs ls) {x : Int32} {a len : Nat} {r : List Value} {dflt : Int} {ps : Array (Int × Int)} {tab : List (Int32 × Nat)} (hdg : decode (g_code y) pc = .ok (.lookupswitch dflt ps, len)) (h1 : (pc : Int) + dflt = (a : Int)) (h2 : tab.map (fun z => (z.1.toInt, (z.2 : Int))) = ps.toList.map (fun z => (z.1, (pc : Int) + z.2))) (h3 : (ps.toList.zip (ps.toList.drop 1)).all (fun (z, next) => z.1 < next.1) = true)
    (h : gsw x a (fun t => gSound l E d y t L r cu w Q) tab) : W p l e R s m args below meth c H locs cu.1 cu.2 Z (F0 m pc ls (.int x :: r.map (gcv E))) := by
  have key : ∀ (qs : List (Int × Int)) (tb : List (Int32 × Nat)), tb.map (fun z => (z.1.toInt, (z.2 : Int))) = qs.map (fun z => (z.1, (pc : Int) + z.2)) → gsw x a (fun t => gSound l E d y t L r cu w Q) tb → ∃ t : Nat, (pc : Int) + Op.lookupswitch.offset qs dflt x.toInt = (t : Int) ∧ gSound l E d y t L r cu w Q := by
    intro qs
    induction qs with
    | nil =>
      intro tb he hg
      cases tb with
      | nil => exact ⟨a, h1, hg⟩
      | cons z t => cases he
    | cons q qs ih =>
      intro tb he hg
      cases tb with
      | nil => cases he
      | cons z t =>
        rw [List.map_cons, List.map_cons] at he
        injection he with he1 he2
        have e1 : z.1.toInt = q.1 := congrArg Prod.fst he1
        have e2 : (z.2 : Int) = (pc : Int) + q.2 := congrArg Prod.snd he1
        by_cases hx : x = z.1
        · refine ⟨z.2, ?_, hg.1 hx⟩
          rw [e2]
          obtain ⟨q1, q2⟩ := q
          have hxq : x.toInt = q1 := by rw [hx]; exact e1
          simp [Op.lookupswitch.offset, hxq]
        · obtain ⟨t', h5, h6⟩ := ih t he2 (hg.2 hx)
          refine ⟨t', ?_, h6⟩
          rw [← h5]
          obtain ⟨q1, q2⟩ := q
          rw [lv_osw hx e1]
  obtain ⟨t, h5, h6⟩ := key ps.toList tab h2 h
  exact lv_lookup A.exec A.code hdg h3 rfl h5 (A.go h6)
end GCLOSED
