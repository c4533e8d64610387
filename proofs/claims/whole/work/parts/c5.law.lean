/-! the law's loop -/
def two (yc ym : Nat) (As : List Value) : Prop := ∀ s I J P, sOK s → RC s I J P → RM s I J → ∃ Sp, gTM 14 yc (.ref 0 :: As) (gST I J P) (pC s Sp) ∧ ∀ x s', Sp x s' → ∀ I J P, RC s' I J P → RM s I J → gTM 14 ym (.ref 171 :: As) (gST I J P) (pM x s')
theorem t_feed {a : Int32} : two 115 179 [.int a] := fun s I J P hO hC hM => ⟨_, gTM.use (o_feed_c (d := 0) hO hC hM) (by decide) (fun _ _ h => h), fun x s' hS I J P hC hM => gTM.use (o_feed_m (d := 0) hO hS hC hM) (by decide) (fun _ _ h => h)⟩
theorem t_end {a : Int32} : two 116 180 [.int a] := fun s I J P hO hC hM => ⟨_, gTM.use (o_end_c (d := 0) hO hC hM) (by decide) (fun _ _ h => h), fun x s' hS I J P hC hM => gTM.use (o_end_m (d := 0) hO hS hC hM) (by decide) (fun _ _ h => h)⟩
theorem t_text : two 117 197 [] := fun s I J P hO hC hM => ⟨_, gTM.use (o_text_c (d := 0) hO hC hM) (by decide) (fun _ _ h => h), fun x s' hS I J P hC hM => gTM.use (o_text_m (d := 0) hO hS hC hM) (by decide) (fun _ _ h => h)⟩
theorem t_fault : two 118 198 [] := fun s I J P hO hC hM => ⟨_, gTM.use (o_fault_c (d := 0) hO hC hM) (by decide) (fun _ _ h => h), fun x s' hS I J P hC hM => gTM.use (o_fault_m (d := 0) hO hS hC hM) (by decide) (fun _ _ h => h)⟩
theorem t_label {a b c : Int32} : two 120 200 [.int a, .int b, .int c] := fun s I J P hO hC hM => ⟨_, gTM.use (o_label_c (d := 0) hO hC hM) (by decide) (fun _ _ h => h), fun x s' hS I J P hC hM => gTM.use (o_label_m (d := 0) hO hS hC hM) (by decide) (fun _ _ h => h)⟩
theorem t_up {a : Int32} : two 121 201 [.int a] := fun s I J P hO hC hM => ⟨_, gTM.use (o_up_c (d := 0) hO hC hM) (by decide) (fun _ _ h => h), fun x s' hS I J P hC hM => gTM.use (o_up_m (d := 0) hO hS hC hM) (by decide) (fun _ _ h => h)⟩
theorem t_owner {a b : Int32} : two 122 203 [.int a, .int b] := fun s I J P hO hC hM => ⟨_, gTM.use (o_owner_c (d := 0) hO hC hM) (by decide) (fun _ _ h => h), fun x s' hS I J P hC hM => gTM.use (o_owner_m (d := 0) hO hS hC hM) (by decide) (fun _ _ h => h)⟩
theorem t_name {a : Int32} : two 123 204 [.int a] := fun s I J P hO hC hM => ⟨_, gTM.use (o_name_c (d := 0) hO hC hM) (by decide) (fun _ _ h => h), fun x s' hS I J P hC hM => gTM.use (o_name_m (d := 0) hO hS hC hM) (by decide) (fun _ _ h => h)⟩
theorem t_letter {a b : Int32} : two 124 205 [.int a, .int b] := fun s I J P hO hC hM => ⟨_, gTM.use (o_letter_c (d := 0) hO hC hM) (by decide) (fun _ _ h => h), fun x s' hS I J P hC hM => gTM.use (o_letter_m (d := 0) hO hS hC hM) (by decide) (fun _ _ h => h)⟩
theorem t_zone {a b : Int32} : two 125 207 [.int a, .int b] := fun s I J P hO hC hM => ⟨_, gTM.use (o_zone_c (d := 0) hO hC hM) (by decide) (fun _ _ h => h), fun x s' hS I J P hC hM => gTM.use (o_zone_m (d := 0) hO hS hC hM) (by decide) (fun _ _ h => h)⟩
theorem t_key {a b c : Int32} : two 127 208 [.int a, .int b, .int c] := fun s I J P hO hC hM => ⟨_, gTM.use (o_key_c (d := 0) hO hC hM) (by decide) (fun _ _ h => h), fun x s' hS I J P hC hM => gTM.use (o_key_m (d := 0) hO hS hC hM) (by decide) (fun _ _ h => h)⟩
theorem t_rule {a : Int32} : two 128 210 [.int a] := fun s I J P hO hC hM => ⟨_, gTM.use (o_rule_c (d := 0) hO hC hM) (by decide) (fun _ _ h => h), fun x s' hS I J P hC hM => gTM.use (o_rule_m (d := 0) hO hS hC hM) (by decide) (fun _ _ h => h)⟩
theorem t_answer {a b : Int32} : two 129 215 [.int a, .int b] := fun s I J P hO hC hM => ⟨_, gTM.use (o_answer_c (d := 0) hO hC hM) (by decide) (fun _ _ h => h), fun x s' hS I J P hC hM => gTM.use (o_answer_m (d := 0) hO hS hC hM) (by decide) (fun _ _ h => h)⟩
theorem t_ask {a : Int32} : two 130 230 [.int a] := fun s I J P hO hC hM => ⟨_, gTM.use (o_ask_c (d := 0) hO hC hM) (by decide) (fun _ _ h => h), fun x s' hS I J P hC hM => gTM.use (o_ask_m (d := 0) hO hS hC hM) (by decide) (fun _ _ h => h)⟩
theorem t_item {a b : Int32} : two 131 232 [.int a, .int b] := fun s I J P hO hC hM => ⟨_, gTM.use (o_item_c (d := 0) hO hC hM) (by decide) (fun _ _ h => h), fun x s' hS I J P hC hM => gTM.use (o_item_m (d := 0) hO hS hC hM) (by decide) (fun _ _ h => h)⟩
theorem t_lose {a : Int32} : two 132 234 [.int a] := fun s I J P hO hC hM => ⟨_, gTM.use (o_lose_c (d := 0) hO hC hM) (by decide) (fun _ _ h => h), fun x s' hS I J P hC hM => gTM.use (o_lose_m (d := 0) hO hS hC hM) (by decide) (fun _ _ h => h)⟩
theorem t_alter {a b c : Int32} : two 133 237 [.int a, .int b, .int c] := fun s I J P hO hC hM => ⟨_, gTM.use (o_alter_c (d := 0) hO hC hM) (by decide) (fun _ _ h => h), fun x s' hS I J P hC hM => gTM.use (o_alter_m (d := 0) hO hS hC hM) (by decide) (fun _ _ h => h)⟩
theorem t_rename {a b : Int32} : two 135 238 [.int a, .int b] := fun s I J P hO hC hM => ⟨_, gTM.use (o_rename_c (d := 0) hO hC hM) (by decide) (fun _ _ h => h), fun x s' hS I J P hC hM => gTM.use (o_rename_m (d := 0) hO hS hC hM) (by decide) (fun _ _ h => h)⟩
theorem t_sign {a : Int32} : two 136 239 [.int a] := fun s I J P hO hC hM => ⟨_, gTM.use (o_sign_c (d := 0) hO hC hM) (by decide) (fun _ _ h => h), fun x s' hS I J P hC hM => gTM.use (o_sign_m (d := 0) hO hS hC hM) (by decide) (fun _ _ h => h)⟩
theorem t_check : two 137 257 [] := fun s I J P hO hC hM => ⟨_, gTM.use (o_check_c (d := 0) hO hC hM) (by decide) (fun _ _ h => h), fun x s' hS I J P hC hM => gTM.use (o_check_m (d := 0) hO hS hC hM) (by decide) (fun _ _ h => h)⟩
theorem t_checked {a : Int32} : two 138 258 [.int a] := fun s I J P hO hC hM => ⟨_, gTM.use (o_checked_c (d := 0) hO hC hM) (by decide) (fun _ _ h => h), fun x s' hS I J P hC hM => gTM.use (o_checked_m (d := 0) hO hS hC hM) (by decide) (fun _ _ h => h)⟩
theorem t_entry {a b : Int32} : two 139 259 [.int a, .int b] := fun s I J P hO hC hM => ⟨_, gTM.use (o_entry_c (d := 0) hO hC hM) (by decide) (fun _ _ h => h), fun x s' hS I J P hC hM => gTM.use (o_entry_m (d := 0) hO hS hC hM) (by decide) (fun _ _ h => h)⟩
theorem t_tick {a : Int32} : two 140 260 [.int a] := fun s I J P hO hC hM => ⟨_, gTM.use (o_tick_c (d := 0) hO hC hM) (by decide) (fun _ _ h => h), fun x s' hS I J P hC hM => gTM.use (o_tick_m (d := 0) hO hS hC hM) (by decide) (fun _ _ h => h)⟩
theorem t_publish {a b : Int32} : two 141 264 [.int a, .int b] := fun s I J P hO hC hM => ⟨_, gTM.use (o_publish_c (d := 0) hO hC hM) (by decide) (fun _ _ h => h), fun x s' hS I J P hC hM => gTM.use (o_publish_m (d := 0) hO hS hC hM) (by decide) (fun _ _ h => h)⟩
theorem t_retire {a b : Int32} : two 142 265 [.int a, .int b] := fun s I J P hO hC hM => ⟨_, gTM.use (o_retire_c (d := 0) hO hC hM) (by decide) (fun _ _ h => h), fun x s' hS I J P hC hM => gTM.use (o_retire_m (d := 0) hO hS hC hM) (by decide) (fun _ _ h => h)⟩
theorem t_digest {a b : Int32} : two 143 266 [.int a, .int b] := fun s I J P hO hC hM => ⟨_, gTM.use (o_digest_c (d := 0) hO hC hM) (by decide) (fun _ _ h => h), fun x s' hS I J P hC hM => gTM.use (o_digest_m (d := 0) hO hS hC hM) (by decide) (fun _ _ h => h)⟩
theorem t_undigest {a b : Int32} : two 144 267 [.int a, .int b] := fun s I J P hO hC hM => ⟨_, gTM.use (o_undigest_c (d := 0) hO hC hM) (by decide) (fun _ _ h => h), fun x s' hS I J P hC hM => gTM.use (o_undigest_m (d := 0) hO hS hC hM) (by decide) (fun _ _ h => h)⟩
theorem t_why {a b : Int32} : two 145 269 [.int a, .int b] := fun s I J P hO hC hM => ⟨_, gTM.use (o_why_c (d := 0) hO hC hM) (by decide) (fun _ _ h => h), fun x s' hS I J P hC hM => gTM.use (o_why_m (d := 0) hO hS hC hM) (by decide) (fun _ _ h => h)⟩
theorem t_activate {a b : Int32} : two 146 270 [.int a, .int b] := fun s I J P hO hC hM => ⟨_, gTM.use (o_activate_c (d := 0) hO hC hM) (by decide) (fun _ _ h => h), fun x s' hS I J P hC hM => gTM.use (o_activate_m (d := 0) hO hS hC hM) (by decide) (fun _ _ h => h)⟩
theorem t_put {a b : Int32} : two 148 271 [.int a, .int b] := fun s I J P hO hC hM => ⟨_, gTM.use (o_put_c (d := 0) hO hC hM) (by decide) (fun _ _ h => h), fun x s' hS I J P hC hM => gTM.use (o_put_m (d := 0) hO hS hC hM) (by decide) (fun _ _ h => h)⟩
theorem t_remove {a : Int32} : two 149 272 [.int a] := fun s I J P hO hC hM => ⟨_, gTM.use (o_remove_c (d := 0) hO hC hM) (by decide) (fun _ _ h => h), fun x s' hS I J P hC hM => gTM.use (o_remove_m (d := 0) hO hS hC hM) (by decide) (fun _ _ h => h)⟩
theorem t_keep {a : Int32} : two 150 275 [.int a] := fun s I J P hO hC hM => ⟨_, gTM.use (o_keep_c (d := 0) hO hC hM) (by decide) (fun _ _ h => h), fun x s' hS I J P hC hM => gTM.use (o_keep_m (d := 0) hO hS hC hM) (by decide) (fun _ _ h => h)⟩
theorem t_back {a : Int32} : two 151 276 [.int a] := fun s I J P hO hC hM => ⟨_, gTM.use (o_back_c (d := 0) hO hC hM) (by decide) (fun _ _ h => h), fun x s' hS I J P hC hM => gTM.use (o_back_m (d := 0) hO hS hC hM) (by decide) (fun _ _ h => h)⟩
theorem gTM_as {d y : Nat} {As As' : List Value} {w : gW} {Q : Option Value → gW → Prop} (e : As = As') (h : gTM d y As' w Q) : gTM d y As w Q := by
  subst e; exact h
theorem nI_2 (k : Nat) : nI k + 2 = nI (k + 2) := by
  rw [← nI_1 (k + 1), ← nI_1 k, Int32.add_assoc]; rfl
theorem nI_3 (k : Nat) : nI k + 3 = nI (k + 3) := by
  rw [← nI_1 (k + 2), ← nI_2 k, Int32.add_assoc]; rfl
theorem nI_4 (k : Nat) : nI k + 4 = nI (k + 4) := by
  rw [← nI_1 (k + 3), ← nI_3 k, Int32.add_assoc]; rfl
def lwI (n : Nat) (w : gW) : Prop := hI w ∧ w.2.1 2000001 0 = nI n
theorem hI_ST {I : Nat → Nat → Int32} {J : Nat → Nat → Int64} {P : Nat → Nat} : hI (gST I J P) := by
  show SH.length ≤ 1000000
  rw [show SH.length = 213 from rfl]; decide
theorem lw_ln {x : Int32} {n : Nat} (hn : n ≤ 2048) (h : x = nI n) : x.toNatClampNeg = n := by
  rw [h]; exact nI_clamp (by omega)
theorem w_feed {n k : Nat} {s : zS} {I : Nat → Nat → Int32} {J : Nat → Nat → Int64} {P : Nat → Nat} (hn2 : n ≤ 2048) (hkn : k + 4 ≤ n) (hl : I 2000001 0 = nI n) (hO : sOK s) (hC : RC s I J P) (hM : RM s I J) (hK : ∀ s' I' J' P', sOK s' → RC s' I' J' P' → RM s' I' J' → I' 2000001 0 = nI n → gT 15 0 1109 [(3, .int (nI k)), (2, .ref 171), (1, .ref 0), (0, .ref 2000000)] [] (213, 2135) (gST I' J' P') (fun r _ => r = some (.int 1))) : gT 15 0 180 [(3, .int (nI k)), (2, .ref 171), (1, .ref 0), (0, .ref 2000000)] [] (213, 2135) (gST I J P) (fun r _ => r = some (.int 1)) := by
  obtain ⟨Sp, h1, h2⟩ := t_feed (a := I 2000000 (nI k + 1).toNatClampNeg) s I J P hO hC hM
  refine gT_n 7 ?_
  refine ⟨rfl, (pk_inS (m := n) (k := k + 1) (hm := by omega) (lw_ln hn2 hl) (by omega) (nI_1 k)), rfl, rfl, gTM.use (gTM_fr h1 hI_ST) (Nat.le_refl _) (fun r u hq => ?_)⟩
  obtain ⟨⟨x, s1, I1, J1, P1, rfl, rfl, ⟨hS, hO1⟩, hC1, hM1⟩, hf⟩ := hq
  have hx : I1 2000000 = I 2000000 := hf.2.1
  have hl1 : I1 2000001 0 = nI n := (congrFun (show I1 2000001 = I 2000001 from hf.2.2) 0).trans hl
  refine gT_n 7 ?_
  refine ⟨rfl, (pk_inS (m := n) (k := k + 1) (hm := by omega) (lw_ln hn2 hl1) (by omega) (nI_1 k)), rfl, rfl, gTM.use (gTM_fr (gTM_as (As' := .ref 171 :: [.int (I 2000000 (nI k + 1).toNatClampNeg)]) (by show ([.ref 171, .int (I1 2000000 (nI k + 1).toNatClampNeg)] : List Value) = [.ref 171, .int (I 2000000 (nI k + 1).toNatClampNeg)]; first | rfl | rw [hx]) (h2 x s1 hS I1 J1 P1 hC1 hM1)) hI_ST) (Nat.le_refl _) (fun r u hq => ?_)⟩
  obtain ⟨⟨I2, J2, P2, rfl, rfl, hC2, hM2⟩, hg⟩ := hq
  have hl2 : I2 2000001 0 = nI n := (congrFun (show I2 2000001 = I1 2000001 from hg.2.2) 0).trans hl1
  refine gT_n 1 ?_
  refine ⟨fun _ => hK s1 I2 J2 P2 hO1 hC2 hM2 hl2, fun c => absurd rfl c⟩
theorem w_end {n k : Nat} {s : zS} {I : Nat → Nat → Int32} {J : Nat → Nat → Int64} {P : Nat → Nat} (hn2 : n ≤ 2048) (hkn : k + 4 ≤ n) (hl : I 2000001 0 = nI n) (hO : sOK s) (hC : RC s I J P) (hM : RM s I J) (hK : ∀ s' I' J' P', sOK s' → RC s' I' J' P' → RM s' I' J' → I' 2000001 0 = nI n → gT 15 0 1109 [(3, .int (nI k)), (2, .ref 171), (1, .ref 0), (0, .ref 2000000)] [] (213, 2135) (gST I' J' P') (fun r _ => r = some (.int 1))) : gT 15 0 203 [(3, .int (nI k)), (2, .ref 171), (1, .ref 0), (0, .ref 2000000)] [] (213, 2135) (gST I J P) (fun r _ => r = some (.int 1)) := by
  obtain ⟨Sp, h1, h2⟩ := t_end (a := I 2000000 (nI k + 1).toNatClampNeg) s I J P hO hC hM
  refine gT_n 7 ?_
  refine ⟨rfl, (pk_inS (m := n) (k := k + 1) (hm := by omega) (lw_ln hn2 hl) (by omega) (nI_1 k)), rfl, rfl, gTM.use (gTM_fr h1 hI_ST) (Nat.le_refl _) (fun r u hq => ?_)⟩
  obtain ⟨⟨x, s1, I1, J1, P1, rfl, rfl, ⟨hS, hO1⟩, hC1, hM1⟩, hf⟩ := hq
  have hx : I1 2000000 = I 2000000 := hf.2.1
  have hl1 : I1 2000001 0 = nI n := (congrFun (show I1 2000001 = I 2000001 from hf.2.2) 0).trans hl
  refine gT_n 7 ?_
  refine ⟨rfl, (pk_inS (m := n) (k := k + 1) (hm := by omega) (lw_ln hn2 hl1) (by omega) (nI_1 k)), rfl, rfl, gTM.use (gTM_fr (gTM_as (As' := .ref 171 :: [.int (I 2000000 (nI k + 1).toNatClampNeg)]) (by show ([.ref 171, .int (I1 2000000 (nI k + 1).toNatClampNeg)] : List Value) = [.ref 171, .int (I 2000000 (nI k + 1).toNatClampNeg)]; first | rfl | rw [hx]) (h2 x s1 hS I1 J1 P1 hC1 hM1)) hI_ST) (Nat.le_refl _) (fun r u hq => ?_)⟩
  obtain ⟨⟨I2, J2, P2, rfl, rfl, hC2, hM2⟩, hg⟩ := hq
  have hl2 : I2 2000001 0 = nI n := (congrFun (show I2 2000001 = I1 2000001 from hg.2.2) 0).trans hl1
  refine gT_n 1 ?_
  refine ⟨fun _ => hK s1 I2 J2 P2 hO1 hC2 hM2 hl2, fun c => absurd rfl c⟩
theorem w_text {n k : Nat} {s : zS} {I : Nat → Nat → Int32} {J : Nat → Nat → Int64} {P : Nat → Nat} (hn2 : n ≤ 2048) (hkn : k + 4 ≤ n) (hl : I 2000001 0 = nI n) (hO : sOK s) (hC : RC s I J P) (hM : RM s I J) (hK : ∀ s' I' J' P', sOK s' → RC s' I' J' P' → RM s' I' J' → I' 2000001 0 = nI n → gT 15 0 1109 [(3, .int (nI k)), (2, .ref 171), (1, .ref 0), (0, .ref 2000000)] [] (213, 2135) (gST I' J' P') (fun r _ => r = some (.int 1))) : gT 15 0 226 [(3, .int (nI k)), (2, .ref 171), (1, .ref 0), (0, .ref 2000000)] [] (213, 2135) (gST I J P) (fun r _ => r = some (.int 1)) := by
  obtain ⟨Sp, h1, h2⟩ := t_text s I J P hO hC hM
  refine gT_n 2 ?_
  refine ⟨rfl, rfl, gTM.use (gTM_fr h1 hI_ST) (Nat.le_refl _) (fun r u hq => ?_)⟩
  obtain ⟨⟨x, s1, I1, J1, P1, rfl, rfl, ⟨hS, hO1⟩, hC1, hM1⟩, hf⟩ := hq
  have hx : I1 2000000 = I 2000000 := hf.2.1
  have hl1 : I1 2000001 0 = nI n := (congrFun (show I1 2000001 = I 2000001 from hf.2.2) 0).trans hl
  refine gT_n 2 ?_
  refine ⟨rfl, rfl, gTM.use (gTM_fr (gTM_as (As' := .ref 171 :: []) (by show ([.ref 171] : List Value) = [.ref 171]; first | rfl | rw [hx]) (h2 x s1 hS I1 J1 P1 hC1 hM1)) hI_ST) (Nat.le_refl _) (fun r u hq => ?_)⟩
  obtain ⟨⟨I2, J2, P2, rfl, rfl, hC2, hM2⟩, hg⟩ := hq
  have hl2 : I2 2000001 0 = nI n := (congrFun (show I2 2000001 = I1 2000001 from hg.2.2) 0).trans hl1
  refine gT_n 1 ?_
  refine ⟨fun _ => hK s1 I2 J2 P2 hO1 hC2 hM2 hl2, fun c => absurd rfl c⟩
theorem w_fault {n k : Nat} {s : zS} {I : Nat → Nat → Int32} {J : Nat → Nat → Int64} {P : Nat → Nat} (hn2 : n ≤ 2048) (hkn : k + 4 ≤ n) (hl : I 2000001 0 = nI n) (hO : sOK s) (hC : RC s I J P) (hM : RM s I J) (hK : ∀ s' I' J' P', sOK s' → RC s' I' J' P' → RM s' I' J' → I' 2000001 0 = nI n → gT 15 0 1109 [(3, .int (nI k)), (2, .ref 171), (1, .ref 0), (0, .ref 2000000)] [] (213, 2135) (gST I' J' P') (fun r _ => r = some (.int 1))) : gT 15 0 239 [(3, .int (nI k)), (2, .ref 171), (1, .ref 0), (0, .ref 2000000)] [] (213, 2135) (gST I J P) (fun r _ => r = some (.int 1)) := by
  obtain ⟨Sp, h1, h2⟩ := t_fault s I J P hO hC hM
  refine gT_n 2 ?_
  refine ⟨rfl, rfl, gTM.use (gTM_fr h1 hI_ST) (Nat.le_refl _) (fun r u hq => ?_)⟩
  obtain ⟨⟨x, s1, I1, J1, P1, rfl, rfl, ⟨hS, hO1⟩, hC1, hM1⟩, hf⟩ := hq
  have hx : I1 2000000 = I 2000000 := hf.2.1
  have hl1 : I1 2000001 0 = nI n := (congrFun (show I1 2000001 = I 2000001 from hf.2.2) 0).trans hl
  refine gT_n 2 ?_
  refine ⟨rfl, rfl, gTM.use (gTM_fr (gTM_as (As' := .ref 171 :: []) (by show ([.ref 171] : List Value) = [.ref 171]; first | rfl | rw [hx]) (h2 x s1 hS I1 J1 P1 hC1 hM1)) hI_ST) (Nat.le_refl _) (fun r u hq => ?_)⟩
  obtain ⟨⟨I2, J2, P2, rfl, rfl, hC2, hM2⟩, hg⟩ := hq
  have hl2 : I2 2000001 0 = nI n := (congrFun (show I2 2000001 = I1 2000001 from hg.2.2) 0).trans hl1
  refine gT_n 1 ?_
  refine ⟨fun _ => hK s1 I2 J2 P2 hO1 hC2 hM2 hl2, fun c => absurd rfl c⟩
theorem w_label {n k : Nat} {s : zS} {I : Nat → Nat → Int32} {J : Nat → Nat → Int64} {P : Nat → Nat} (hn2 : n ≤ 2048) (hkn : k + 4 ≤ n) (hl : I 2000001 0 = nI n) (hO : sOK s) (hC : RC s I J P) (hM : RM s I J) (hK : ∀ s' I' J' P', sOK s' → RC s' I' J' P' → RM s' I' J' → I' 2000001 0 = nI n → gT 15 0 1109 [(3, .int (nI k)), (2, .ref 171), (1, .ref 0), (0, .ref 2000000)] [] (213, 2135) (gST I' J' P') (fun r _ => r = some (.int 1))) : gT 15 0 252 [(3, .int (nI k)), (2, .ref 171), (1, .ref 0), (0, .ref 2000000)] [] (213, 2135) (gST I J P) (fun r _ => r = some (.int 1)) := by
  obtain ⟨Sp, h1, h2⟩ := t_label (a := I 2000000 (nI k + 1).toNatClampNeg) (b := I 2000000 (nI k + 2).toNatClampNeg) (c := I 2000000 (nI k + 3).toNatClampNeg) s I J P hO hC hM
  refine gT_n 17 ?_
  refine ⟨rfl, (pk_inS (m := n) (k := k + 1) (hm := by omega) (lw_ln hn2 hl) (by omega) (nI_1 k)), rfl, (pk_inS (m := n) (k := k + 2) (hm := by omega) (lw_ln hn2 hl) (by omega) (nI_2 k)), rfl, (pk_inS (m := n) (k := k + 3) (hm := by omega) (lw_ln hn2 hl) (by omega) (nI_3 k)), rfl, rfl, gTM.use (gTM_fr h1 hI_ST) (Nat.le_refl _) (fun r u hq => ?_)⟩
  obtain ⟨⟨x, s1, I1, J1, P1, rfl, rfl, ⟨hS, hO1⟩, hC1, hM1⟩, hf⟩ := hq
  have hx : I1 2000000 = I 2000000 := hf.2.1
  have hl1 : I1 2000001 0 = nI n := (congrFun (show I1 2000001 = I 2000001 from hf.2.2) 0).trans hl
  refine gT_n 17 ?_
  refine ⟨rfl, (pk_inS (m := n) (k := k + 1) (hm := by omega) (lw_ln hn2 hl1) (by omega) (nI_1 k)), rfl, (pk_inS (m := n) (k := k + 2) (hm := by omega) (lw_ln hn2 hl1) (by omega) (nI_2 k)), rfl, (pk_inS (m := n) (k := k + 3) (hm := by omega) (lw_ln hn2 hl1) (by omega) (nI_3 k)), rfl, rfl, gTM.use (gTM_fr (gTM_as (As' := .ref 171 :: [.int (I 2000000 (nI k + 1).toNatClampNeg), .int (I 2000000 (nI k + 2).toNatClampNeg), .int (I 2000000 (nI k + 3).toNatClampNeg)]) (by show ([.ref 171, .int (I1 2000000 (nI k + 1).toNatClampNeg), .int (I1 2000000 (nI k + 2).toNatClampNeg), .int (I1 2000000 (nI k + 3).toNatClampNeg)] : List Value) = [.ref 171, .int (I 2000000 (nI k + 1).toNatClampNeg), .int (I 2000000 (nI k + 2).toNatClampNeg), .int (I 2000000 (nI k + 3).toNatClampNeg)]; first | rfl | rw [hx]) (h2 x s1 hS I1 J1 P1 hC1 hM1)) hI_ST) (Nat.le_refl _) (fun r u hq => ?_)⟩
  obtain ⟨⟨I2, J2, P2, rfl, rfl, hC2, hM2⟩, hg⟩ := hq
  have hl2 : I2 2000001 0 = nI n := (congrFun (show I2 2000001 = I1 2000001 from hg.2.2) 0).trans hl1
  refine gT_n 1 ?_
  refine ⟨fun _ => hK s1 I2 J2 P2 hO1 hC2 hM2 hl2, fun c => absurd rfl c⟩
theorem w_up {n k : Nat} {s : zS} {I : Nat → Nat → Int32} {J : Nat → Nat → Int64} {P : Nat → Nat} (hn2 : n ≤ 2048) (hkn : k + 4 ≤ n) (hl : I 2000001 0 = nI n) (hO : sOK s) (hC : RC s I J P) (hM : RM s I J) (hK : ∀ s' I' J' P', sOK s' → RC s' I' J' P' → RM s' I' J' → I' 2000001 0 = nI n → gT 15 0 1109 [(3, .int (nI k)), (2, .ref 171), (1, .ref 0), (0, .ref 2000000)] [] (213, 2135) (gST I' J' P') (fun r _ => r = some (.int 1))) : gT 15 0 295 [(3, .int (nI k)), (2, .ref 171), (1, .ref 0), (0, .ref 2000000)] [] (213, 2135) (gST I J P) (fun r _ => r = some (.int 1)) := by
  obtain ⟨Sp, h1, h2⟩ := t_up (a := I 2000000 (nI k + 1).toNatClampNeg) s I J P hO hC hM
  refine gT_n 7 ?_
  refine ⟨rfl, (pk_inS (m := n) (k := k + 1) (hm := by omega) (lw_ln hn2 hl) (by omega) (nI_1 k)), rfl, rfl, gTM.use (gTM_fr h1 hI_ST) (Nat.le_refl _) (fun r u hq => ?_)⟩
  obtain ⟨⟨x, s1, I1, J1, P1, rfl, rfl, ⟨hS, hO1⟩, hC1, hM1⟩, hf⟩ := hq
  have hx : I1 2000000 = I 2000000 := hf.2.1
  have hl1 : I1 2000001 0 = nI n := (congrFun (show I1 2000001 = I 2000001 from hf.2.2) 0).trans hl
  refine gT_n 7 ?_
  refine ⟨rfl, (pk_inS (m := n) (k := k + 1) (hm := by omega) (lw_ln hn2 hl1) (by omega) (nI_1 k)), rfl, rfl, gTM.use (gTM_fr (gTM_as (As' := .ref 171 :: [.int (I 2000000 (nI k + 1).toNatClampNeg)]) (by show ([.ref 171, .int (I1 2000000 (nI k + 1).toNatClampNeg)] : List Value) = [.ref 171, .int (I 2000000 (nI k + 1).toNatClampNeg)]; first | rfl | rw [hx]) (h2 x s1 hS I1 J1 P1 hC1 hM1)) hI_ST) (Nat.le_refl _) (fun r u hq => ?_)⟩
  obtain ⟨⟨I2, J2, P2, rfl, rfl, hC2, hM2⟩, hg⟩ := hq
  have hl2 : I2 2000001 0 = nI n := (congrFun (show I2 2000001 = I1 2000001 from hg.2.2) 0).trans hl1
  refine gT_n 1 ?_
  refine ⟨fun _ => hK s1 I2 J2 P2 hO1 hC2 hM2 hl2, fun c => absurd rfl c⟩
theorem w_owner {n k : Nat} {s : zS} {I : Nat → Nat → Int32} {J : Nat → Nat → Int64} {P : Nat → Nat} (hn2 : n ≤ 2048) (hkn : k + 4 ≤ n) (hl : I 2000001 0 = nI n) (hO : sOK s) (hC : RC s I J P) (hM : RM s I J) (hK : ∀ s' I' J' P', sOK s' → RC s' I' J' P' → RM s' I' J' → I' 2000001 0 = nI n → gT 15 0 1109 [(3, .int (nI k)), (2, .ref 171), (1, .ref 0), (0, .ref 2000000)] [] (213, 2135) (gST I' J' P') (fun r _ => r = some (.int 1))) : gT 15 0 318 [(3, .int (nI k)), (2, .ref 171), (1, .ref 0), (0, .ref 2000000)] [] (213, 2135) (gST I J P) (fun r _ => r = some (.int 1)) := by
  obtain ⟨Sp, h1, h2⟩ := t_owner (a := I 2000000 (nI k + 1).toNatClampNeg) (b := I 2000000 (nI k + 2).toNatClampNeg) s I J P hO hC hM
  refine gT_n 12 ?_
  refine ⟨rfl, (pk_inS (m := n) (k := k + 1) (hm := by omega) (lw_ln hn2 hl) (by omega) (nI_1 k)), rfl, (pk_inS (m := n) (k := k + 2) (hm := by omega) (lw_ln hn2 hl) (by omega) (nI_2 k)), rfl, rfl, gTM.use (gTM_fr h1 hI_ST) (Nat.le_refl _) (fun r u hq => ?_)⟩
  obtain ⟨⟨x, s1, I1, J1, P1, rfl, rfl, ⟨hS, hO1⟩, hC1, hM1⟩, hf⟩ := hq
  have hx : I1 2000000 = I 2000000 := hf.2.1
  have hl1 : I1 2000001 0 = nI n := (congrFun (show I1 2000001 = I 2000001 from hf.2.2) 0).trans hl
  refine gT_n 12 ?_
  refine ⟨rfl, (pk_inS (m := n) (k := k + 1) (hm := by omega) (lw_ln hn2 hl1) (by omega) (nI_1 k)), rfl, (pk_inS (m := n) (k := k + 2) (hm := by omega) (lw_ln hn2 hl1) (by omega) (nI_2 k)), rfl, rfl, gTM.use (gTM_fr (gTM_as (As' := .ref 171 :: [.int (I 2000000 (nI k + 1).toNatClampNeg), .int (I 2000000 (nI k + 2).toNatClampNeg)]) (by show ([.ref 171, .int (I1 2000000 (nI k + 1).toNatClampNeg), .int (I1 2000000 (nI k + 2).toNatClampNeg)] : List Value) = [.ref 171, .int (I 2000000 (nI k + 1).toNatClampNeg), .int (I 2000000 (nI k + 2).toNatClampNeg)]; first | rfl | rw [hx]) (h2 x s1 hS I1 J1 P1 hC1 hM1)) hI_ST) (Nat.le_refl _) (fun r u hq => ?_)⟩
  obtain ⟨⟨I2, J2, P2, rfl, rfl, hC2, hM2⟩, hg⟩ := hq
  have hl2 : I2 2000001 0 = nI n := (congrFun (show I2 2000001 = I1 2000001 from hg.2.2) 0).trans hl1
  refine gT_n 1 ?_
  refine ⟨fun _ => hK s1 I2 J2 P2 hO1 hC2 hM2 hl2, fun c => absurd rfl c⟩
theorem w_name {n k : Nat} {s : zS} {I : Nat → Nat → Int32} {J : Nat → Nat → Int64} {P : Nat → Nat} (hn2 : n ≤ 2048) (hkn : k + 4 ≤ n) (hl : I 2000001 0 = nI n) (hO : sOK s) (hC : RC s I J P) (hM : RM s I J) (hK : ∀ s' I' J' P', sOK s' → RC s' I' J' P' → RM s' I' J' → I' 2000001 0 = nI n → gT 15 0 1109 [(3, .int (nI k)), (2, .ref 171), (1, .ref 0), (0, .ref 2000000)] [] (213, 2135) (gST I' J' P') (fun r _ => r = some (.int 1))) : gT 15 0 351 [(3, .int (nI k)), (2, .ref 171), (1, .ref 0), (0, .ref 2000000)] [] (213, 2135) (gST I J P) (fun r _ => r = some (.int 1)) := by
  obtain ⟨Sp, h1, h2⟩ := t_name (a := I 2000000 (nI k + 1).toNatClampNeg) s I J P hO hC hM
  refine gT_n 7 ?_
  refine ⟨rfl, (pk_inS (m := n) (k := k + 1) (hm := by omega) (lw_ln hn2 hl) (by omega) (nI_1 k)), rfl, rfl, gTM.use (gTM_fr h1 hI_ST) (Nat.le_refl _) (fun r u hq => ?_)⟩
  obtain ⟨⟨x, s1, I1, J1, P1, rfl, rfl, ⟨hS, hO1⟩, hC1, hM1⟩, hf⟩ := hq
  have hx : I1 2000000 = I 2000000 := hf.2.1
  have hl1 : I1 2000001 0 = nI n := (congrFun (show I1 2000001 = I 2000001 from hf.2.2) 0).trans hl
  refine gT_n 7 ?_
  refine ⟨rfl, (pk_inS (m := n) (k := k + 1) (hm := by omega) (lw_ln hn2 hl1) (by omega) (nI_1 k)), rfl, rfl, gTM.use (gTM_fr (gTM_as (As' := .ref 171 :: [.int (I 2000000 (nI k + 1).toNatClampNeg)]) (by show ([.ref 171, .int (I1 2000000 (nI k + 1).toNatClampNeg)] : List Value) = [.ref 171, .int (I 2000000 (nI k + 1).toNatClampNeg)]; first | rfl | rw [hx]) (h2 x s1 hS I1 J1 P1 hC1 hM1)) hI_ST) (Nat.le_refl _) (fun r u hq => ?_)⟩
  obtain ⟨⟨I2, J2, P2, rfl, rfl, hC2, hM2⟩, hg⟩ := hq
  have hl2 : I2 2000001 0 = nI n := (congrFun (show I2 2000001 = I1 2000001 from hg.2.2) 0).trans hl1
  refine gT_n 1 ?_
  refine ⟨fun _ => hK s1 I2 J2 P2 hO1 hC2 hM2 hl2, fun c => absurd rfl c⟩
theorem w_letter {n k : Nat} {s : zS} {I : Nat → Nat → Int32} {J : Nat → Nat → Int64} {P : Nat → Nat} (hn2 : n ≤ 2048) (hkn : k + 4 ≤ n) (hl : I 2000001 0 = nI n) (hO : sOK s) (hC : RC s I J P) (hM : RM s I J) (hK : ∀ s' I' J' P', sOK s' → RC s' I' J' P' → RM s' I' J' → I' 2000001 0 = nI n → gT 15 0 1109 [(3, .int (nI k)), (2, .ref 171), (1, .ref 0), (0, .ref 2000000)] [] (213, 2135) (gST I' J' P') (fun r _ => r = some (.int 1))) : gT 15 0 374 [(3, .int (nI k)), (2, .ref 171), (1, .ref 0), (0, .ref 2000000)] [] (213, 2135) (gST I J P) (fun r _ => r = some (.int 1)) := by
  obtain ⟨Sp, h1, h2⟩ := t_letter (a := I 2000000 (nI k + 1).toNatClampNeg) (b := I 2000000 (nI k + 2).toNatClampNeg) s I J P hO hC hM
  refine gT_n 12 ?_
  refine ⟨rfl, (pk_inS (m := n) (k := k + 1) (hm := by omega) (lw_ln hn2 hl) (by omega) (nI_1 k)), rfl, (pk_inS (m := n) (k := k + 2) (hm := by omega) (lw_ln hn2 hl) (by omega) (nI_2 k)), rfl, rfl, gTM.use (gTM_fr h1 hI_ST) (Nat.le_refl _) (fun r u hq => ?_)⟩
  obtain ⟨⟨x, s1, I1, J1, P1, rfl, rfl, ⟨hS, hO1⟩, hC1, hM1⟩, hf⟩ := hq
  have hx : I1 2000000 = I 2000000 := hf.2.1
  have hl1 : I1 2000001 0 = nI n := (congrFun (show I1 2000001 = I 2000001 from hf.2.2) 0).trans hl
  refine gT_n 12 ?_
  refine ⟨rfl, (pk_inS (m := n) (k := k + 1) (hm := by omega) (lw_ln hn2 hl1) (by omega) (nI_1 k)), rfl, (pk_inS (m := n) (k := k + 2) (hm := by omega) (lw_ln hn2 hl1) (by omega) (nI_2 k)), rfl, rfl, gTM.use (gTM_fr (gTM_as (As' := .ref 171 :: [.int (I 2000000 (nI k + 1).toNatClampNeg), .int (I 2000000 (nI k + 2).toNatClampNeg)]) (by show ([.ref 171, .int (I1 2000000 (nI k + 1).toNatClampNeg), .int (I1 2000000 (nI k + 2).toNatClampNeg)] : List Value) = [.ref 171, .int (I 2000000 (nI k + 1).toNatClampNeg), .int (I 2000000 (nI k + 2).toNatClampNeg)]; first | rfl | rw [hx]) (h2 x s1 hS I1 J1 P1 hC1 hM1)) hI_ST) (Nat.le_refl _) (fun r u hq => ?_)⟩
  obtain ⟨⟨I2, J2, P2, rfl, rfl, hC2, hM2⟩, hg⟩ := hq
  have hl2 : I2 2000001 0 = nI n := (congrFun (show I2 2000001 = I1 2000001 from hg.2.2) 0).trans hl1
  refine gT_n 1 ?_
  refine ⟨fun _ => hK s1 I2 J2 P2 hO1 hC2 hM2 hl2, fun c => absurd rfl c⟩
theorem w_zone {n k : Nat} {s : zS} {I : Nat → Nat → Int32} {J : Nat → Nat → Int64} {P : Nat → Nat} (hn2 : n ≤ 2048) (hkn : k + 4 ≤ n) (hl : I 2000001 0 = nI n) (hO : sOK s) (hC : RC s I J P) (hM : RM s I J) (hK : ∀ s' I' J' P', sOK s' → RC s' I' J' P' → RM s' I' J' → I' 2000001 0 = nI n → gT 15 0 1109 [(3, .int (nI k)), (2, .ref 171), (1, .ref 0), (0, .ref 2000000)] [] (213, 2135) (gST I' J' P') (fun r _ => r = some (.int 1))) : gT 15 0 407 [(3, .int (nI k)), (2, .ref 171), (1, .ref 0), (0, .ref 2000000)] [] (213, 2135) (gST I J P) (fun r _ => r = some (.int 1)) := by
  obtain ⟨Sp, h1, h2⟩ := t_zone (a := I 2000000 (nI k + 1).toNatClampNeg) (b := I 2000000 (nI k + 2).toNatClampNeg) s I J P hO hC hM
  refine gT_n 12 ?_
  refine ⟨rfl, (pk_inS (m := n) (k := k + 1) (hm := by omega) (lw_ln hn2 hl) (by omega) (nI_1 k)), rfl, (pk_inS (m := n) (k := k + 2) (hm := by omega) (lw_ln hn2 hl) (by omega) (nI_2 k)), rfl, rfl, gTM.use (gTM_fr h1 hI_ST) (Nat.le_refl _) (fun r u hq => ?_)⟩
  obtain ⟨⟨x, s1, I1, J1, P1, rfl, rfl, ⟨hS, hO1⟩, hC1, hM1⟩, hf⟩ := hq
  have hx : I1 2000000 = I 2000000 := hf.2.1
  have hl1 : I1 2000001 0 = nI n := (congrFun (show I1 2000001 = I 2000001 from hf.2.2) 0).trans hl
  refine gT_n 12 ?_
  refine ⟨rfl, (pk_inS (m := n) (k := k + 1) (hm := by omega) (lw_ln hn2 hl1) (by omega) (nI_1 k)), rfl, (pk_inS (m := n) (k := k + 2) (hm := by omega) (lw_ln hn2 hl1) (by omega) (nI_2 k)), rfl, rfl, gTM.use (gTM_fr (gTM_as (As' := .ref 171 :: [.int (I 2000000 (nI k + 1).toNatClampNeg), .int (I 2000000 (nI k + 2).toNatClampNeg)]) (by show ([.ref 171, .int (I1 2000000 (nI k + 1).toNatClampNeg), .int (I1 2000000 (nI k + 2).toNatClampNeg)] : List Value) = [.ref 171, .int (I 2000000 (nI k + 1).toNatClampNeg), .int (I 2000000 (nI k + 2).toNatClampNeg)]; first | rfl | rw [hx]) (h2 x s1 hS I1 J1 P1 hC1 hM1)) hI_ST) (Nat.le_refl _) (fun r u hq => ?_)⟩
  obtain ⟨⟨I2, J2, P2, rfl, rfl, hC2, hM2⟩, hg⟩ := hq
  have hl2 : I2 2000001 0 = nI n := (congrFun (show I2 2000001 = I1 2000001 from hg.2.2) 0).trans hl1
  refine gT_n 1 ?_
  refine ⟨fun _ => hK s1 I2 J2 P2 hO1 hC2 hM2 hl2, fun c => absurd rfl c⟩
theorem w_key {n k : Nat} {s : zS} {I : Nat → Nat → Int32} {J : Nat → Nat → Int64} {P : Nat → Nat} (hn2 : n ≤ 2048) (hkn : k + 4 ≤ n) (hl : I 2000001 0 = nI n) (hO : sOK s) (hC : RC s I J P) (hM : RM s I J) (hK : ∀ s' I' J' P', sOK s' → RC s' I' J' P' → RM s' I' J' → I' 2000001 0 = nI n → gT 15 0 1109 [(3, .int (nI k)), (2, .ref 171), (1, .ref 0), (0, .ref 2000000)] [] (213, 2135) (gST I' J' P') (fun r _ => r = some (.int 1))) : gT 15 0 440 [(3, .int (nI k)), (2, .ref 171), (1, .ref 0), (0, .ref 2000000)] [] (213, 2135) (gST I J P) (fun r _ => r = some (.int 1)) := by
  obtain ⟨Sp, h1, h2⟩ := t_key (a := I 2000000 (nI k + 1).toNatClampNeg) (b := I 2000000 (nI k + 2).toNatClampNeg) (c := I 2000000 (nI k + 3).toNatClampNeg) s I J P hO hC hM
  refine gT_n 17 ?_
  refine ⟨rfl, (pk_inS (m := n) (k := k + 1) (hm := by omega) (lw_ln hn2 hl) (by omega) (nI_1 k)), rfl, (pk_inS (m := n) (k := k + 2) (hm := by omega) (lw_ln hn2 hl) (by omega) (nI_2 k)), rfl, (pk_inS (m := n) (k := k + 3) (hm := by omega) (lw_ln hn2 hl) (by omega) (nI_3 k)), rfl, rfl, gTM.use (gTM_fr h1 hI_ST) (Nat.le_refl _) (fun r u hq => ?_)⟩
  obtain ⟨⟨x, s1, I1, J1, P1, rfl, rfl, ⟨hS, hO1⟩, hC1, hM1⟩, hf⟩ := hq
  have hx : I1 2000000 = I 2000000 := hf.2.1
  have hl1 : I1 2000001 0 = nI n := (congrFun (show I1 2000001 = I 2000001 from hf.2.2) 0).trans hl
  refine gT_n 17 ?_
  refine ⟨rfl, (pk_inS (m := n) (k := k + 1) (hm := by omega) (lw_ln hn2 hl1) (by omega) (nI_1 k)), rfl, (pk_inS (m := n) (k := k + 2) (hm := by omega) (lw_ln hn2 hl1) (by omega) (nI_2 k)), rfl, (pk_inS (m := n) (k := k + 3) (hm := by omega) (lw_ln hn2 hl1) (by omega) (nI_3 k)), rfl, rfl, gTM.use (gTM_fr (gTM_as (As' := .ref 171 :: [.int (I 2000000 (nI k + 1).toNatClampNeg), .int (I 2000000 (nI k + 2).toNatClampNeg), .int (I 2000000 (nI k + 3).toNatClampNeg)]) (by show ([.ref 171, .int (I1 2000000 (nI k + 1).toNatClampNeg), .int (I1 2000000 (nI k + 2).toNatClampNeg), .int (I1 2000000 (nI k + 3).toNatClampNeg)] : List Value) = [.ref 171, .int (I 2000000 (nI k + 1).toNatClampNeg), .int (I 2000000 (nI k + 2).toNatClampNeg), .int (I 2000000 (nI k + 3).toNatClampNeg)]; first | rfl | rw [hx]) (h2 x s1 hS I1 J1 P1 hC1 hM1)) hI_ST) (Nat.le_refl _) (fun r u hq => ?_)⟩
  obtain ⟨⟨I2, J2, P2, rfl, rfl, hC2, hM2⟩, hg⟩ := hq
  have hl2 : I2 2000001 0 = nI n := (congrFun (show I2 2000001 = I1 2000001 from hg.2.2) 0).trans hl1
  refine gT_n 1 ?_
  refine ⟨fun _ => hK s1 I2 J2 P2 hO1 hC2 hM2 hl2, fun c => absurd rfl c⟩
theorem w_rule {n k : Nat} {s : zS} {I : Nat → Nat → Int32} {J : Nat → Nat → Int64} {P : Nat → Nat} (hn2 : n ≤ 2048) (hkn : k + 4 ≤ n) (hl : I 2000001 0 = nI n) (hO : sOK s) (hC : RC s I J P) (hM : RM s I J) (hK : ∀ s' I' J' P', sOK s' → RC s' I' J' P' → RM s' I' J' → I' 2000001 0 = nI n → gT 15 0 1109 [(3, .int (nI k)), (2, .ref 171), (1, .ref 0), (0, .ref 2000000)] [] (213, 2135) (gST I' J' P') (fun r _ => r = some (.int 1))) : gT 15 0 483 [(3, .int (nI k)), (2, .ref 171), (1, .ref 0), (0, .ref 2000000)] [] (213, 2135) (gST I J P) (fun r _ => r = some (.int 1)) := by
  obtain ⟨Sp, h1, h2⟩ := t_rule (a := I 2000000 (nI k + 1).toNatClampNeg) s I J P hO hC hM
  refine gT_n 7 ?_
  refine ⟨rfl, (pk_inS (m := n) (k := k + 1) (hm := by omega) (lw_ln hn2 hl) (by omega) (nI_1 k)), rfl, rfl, gTM.use (gTM_fr h1 hI_ST) (Nat.le_refl _) (fun r u hq => ?_)⟩
  obtain ⟨⟨x, s1, I1, J1, P1, rfl, rfl, ⟨hS, hO1⟩, hC1, hM1⟩, hf⟩ := hq
  have hx : I1 2000000 = I 2000000 := hf.2.1
  have hl1 : I1 2000001 0 = nI n := (congrFun (show I1 2000001 = I 2000001 from hf.2.2) 0).trans hl
  refine gT_n 7 ?_
  refine ⟨rfl, (pk_inS (m := n) (k := k + 1) (hm := by omega) (lw_ln hn2 hl1) (by omega) (nI_1 k)), rfl, rfl, gTM.use (gTM_fr (gTM_as (As' := .ref 171 :: [.int (I 2000000 (nI k + 1).toNatClampNeg)]) (by show ([.ref 171, .int (I1 2000000 (nI k + 1).toNatClampNeg)] : List Value) = [.ref 171, .int (I 2000000 (nI k + 1).toNatClampNeg)]; first | rfl | rw [hx]) (h2 x s1 hS I1 J1 P1 hC1 hM1)) hI_ST) (Nat.le_refl _) (fun r u hq => ?_)⟩
  obtain ⟨⟨I2, J2, P2, rfl, rfl, hC2, hM2⟩, hg⟩ := hq
  have hl2 : I2 2000001 0 = nI n := (congrFun (show I2 2000001 = I1 2000001 from hg.2.2) 0).trans hl1
  refine gT_n 1 ?_
  refine ⟨fun _ => hK s1 I2 J2 P2 hO1 hC2 hM2 hl2, fun c => absurd rfl c⟩
theorem w_answer {n k : Nat} {s : zS} {I : Nat → Nat → Int32} {J : Nat → Nat → Int64} {P : Nat → Nat} (hn2 : n ≤ 2048) (hkn : k + 4 ≤ n) (hl : I 2000001 0 = nI n) (hO : sOK s) (hC : RC s I J P) (hM : RM s I J) (hK : ∀ s' I' J' P', sOK s' → RC s' I' J' P' → RM s' I' J' → I' 2000001 0 = nI n → gT 15 0 1109 [(3, .int (nI k)), (2, .ref 171), (1, .ref 0), (0, .ref 2000000)] [] (213, 2135) (gST I' J' P') (fun r _ => r = some (.int 1))) : gT 15 0 506 [(3, .int (nI k)), (2, .ref 171), (1, .ref 0), (0, .ref 2000000)] [] (213, 2135) (gST I J P) (fun r _ => r = some (.int 1)) := by
  obtain ⟨Sp, h1, h2⟩ := t_answer (a := I 2000000 (nI k + 1).toNatClampNeg) (b := I 2000000 (nI k + 2).toNatClampNeg) s I J P hO hC hM
  refine gT_n 12 ?_
  refine ⟨rfl, (pk_inS (m := n) (k := k + 1) (hm := by omega) (lw_ln hn2 hl) (by omega) (nI_1 k)), rfl, (pk_inS (m := n) (k := k + 2) (hm := by omega) (lw_ln hn2 hl) (by omega) (nI_2 k)), rfl, rfl, gTM.use (gTM_fr h1 hI_ST) (Nat.le_refl _) (fun r u hq => ?_)⟩
  obtain ⟨⟨x, s1, I1, J1, P1, rfl, rfl, ⟨hS, hO1⟩, hC1, hM1⟩, hf⟩ := hq
  have hx : I1 2000000 = I 2000000 := hf.2.1
  have hl1 : I1 2000001 0 = nI n := (congrFun (show I1 2000001 = I 2000001 from hf.2.2) 0).trans hl
  refine gT_n 12 ?_
  refine ⟨rfl, (pk_inS (m := n) (k := k + 1) (hm := by omega) (lw_ln hn2 hl1) (by omega) (nI_1 k)), rfl, (pk_inS (m := n) (k := k + 2) (hm := by omega) (lw_ln hn2 hl1) (by omega) (nI_2 k)), rfl, rfl, gTM.use (gTM_fr (gTM_as (As' := .ref 171 :: [.int (I 2000000 (nI k + 1).toNatClampNeg), .int (I 2000000 (nI k + 2).toNatClampNeg)]) (by show ([.ref 171, .int (I1 2000000 (nI k + 1).toNatClampNeg), .int (I1 2000000 (nI k + 2).toNatClampNeg)] : List Value) = [.ref 171, .int (I 2000000 (nI k + 1).toNatClampNeg), .int (I 2000000 (nI k + 2).toNatClampNeg)]; first | rfl | rw [hx]) (h2 x s1 hS I1 J1 P1 hC1 hM1)) hI_ST) (Nat.le_refl _) (fun r u hq => ?_)⟩
  obtain ⟨⟨I2, J2, P2, rfl, rfl, hC2, hM2⟩, hg⟩ := hq
  have hl2 : I2 2000001 0 = nI n := (congrFun (show I2 2000001 = I1 2000001 from hg.2.2) 0).trans hl1
  refine gT_n 1 ?_
  refine ⟨fun _ => hK s1 I2 J2 P2 hO1 hC2 hM2 hl2, fun c => absurd rfl c⟩
theorem w_ask {n k : Nat} {s : zS} {I : Nat → Nat → Int32} {J : Nat → Nat → Int64} {P : Nat → Nat} (hn2 : n ≤ 2048) (hkn : k + 4 ≤ n) (hl : I 2000001 0 = nI n) (hO : sOK s) (hC : RC s I J P) (hM : RM s I J) (hK : ∀ s' I' J' P', sOK s' → RC s' I' J' P' → RM s' I' J' → I' 2000001 0 = nI n → gT 15 0 1109 [(3, .int (nI k)), (2, .ref 171), (1, .ref 0), (0, .ref 2000000)] [] (213, 2135) (gST I' J' P') (fun r _ => r = some (.int 1))) : gT 15 0 539 [(3, .int (nI k)), (2, .ref 171), (1, .ref 0), (0, .ref 2000000)] [] (213, 2135) (gST I J P) (fun r _ => r = some (.int 1)) := by
  obtain ⟨Sp, h1, h2⟩ := t_ask (a := I 2000000 (nI k + 1).toNatClampNeg) s I J P hO hC hM
  refine gT_n 7 ?_
  refine ⟨rfl, (pk_inS (m := n) (k := k + 1) (hm := by omega) (lw_ln hn2 hl) (by omega) (nI_1 k)), rfl, rfl, gTM.use (gTM_fr h1 hI_ST) (Nat.le_refl _) (fun r u hq => ?_)⟩
  obtain ⟨⟨x, s1, I1, J1, P1, rfl, rfl, ⟨hS, hO1⟩, hC1, hM1⟩, hf⟩ := hq
  have hx : I1 2000000 = I 2000000 := hf.2.1
  have hl1 : I1 2000001 0 = nI n := (congrFun (show I1 2000001 = I 2000001 from hf.2.2) 0).trans hl
  refine gT_n 7 ?_
  refine ⟨rfl, (pk_inS (m := n) (k := k + 1) (hm := by omega) (lw_ln hn2 hl1) (by omega) (nI_1 k)), rfl, rfl, gTM.use (gTM_fr (gTM_as (As' := .ref 171 :: [.int (I 2000000 (nI k + 1).toNatClampNeg)]) (by show ([.ref 171, .int (I1 2000000 (nI k + 1).toNatClampNeg)] : List Value) = [.ref 171, .int (I 2000000 (nI k + 1).toNatClampNeg)]; first | rfl | rw [hx]) (h2 x s1 hS I1 J1 P1 hC1 hM1)) hI_ST) (Nat.le_refl _) (fun r u hq => ?_)⟩
  obtain ⟨⟨I2, J2, P2, rfl, rfl, hC2, hM2⟩, hg⟩ := hq
  have hl2 : I2 2000001 0 = nI n := (congrFun (show I2 2000001 = I1 2000001 from hg.2.2) 0).trans hl1
  refine gT_n 1 ?_
  refine ⟨fun _ => hK s1 I2 J2 P2 hO1 hC2 hM2 hl2, fun c => absurd rfl c⟩
theorem w_item {n k : Nat} {s : zS} {I : Nat → Nat → Int32} {J : Nat → Nat → Int64} {P : Nat → Nat} (hn2 : n ≤ 2048) (hkn : k + 4 ≤ n) (hl : I 2000001 0 = nI n) (hO : sOK s) (hC : RC s I J P) (hM : RM s I J) (hK : ∀ s' I' J' P', sOK s' → RC s' I' J' P' → RM s' I' J' → I' 2000001 0 = nI n → gT 15 0 1109 [(3, .int (nI k)), (2, .ref 171), (1, .ref 0), (0, .ref 2000000)] [] (213, 2135) (gST I' J' P') (fun r _ => r = some (.int 1))) : gT 15 0 562 [(3, .int (nI k)), (2, .ref 171), (1, .ref 0), (0, .ref 2000000)] [] (213, 2135) (gST I J P) (fun r _ => r = some (.int 1)) := by
  obtain ⟨Sp, h1, h2⟩ := t_item (a := I 2000000 (nI k + 1).toNatClampNeg) (b := I 2000000 (nI k + 2).toNatClampNeg) s I J P hO hC hM
  refine gT_n 12 ?_
  refine ⟨rfl, (pk_inS (m := n) (k := k + 1) (hm := by omega) (lw_ln hn2 hl) (by omega) (nI_1 k)), rfl, (pk_inS (m := n) (k := k + 2) (hm := by omega) (lw_ln hn2 hl) (by omega) (nI_2 k)), rfl, rfl, gTM.use (gTM_fr h1 hI_ST) (Nat.le_refl _) (fun r u hq => ?_)⟩
  obtain ⟨⟨x, s1, I1, J1, P1, rfl, rfl, ⟨hS, hO1⟩, hC1, hM1⟩, hf⟩ := hq
  have hx : I1 2000000 = I 2000000 := hf.2.1
  have hl1 : I1 2000001 0 = nI n := (congrFun (show I1 2000001 = I 2000001 from hf.2.2) 0).trans hl
  refine gT_n 12 ?_
  refine ⟨rfl, (pk_inS (m := n) (k := k + 1) (hm := by omega) (lw_ln hn2 hl1) (by omega) (nI_1 k)), rfl, (pk_inS (m := n) (k := k + 2) (hm := by omega) (lw_ln hn2 hl1) (by omega) (nI_2 k)), rfl, rfl, gTM.use (gTM_fr (gTM_as (As' := .ref 171 :: [.int (I 2000000 (nI k + 1).toNatClampNeg), .int (I 2000000 (nI k + 2).toNatClampNeg)]) (by show ([.ref 171, .int (I1 2000000 (nI k + 1).toNatClampNeg), .int (I1 2000000 (nI k + 2).toNatClampNeg)] : List Value) = [.ref 171, .int (I 2000000 (nI k + 1).toNatClampNeg), .int (I 2000000 (nI k + 2).toNatClampNeg)]; first | rfl | rw [hx]) (h2 x s1 hS I1 J1 P1 hC1 hM1)) hI_ST) (Nat.le_refl _) (fun r u hq => ?_)⟩
  obtain ⟨⟨I2, J2, P2, rfl, rfl, hC2, hM2⟩, hg⟩ := hq
  have hl2 : I2 2000001 0 = nI n := (congrFun (show I2 2000001 = I1 2000001 from hg.2.2) 0).trans hl1
  refine gT_n 1 ?_
  refine ⟨fun _ => hK s1 I2 J2 P2 hO1 hC2 hM2 hl2, fun c => absurd rfl c⟩
theorem w_lose {n k : Nat} {s : zS} {I : Nat → Nat → Int32} {J : Nat → Nat → Int64} {P : Nat → Nat} (hn2 : n ≤ 2048) (hkn : k + 4 ≤ n) (hl : I 2000001 0 = nI n) (hO : sOK s) (hC : RC s I J P) (hM : RM s I J) (hK : ∀ s' I' J' P', sOK s' → RC s' I' J' P' → RM s' I' J' → I' 2000001 0 = nI n → gT 15 0 1109 [(3, .int (nI k)), (2, .ref 171), (1, .ref 0), (0, .ref 2000000)] [] (213, 2135) (gST I' J' P') (fun r _ => r = some (.int 1))) : gT 15 0 595 [(3, .int (nI k)), (2, .ref 171), (1, .ref 0), (0, .ref 2000000)] [] (213, 2135) (gST I J P) (fun r _ => r = some (.int 1)) := by
  obtain ⟨Sp, h1, h2⟩ := t_lose (a := I 2000000 (nI k + 1).toNatClampNeg) s I J P hO hC hM
  refine gT_n 7 ?_
  refine ⟨rfl, (pk_inS (m := n) (k := k + 1) (hm := by omega) (lw_ln hn2 hl) (by omega) (nI_1 k)), rfl, rfl, gTM.use (gTM_fr h1 hI_ST) (Nat.le_refl _) (fun r u hq => ?_)⟩
  obtain ⟨⟨x, s1, I1, J1, P1, rfl, rfl, ⟨hS, hO1⟩, hC1, hM1⟩, hf⟩ := hq
  have hx : I1 2000000 = I 2000000 := hf.2.1
  have hl1 : I1 2000001 0 = nI n := (congrFun (show I1 2000001 = I 2000001 from hf.2.2) 0).trans hl
  refine gT_n 7 ?_
  refine ⟨rfl, (pk_inS (m := n) (k := k + 1) (hm := by omega) (lw_ln hn2 hl1) (by omega) (nI_1 k)), rfl, rfl, gTM.use (gTM_fr (gTM_as (As' := .ref 171 :: [.int (I 2000000 (nI k + 1).toNatClampNeg)]) (by show ([.ref 171, .int (I1 2000000 (nI k + 1).toNatClampNeg)] : List Value) = [.ref 171, .int (I 2000000 (nI k + 1).toNatClampNeg)]; first | rfl | rw [hx]) (h2 x s1 hS I1 J1 P1 hC1 hM1)) hI_ST) (Nat.le_refl _) (fun r u hq => ?_)⟩
  obtain ⟨⟨I2, J2, P2, rfl, rfl, hC2, hM2⟩, hg⟩ := hq
  have hl2 : I2 2000001 0 = nI n := (congrFun (show I2 2000001 = I1 2000001 from hg.2.2) 0).trans hl1
  refine gT_n 1 ?_
  refine ⟨fun _ => hK s1 I2 J2 P2 hO1 hC2 hM2 hl2, fun c => absurd rfl c⟩
theorem w_alter {n k : Nat} {s : zS} {I : Nat → Nat → Int32} {J : Nat → Nat → Int64} {P : Nat → Nat} (hn2 : n ≤ 2048) (hkn : k + 4 ≤ n) (hl : I 2000001 0 = nI n) (hO : sOK s) (hC : RC s I J P) (hM : RM s I J) (hK : ∀ s' I' J' P', sOK s' → RC s' I' J' P' → RM s' I' J' → I' 2000001 0 = nI n → gT 15 0 1109 [(3, .int (nI k)), (2, .ref 171), (1, .ref 0), (0, .ref 2000000)] [] (213, 2135) (gST I' J' P') (fun r _ => r = some (.int 1))) : gT 15 0 618 [(3, .int (nI k)), (2, .ref 171), (1, .ref 0), (0, .ref 2000000)] [] (213, 2135) (gST I J P) (fun r _ => r = some (.int 1)) := by
  obtain ⟨Sp, h1, h2⟩ := t_alter (a := I 2000000 (nI k + 1).toNatClampNeg) (b := I 2000000 (nI k + 2).toNatClampNeg) (c := I 2000000 (nI k + 3).toNatClampNeg) s I J P hO hC hM
  refine gT_n 17 ?_
  refine ⟨rfl, (pk_inS (m := n) (k := k + 1) (hm := by omega) (lw_ln hn2 hl) (by omega) (nI_1 k)), rfl, (pk_inS (m := n) (k := k + 2) (hm := by omega) (lw_ln hn2 hl) (by omega) (nI_2 k)), rfl, (pk_inS (m := n) (k := k + 3) (hm := by omega) (lw_ln hn2 hl) (by omega) (nI_3 k)), rfl, rfl, gTM.use (gTM_fr h1 hI_ST) (Nat.le_refl _) (fun r u hq => ?_)⟩
  obtain ⟨⟨x, s1, I1, J1, P1, rfl, rfl, ⟨hS, hO1⟩, hC1, hM1⟩, hf⟩ := hq
  have hx : I1 2000000 = I 2000000 := hf.2.1
  have hl1 : I1 2000001 0 = nI n := (congrFun (show I1 2000001 = I 2000001 from hf.2.2) 0).trans hl
  refine gT_n 17 ?_
  refine ⟨rfl, (pk_inS (m := n) (k := k + 1) (hm := by omega) (lw_ln hn2 hl1) (by omega) (nI_1 k)), rfl, (pk_inS (m := n) (k := k + 2) (hm := by omega) (lw_ln hn2 hl1) (by omega) (nI_2 k)), rfl, (pk_inS (m := n) (k := k + 3) (hm := by omega) (lw_ln hn2 hl1) (by omega) (nI_3 k)), rfl, rfl, gTM.use (gTM_fr (gTM_as (As' := .ref 171 :: [.int (I 2000000 (nI k + 1).toNatClampNeg), .int (I 2000000 (nI k + 2).toNatClampNeg), .int (I 2000000 (nI k + 3).toNatClampNeg)]) (by show ([.ref 171, .int (I1 2000000 (nI k + 1).toNatClampNeg), .int (I1 2000000 (nI k + 2).toNatClampNeg), .int (I1 2000000 (nI k + 3).toNatClampNeg)] : List Value) = [.ref 171, .int (I 2000000 (nI k + 1).toNatClampNeg), .int (I 2000000 (nI k + 2).toNatClampNeg), .int (I 2000000 (nI k + 3).toNatClampNeg)]; first | rfl | rw [hx]) (h2 x s1 hS I1 J1 P1 hC1 hM1)) hI_ST) (Nat.le_refl _) (fun r u hq => ?_)⟩
  obtain ⟨⟨I2, J2, P2, rfl, rfl, hC2, hM2⟩, hg⟩ := hq
  have hl2 : I2 2000001 0 = nI n := (congrFun (show I2 2000001 = I1 2000001 from hg.2.2) 0).trans hl1
  refine gT_n 1 ?_
  refine ⟨fun _ => hK s1 I2 J2 P2 hO1 hC2 hM2 hl2, fun c => absurd rfl c⟩
theorem w_rename {n k : Nat} {s : zS} {I : Nat → Nat → Int32} {J : Nat → Nat → Int64} {P : Nat → Nat} (hn2 : n ≤ 2048) (hkn : k + 4 ≤ n) (hl : I 2000001 0 = nI n) (hO : sOK s) (hC : RC s I J P) (hM : RM s I J) (hK : ∀ s' I' J' P', sOK s' → RC s' I' J' P' → RM s' I' J' → I' 2000001 0 = nI n → gT 15 0 1109 [(3, .int (nI k)), (2, .ref 171), (1, .ref 0), (0, .ref 2000000)] [] (213, 2135) (gST I' J' P') (fun r _ => r = some (.int 1))) : gT 15 0 661 [(3, .int (nI k)), (2, .ref 171), (1, .ref 0), (0, .ref 2000000)] [] (213, 2135) (gST I J P) (fun r _ => r = some (.int 1)) := by
  obtain ⟨Sp, h1, h2⟩ := t_rename (a := I 2000000 (nI k + 1).toNatClampNeg) (b := I 2000000 (nI k + 2).toNatClampNeg) s I J P hO hC hM
  refine gT_n 12 ?_
  refine ⟨rfl, (pk_inS (m := n) (k := k + 1) (hm := by omega) (lw_ln hn2 hl) (by omega) (nI_1 k)), rfl, (pk_inS (m := n) (k := k + 2) (hm := by omega) (lw_ln hn2 hl) (by omega) (nI_2 k)), rfl, rfl, gTM.use (gTM_fr h1 hI_ST) (Nat.le_refl _) (fun r u hq => ?_)⟩
  obtain ⟨⟨x, s1, I1, J1, P1, rfl, rfl, ⟨hS, hO1⟩, hC1, hM1⟩, hf⟩ := hq
  have hx : I1 2000000 = I 2000000 := hf.2.1
  have hl1 : I1 2000001 0 = nI n := (congrFun (show I1 2000001 = I 2000001 from hf.2.2) 0).trans hl
  refine gT_n 12 ?_
  refine ⟨rfl, (pk_inS (m := n) (k := k + 1) (hm := by omega) (lw_ln hn2 hl1) (by omega) (nI_1 k)), rfl, (pk_inS (m := n) (k := k + 2) (hm := by omega) (lw_ln hn2 hl1) (by omega) (nI_2 k)), rfl, rfl, gTM.use (gTM_fr (gTM_as (As' := .ref 171 :: [.int (I 2000000 (nI k + 1).toNatClampNeg), .int (I 2000000 (nI k + 2).toNatClampNeg)]) (by show ([.ref 171, .int (I1 2000000 (nI k + 1).toNatClampNeg), .int (I1 2000000 (nI k + 2).toNatClampNeg)] : List Value) = [.ref 171, .int (I 2000000 (nI k + 1).toNatClampNeg), .int (I 2000000 (nI k + 2).toNatClampNeg)]; first | rfl | rw [hx]) (h2 x s1 hS I1 J1 P1 hC1 hM1)) hI_ST) (Nat.le_refl _) (fun r u hq => ?_)⟩
  obtain ⟨⟨I2, J2, P2, rfl, rfl, hC2, hM2⟩, hg⟩ := hq
  have hl2 : I2 2000001 0 = nI n := (congrFun (show I2 2000001 = I1 2000001 from hg.2.2) 0).trans hl1
  refine gT_n 1 ?_
  refine ⟨fun _ => hK s1 I2 J2 P2 hO1 hC2 hM2 hl2, fun c => absurd rfl c⟩
theorem w_sign {n k : Nat} {s : zS} {I : Nat → Nat → Int32} {J : Nat → Nat → Int64} {P : Nat → Nat} (hn2 : n ≤ 2048) (hkn : k + 4 ≤ n) (hl : I 2000001 0 = nI n) (hO : sOK s) (hC : RC s I J P) (hM : RM s I J) (hK : ∀ s' I' J' P', sOK s' → RC s' I' J' P' → RM s' I' J' → I' 2000001 0 = nI n → gT 15 0 1109 [(3, .int (nI k)), (2, .ref 171), (1, .ref 0), (0, .ref 2000000)] [] (213, 2135) (gST I' J' P') (fun r _ => r = some (.int 1))) : gT 15 0 694 [(3, .int (nI k)), (2, .ref 171), (1, .ref 0), (0, .ref 2000000)] [] (213, 2135) (gST I J P) (fun r _ => r = some (.int 1)) := by
  obtain ⟨Sp, h1, h2⟩ := t_sign (a := I 2000000 (nI k + 1).toNatClampNeg) s I J P hO hC hM
  refine gT_n 7 ?_
  refine ⟨rfl, (pk_inS (m := n) (k := k + 1) (hm := by omega) (lw_ln hn2 hl) (by omega) (nI_1 k)), rfl, rfl, gTM.use (gTM_fr h1 hI_ST) (Nat.le_refl _) (fun r u hq => ?_)⟩
  obtain ⟨⟨x, s1, I1, J1, P1, rfl, rfl, ⟨hS, hO1⟩, hC1, hM1⟩, hf⟩ := hq
  have hx : I1 2000000 = I 2000000 := hf.2.1
  have hl1 : I1 2000001 0 = nI n := (congrFun (show I1 2000001 = I 2000001 from hf.2.2) 0).trans hl
  refine gT_n 7 ?_
  refine ⟨rfl, (pk_inS (m := n) (k := k + 1) (hm := by omega) (lw_ln hn2 hl1) (by omega) (nI_1 k)), rfl, rfl, gTM.use (gTM_fr (gTM_as (As' := .ref 171 :: [.int (I 2000000 (nI k + 1).toNatClampNeg)]) (by show ([.ref 171, .int (I1 2000000 (nI k + 1).toNatClampNeg)] : List Value) = [.ref 171, .int (I 2000000 (nI k + 1).toNatClampNeg)]; first | rfl | rw [hx]) (h2 x s1 hS I1 J1 P1 hC1 hM1)) hI_ST) (Nat.le_refl _) (fun r u hq => ?_)⟩
  obtain ⟨⟨I2, J2, P2, rfl, rfl, hC2, hM2⟩, hg⟩ := hq
  have hl2 : I2 2000001 0 = nI n := (congrFun (show I2 2000001 = I1 2000001 from hg.2.2) 0).trans hl1
  refine gT_n 1 ?_
  refine ⟨fun _ => hK s1 I2 J2 P2 hO1 hC2 hM2 hl2, fun c => absurd rfl c⟩
theorem w_check {n k : Nat} {s : zS} {I : Nat → Nat → Int32} {J : Nat → Nat → Int64} {P : Nat → Nat} (hn2 : n ≤ 2048) (hkn : k + 4 ≤ n) (hl : I 2000001 0 = nI n) (hO : sOK s) (hC : RC s I J P) (hM : RM s I J) (hK : ∀ s' I' J' P', sOK s' → RC s' I' J' P' → RM s' I' J' → I' 2000001 0 = nI n → gT 15 0 1109 [(3, .int (nI k)), (2, .ref 171), (1, .ref 0), (0, .ref 2000000)] [] (213, 2135) (gST I' J' P') (fun r _ => r = some (.int 1))) : gT 15 0 717 [(3, .int (nI k)), (2, .ref 171), (1, .ref 0), (0, .ref 2000000)] [] (213, 2135) (gST I J P) (fun r _ => r = some (.int 1)) := by
  obtain ⟨Sp, h1, h2⟩ := t_check s I J P hO hC hM
  refine gT_n 2 ?_
  refine ⟨rfl, rfl, gTM.use (gTM_fr h1 hI_ST) (Nat.le_refl _) (fun r u hq => ?_)⟩
  obtain ⟨⟨x, s1, I1, J1, P1, rfl, rfl, ⟨hS, hO1⟩, hC1, hM1⟩, hf⟩ := hq
  have hx : I1 2000000 = I 2000000 := hf.2.1
  have hl1 : I1 2000001 0 = nI n := (congrFun (show I1 2000001 = I 2000001 from hf.2.2) 0).trans hl
  refine gT_n 2 ?_
  refine ⟨rfl, rfl, gTM.use (gTM_fr (gTM_as (As' := .ref 171 :: []) (by show ([.ref 171] : List Value) = [.ref 171]; first | rfl | rw [hx]) (h2 x s1 hS I1 J1 P1 hC1 hM1)) hI_ST) (Nat.le_refl _) (fun r u hq => ?_)⟩
  obtain ⟨⟨I2, J2, P2, rfl, rfl, hC2, hM2⟩, hg⟩ := hq
  have hl2 : I2 2000001 0 = nI n := (congrFun (show I2 2000001 = I1 2000001 from hg.2.2) 0).trans hl1
  refine gT_n 1 ?_
  refine ⟨fun _ => hK s1 I2 J2 P2 hO1 hC2 hM2 hl2, fun c => absurd rfl c⟩
theorem w_checked {n k : Nat} {s : zS} {I : Nat → Nat → Int32} {J : Nat → Nat → Int64} {P : Nat → Nat} (hn2 : n ≤ 2048) (hkn : k + 4 ≤ n) (hl : I 2000001 0 = nI n) (hO : sOK s) (hC : RC s I J P) (hM : RM s I J) (hK : ∀ s' I' J' P', sOK s' → RC s' I' J' P' → RM s' I' J' → I' 2000001 0 = nI n → gT 15 0 1109 [(3, .int (nI k)), (2, .ref 171), (1, .ref 0), (0, .ref 2000000)] [] (213, 2135) (gST I' J' P') (fun r _ => r = some (.int 1))) : gT 15 0 730 [(3, .int (nI k)), (2, .ref 171), (1, .ref 0), (0, .ref 2000000)] [] (213, 2135) (gST I J P) (fun r _ => r = some (.int 1)) := by
  obtain ⟨Sp, h1, h2⟩ := t_checked (a := I 2000000 (nI k + 1).toNatClampNeg) s I J P hO hC hM
  refine gT_n 7 ?_
  refine ⟨rfl, (pk_inS (m := n) (k := k + 1) (hm := by omega) (lw_ln hn2 hl) (by omega) (nI_1 k)), rfl, rfl, gTM.use (gTM_fr h1 hI_ST) (Nat.le_refl _) (fun r u hq => ?_)⟩
  obtain ⟨⟨x, s1, I1, J1, P1, rfl, rfl, ⟨hS, hO1⟩, hC1, hM1⟩, hf⟩ := hq
  have hx : I1 2000000 = I 2000000 := hf.2.1
  have hl1 : I1 2000001 0 = nI n := (congrFun (show I1 2000001 = I 2000001 from hf.2.2) 0).trans hl
  refine gT_n 7 ?_
  refine ⟨rfl, (pk_inS (m := n) (k := k + 1) (hm := by omega) (lw_ln hn2 hl1) (by omega) (nI_1 k)), rfl, rfl, gTM.use (gTM_fr (gTM_as (As' := .ref 171 :: [.int (I 2000000 (nI k + 1).toNatClampNeg)]) (by show ([.ref 171, .int (I1 2000000 (nI k + 1).toNatClampNeg)] : List Value) = [.ref 171, .int (I 2000000 (nI k + 1).toNatClampNeg)]; first | rfl | rw [hx]) (h2 x s1 hS I1 J1 P1 hC1 hM1)) hI_ST) (Nat.le_refl _) (fun r u hq => ?_)⟩
  obtain ⟨⟨I2, J2, P2, rfl, rfl, hC2, hM2⟩, hg⟩ := hq
  have hl2 : I2 2000001 0 = nI n := (congrFun (show I2 2000001 = I1 2000001 from hg.2.2) 0).trans hl1
  refine gT_n 1 ?_
  refine ⟨fun _ => hK s1 I2 J2 P2 hO1 hC2 hM2 hl2, fun c => absurd rfl c⟩
theorem w_entry {n k : Nat} {s : zS} {I : Nat → Nat → Int32} {J : Nat → Nat → Int64} {P : Nat → Nat} (hn2 : n ≤ 2048) (hkn : k + 4 ≤ n) (hl : I 2000001 0 = nI n) (hO : sOK s) (hC : RC s I J P) (hM : RM s I J) (hK : ∀ s' I' J' P', sOK s' → RC s' I' J' P' → RM s' I' J' → I' 2000001 0 = nI n → gT 15 0 1109 [(3, .int (nI k)), (2, .ref 171), (1, .ref 0), (0, .ref 2000000)] [] (213, 2135) (gST I' J' P') (fun r _ => r = some (.int 1))) : gT 15 0 753 [(3, .int (nI k)), (2, .ref 171), (1, .ref 0), (0, .ref 2000000)] [] (213, 2135) (gST I J P) (fun r _ => r = some (.int 1)) := by
  obtain ⟨Sp, h1, h2⟩ := t_entry (a := I 2000000 (nI k + 1).toNatClampNeg) (b := I 2000000 (nI k + 2).toNatClampNeg) s I J P hO hC hM
  refine gT_n 12 ?_
  refine ⟨rfl, (pk_inS (m := n) (k := k + 1) (hm := by omega) (lw_ln hn2 hl) (by omega) (nI_1 k)), rfl, (pk_inS (m := n) (k := k + 2) (hm := by omega) (lw_ln hn2 hl) (by omega) (nI_2 k)), rfl, rfl, gTM.use (gTM_fr h1 hI_ST) (Nat.le_refl _) (fun r u hq => ?_)⟩
  obtain ⟨⟨x, s1, I1, J1, P1, rfl, rfl, ⟨hS, hO1⟩, hC1, hM1⟩, hf⟩ := hq
  have hx : I1 2000000 = I 2000000 := hf.2.1
  have hl1 : I1 2000001 0 = nI n := (congrFun (show I1 2000001 = I 2000001 from hf.2.2) 0).trans hl
  refine gT_n 12 ?_
  refine ⟨rfl, (pk_inS (m := n) (k := k + 1) (hm := by omega) (lw_ln hn2 hl1) (by omega) (nI_1 k)), rfl, (pk_inS (m := n) (k := k + 2) (hm := by omega) (lw_ln hn2 hl1) (by omega) (nI_2 k)), rfl, rfl, gTM.use (gTM_fr (gTM_as (As' := .ref 171 :: [.int (I 2000000 (nI k + 1).toNatClampNeg), .int (I 2000000 (nI k + 2).toNatClampNeg)]) (by show ([.ref 171, .int (I1 2000000 (nI k + 1).toNatClampNeg), .int (I1 2000000 (nI k + 2).toNatClampNeg)] : List Value) = [.ref 171, .int (I 2000000 (nI k + 1).toNatClampNeg), .int (I 2000000 (nI k + 2).toNatClampNeg)]; first | rfl | rw [hx]) (h2 x s1 hS I1 J1 P1 hC1 hM1)) hI_ST) (Nat.le_refl _) (fun r u hq => ?_)⟩
  obtain ⟨⟨I2, J2, P2, rfl, rfl, hC2, hM2⟩, hg⟩ := hq
  have hl2 : I2 2000001 0 = nI n := (congrFun (show I2 2000001 = I1 2000001 from hg.2.2) 0).trans hl1
  refine gT_n 1 ?_
  refine ⟨fun _ => hK s1 I2 J2 P2 hO1 hC2 hM2 hl2, fun c => absurd rfl c⟩
theorem w_tick {n k : Nat} {s : zS} {I : Nat → Nat → Int32} {J : Nat → Nat → Int64} {P : Nat → Nat} (hn2 : n ≤ 2048) (hkn : k + 4 ≤ n) (hl : I 2000001 0 = nI n) (hO : sOK s) (hC : RC s I J P) (hM : RM s I J) (hK : ∀ s' I' J' P', sOK s' → RC s' I' J' P' → RM s' I' J' → I' 2000001 0 = nI n → gT 15 0 1109 [(3, .int (nI k)), (2, .ref 171), (1, .ref 0), (0, .ref 2000000)] [] (213, 2135) (gST I' J' P') (fun r _ => r = some (.int 1))) : gT 15 0 786 [(3, .int (nI k)), (2, .ref 171), (1, .ref 0), (0, .ref 2000000)] [] (213, 2135) (gST I J P) (fun r _ => r = some (.int 1)) := by
  obtain ⟨Sp, h1, h2⟩ := t_tick (a := I 2000000 (nI k + 1).toNatClampNeg) s I J P hO hC hM
  refine gT_n 7 ?_
  refine ⟨rfl, (pk_inS (m := n) (k := k + 1) (hm := by omega) (lw_ln hn2 hl) (by omega) (nI_1 k)), rfl, rfl, gTM.use (gTM_fr h1 hI_ST) (Nat.le_refl _) (fun r u hq => ?_)⟩
  obtain ⟨⟨x, s1, I1, J1, P1, rfl, rfl, ⟨hS, hO1⟩, hC1, hM1⟩, hf⟩ := hq
  have hx : I1 2000000 = I 2000000 := hf.2.1
  have hl1 : I1 2000001 0 = nI n := (congrFun (show I1 2000001 = I 2000001 from hf.2.2) 0).trans hl
  refine gT_n 7 ?_
  refine ⟨rfl, (pk_inS (m := n) (k := k + 1) (hm := by omega) (lw_ln hn2 hl1) (by omega) (nI_1 k)), rfl, rfl, gTM.use (gTM_fr (gTM_as (As' := .ref 171 :: [.int (I 2000000 (nI k + 1).toNatClampNeg)]) (by show ([.ref 171, .int (I1 2000000 (nI k + 1).toNatClampNeg)] : List Value) = [.ref 171, .int (I 2000000 (nI k + 1).toNatClampNeg)]; first | rfl | rw [hx]) (h2 x s1 hS I1 J1 P1 hC1 hM1)) hI_ST) (Nat.le_refl _) (fun r u hq => ?_)⟩
  obtain ⟨⟨I2, J2, P2, rfl, rfl, hC2, hM2⟩, hg⟩ := hq
  have hl2 : I2 2000001 0 = nI n := (congrFun (show I2 2000001 = I1 2000001 from hg.2.2) 0).trans hl1
  refine gT_n 1 ?_
  refine ⟨fun _ => hK s1 I2 J2 P2 hO1 hC2 hM2 hl2, fun c => absurd rfl c⟩
theorem w_publish {n k : Nat} {s : zS} {I : Nat → Nat → Int32} {J : Nat → Nat → Int64} {P : Nat → Nat} (hn2 : n ≤ 2048) (hkn : k + 4 ≤ n) (hl : I 2000001 0 = nI n) (hO : sOK s) (hC : RC s I J P) (hM : RM s I J) (hK : ∀ s' I' J' P', sOK s' → RC s' I' J' P' → RM s' I' J' → I' 2000001 0 = nI n → gT 15 0 1109 [(3, .int (nI k)), (2, .ref 171), (1, .ref 0), (0, .ref 2000000)] [] (213, 2135) (gST I' J' P') (fun r _ => r = some (.int 1))) : gT 15 0 809 [(3, .int (nI k)), (2, .ref 171), (1, .ref 0), (0, .ref 2000000)] [] (213, 2135) (gST I J P) (fun r _ => r = some (.int 1)) := by
  obtain ⟨Sp, h1, h2⟩ := t_publish (a := I 2000000 (nI k + 1).toNatClampNeg) (b := I 2000000 (nI k + 2).toNatClampNeg) s I J P hO hC hM
  refine gT_n 12 ?_
  refine ⟨rfl, (pk_inS (m := n) (k := k + 1) (hm := by omega) (lw_ln hn2 hl) (by omega) (nI_1 k)), rfl, (pk_inS (m := n) (k := k + 2) (hm := by omega) (lw_ln hn2 hl) (by omega) (nI_2 k)), rfl, rfl, gTM.use (gTM_fr h1 hI_ST) (Nat.le_refl _) (fun r u hq => ?_)⟩
  obtain ⟨⟨x, s1, I1, J1, P1, rfl, rfl, ⟨hS, hO1⟩, hC1, hM1⟩, hf⟩ := hq
  have hx : I1 2000000 = I 2000000 := hf.2.1
  have hl1 : I1 2000001 0 = nI n := (congrFun (show I1 2000001 = I 2000001 from hf.2.2) 0).trans hl
  refine gT_n 12 ?_
  refine ⟨rfl, (pk_inS (m := n) (k := k + 1) (hm := by omega) (lw_ln hn2 hl1) (by omega) (nI_1 k)), rfl, (pk_inS (m := n) (k := k + 2) (hm := by omega) (lw_ln hn2 hl1) (by omega) (nI_2 k)), rfl, rfl, gTM.use (gTM_fr (gTM_as (As' := .ref 171 :: [.int (I 2000000 (nI k + 1).toNatClampNeg), .int (I 2000000 (nI k + 2).toNatClampNeg)]) (by show ([.ref 171, .int (I1 2000000 (nI k + 1).toNatClampNeg), .int (I1 2000000 (nI k + 2).toNatClampNeg)] : List Value) = [.ref 171, .int (I 2000000 (nI k + 1).toNatClampNeg), .int (I 2000000 (nI k + 2).toNatClampNeg)]; first | rfl | rw [hx]) (h2 x s1 hS I1 J1 P1 hC1 hM1)) hI_ST) (Nat.le_refl _) (fun r u hq => ?_)⟩
  obtain ⟨⟨I2, J2, P2, rfl, rfl, hC2, hM2⟩, hg⟩ := hq
  have hl2 : I2 2000001 0 = nI n := (congrFun (show I2 2000001 = I1 2000001 from hg.2.2) 0).trans hl1
  refine gT_n 1 ?_
  refine ⟨fun _ => hK s1 I2 J2 P2 hO1 hC2 hM2 hl2, fun c => absurd rfl c⟩
theorem w_retire {n k : Nat} {s : zS} {I : Nat → Nat → Int32} {J : Nat → Nat → Int64} {P : Nat → Nat} (hn2 : n ≤ 2048) (hkn : k + 4 ≤ n) (hl : I 2000001 0 = nI n) (hO : sOK s) (hC : RC s I J P) (hM : RM s I J) (hK : ∀ s' I' J' P', sOK s' → RC s' I' J' P' → RM s' I' J' → I' 2000001 0 = nI n → gT 15 0 1109 [(3, .int (nI k)), (2, .ref 171), (1, .ref 0), (0, .ref 2000000)] [] (213, 2135) (gST I' J' P') (fun r _ => r = some (.int 1))) : gT 15 0 842 [(3, .int (nI k)), (2, .ref 171), (1, .ref 0), (0, .ref 2000000)] [] (213, 2135) (gST I J P) (fun r _ => r = some (.int 1)) := by
  obtain ⟨Sp, h1, h2⟩ := t_retire (a := I 2000000 (nI k + 1).toNatClampNeg) (b := I 2000000 (nI k + 2).toNatClampNeg) s I J P hO hC hM
  refine gT_n 12 ?_
  refine ⟨rfl, (pk_inS (m := n) (k := k + 1) (hm := by omega) (lw_ln hn2 hl) (by omega) (nI_1 k)), rfl, (pk_inS (m := n) (k := k + 2) (hm := by omega) (lw_ln hn2 hl) (by omega) (nI_2 k)), rfl, rfl, gTM.use (gTM_fr h1 hI_ST) (Nat.le_refl _) (fun r u hq => ?_)⟩
  obtain ⟨⟨x, s1, I1, J1, P1, rfl, rfl, ⟨hS, hO1⟩, hC1, hM1⟩, hf⟩ := hq
  have hx : I1 2000000 = I 2000000 := hf.2.1
  have hl1 : I1 2000001 0 = nI n := (congrFun (show I1 2000001 = I 2000001 from hf.2.2) 0).trans hl
  refine gT_n 12 ?_
  refine ⟨rfl, (pk_inS (m := n) (k := k + 1) (hm := by omega) (lw_ln hn2 hl1) (by omega) (nI_1 k)), rfl, (pk_inS (m := n) (k := k + 2) (hm := by omega) (lw_ln hn2 hl1) (by omega) (nI_2 k)), rfl, rfl, gTM.use (gTM_fr (gTM_as (As' := .ref 171 :: [.int (I 2000000 (nI k + 1).toNatClampNeg), .int (I 2000000 (nI k + 2).toNatClampNeg)]) (by show ([.ref 171, .int (I1 2000000 (nI k + 1).toNatClampNeg), .int (I1 2000000 (nI k + 2).toNatClampNeg)] : List Value) = [.ref 171, .int (I 2000000 (nI k + 1).toNatClampNeg), .int (I 2000000 (nI k + 2).toNatClampNeg)]; first | rfl | rw [hx]) (h2 x s1 hS I1 J1 P1 hC1 hM1)) hI_ST) (Nat.le_refl _) (fun r u hq => ?_)⟩
  obtain ⟨⟨I2, J2, P2, rfl, rfl, hC2, hM2⟩, hg⟩ := hq
  have hl2 : I2 2000001 0 = nI n := (congrFun (show I2 2000001 = I1 2000001 from hg.2.2) 0).trans hl1
  refine gT_n 1 ?_
  refine ⟨fun _ => hK s1 I2 J2 P2 hO1 hC2 hM2 hl2, fun c => absurd rfl c⟩
theorem w_digest {n k : Nat} {s : zS} {I : Nat → Nat → Int32} {J : Nat → Nat → Int64} {P : Nat → Nat} (hn2 : n ≤ 2048) (hkn : k + 4 ≤ n) (hl : I 2000001 0 = nI n) (hO : sOK s) (hC : RC s I J P) (hM : RM s I J) (hK : ∀ s' I' J' P', sOK s' → RC s' I' J' P' → RM s' I' J' → I' 2000001 0 = nI n → gT 15 0 1109 [(3, .int (nI k)), (2, .ref 171), (1, .ref 0), (0, .ref 2000000)] [] (213, 2135) (gST I' J' P') (fun r _ => r = some (.int 1))) : gT 15 0 875 [(3, .int (nI k)), (2, .ref 171), (1, .ref 0), (0, .ref 2000000)] [] (213, 2135) (gST I J P) (fun r _ => r = some (.int 1)) := by
  obtain ⟨Sp, h1, h2⟩ := t_digest (a := I 2000000 (nI k + 1).toNatClampNeg) (b := I 2000000 (nI k + 2).toNatClampNeg) s I J P hO hC hM
  refine gT_n 12 ?_
  refine ⟨rfl, (pk_inS (m := n) (k := k + 1) (hm := by omega) (lw_ln hn2 hl) (by omega) (nI_1 k)), rfl, (pk_inS (m := n) (k := k + 2) (hm := by omega) (lw_ln hn2 hl) (by omega) (nI_2 k)), rfl, rfl, gTM.use (gTM_fr h1 hI_ST) (Nat.le_refl _) (fun r u hq => ?_)⟩
  obtain ⟨⟨x, s1, I1, J1, P1, rfl, rfl, ⟨hS, hO1⟩, hC1, hM1⟩, hf⟩ := hq
  have hx : I1 2000000 = I 2000000 := hf.2.1
  have hl1 : I1 2000001 0 = nI n := (congrFun (show I1 2000001 = I 2000001 from hf.2.2) 0).trans hl
  refine gT_n 12 ?_
  refine ⟨rfl, (pk_inS (m := n) (k := k + 1) (hm := by omega) (lw_ln hn2 hl1) (by omega) (nI_1 k)), rfl, (pk_inS (m := n) (k := k + 2) (hm := by omega) (lw_ln hn2 hl1) (by omega) (nI_2 k)), rfl, rfl, gTM.use (gTM_fr (gTM_as (As' := .ref 171 :: [.int (I 2000000 (nI k + 1).toNatClampNeg), .int (I 2000000 (nI k + 2).toNatClampNeg)]) (by show ([.ref 171, .int (I1 2000000 (nI k + 1).toNatClampNeg), .int (I1 2000000 (nI k + 2).toNatClampNeg)] : List Value) = [.ref 171, .int (I 2000000 (nI k + 1).toNatClampNeg), .int (I 2000000 (nI k + 2).toNatClampNeg)]; first | rfl | rw [hx]) (h2 x s1 hS I1 J1 P1 hC1 hM1)) hI_ST) (Nat.le_refl _) (fun r u hq => ?_)⟩
  obtain ⟨⟨I2, J2, P2, rfl, rfl, hC2, hM2⟩, hg⟩ := hq
  have hl2 : I2 2000001 0 = nI n := (congrFun (show I2 2000001 = I1 2000001 from hg.2.2) 0).trans hl1
  refine gT_n 1 ?_
  refine ⟨fun _ => hK s1 I2 J2 P2 hO1 hC2 hM2 hl2, fun c => absurd rfl c⟩
theorem w_undigest {n k : Nat} {s : zS} {I : Nat → Nat → Int32} {J : Nat → Nat → Int64} {P : Nat → Nat} (hn2 : n ≤ 2048) (hkn : k + 4 ≤ n) (hl : I 2000001 0 = nI n) (hO : sOK s) (hC : RC s I J P) (hM : RM s I J) (hK : ∀ s' I' J' P', sOK s' → RC s' I' J' P' → RM s' I' J' → I' 2000001 0 = nI n → gT 15 0 1109 [(3, .int (nI k)), (2, .ref 171), (1, .ref 0), (0, .ref 2000000)] [] (213, 2135) (gST I' J' P') (fun r _ => r = some (.int 1))) : gT 15 0 908 [(3, .int (nI k)), (2, .ref 171), (1, .ref 0), (0, .ref 2000000)] [] (213, 2135) (gST I J P) (fun r _ => r = some (.int 1)) := by
  obtain ⟨Sp, h1, h2⟩ := t_undigest (a := I 2000000 (nI k + 1).toNatClampNeg) (b := I 2000000 (nI k + 2).toNatClampNeg) s I J P hO hC hM
  refine gT_n 12 ?_
  refine ⟨rfl, (pk_inS (m := n) (k := k + 1) (hm := by omega) (lw_ln hn2 hl) (by omega) (nI_1 k)), rfl, (pk_inS (m := n) (k := k + 2) (hm := by omega) (lw_ln hn2 hl) (by omega) (nI_2 k)), rfl, rfl, gTM.use (gTM_fr h1 hI_ST) (Nat.le_refl _) (fun r u hq => ?_)⟩
  obtain ⟨⟨x, s1, I1, J1, P1, rfl, rfl, ⟨hS, hO1⟩, hC1, hM1⟩, hf⟩ := hq
  have hx : I1 2000000 = I 2000000 := hf.2.1
  have hl1 : I1 2000001 0 = nI n := (congrFun (show I1 2000001 = I 2000001 from hf.2.2) 0).trans hl
  refine gT_n 12 ?_
  refine ⟨rfl, (pk_inS (m := n) (k := k + 1) (hm := by omega) (lw_ln hn2 hl1) (by omega) (nI_1 k)), rfl, (pk_inS (m := n) (k := k + 2) (hm := by omega) (lw_ln hn2 hl1) (by omega) (nI_2 k)), rfl, rfl, gTM.use (gTM_fr (gTM_as (As' := .ref 171 :: [.int (I 2000000 (nI k + 1).toNatClampNeg), .int (I 2000000 (nI k + 2).toNatClampNeg)]) (by show ([.ref 171, .int (I1 2000000 (nI k + 1).toNatClampNeg), .int (I1 2000000 (nI k + 2).toNatClampNeg)] : List Value) = [.ref 171, .int (I 2000000 (nI k + 1).toNatClampNeg), .int (I 2000000 (nI k + 2).toNatClampNeg)]; first | rfl | rw [hx]) (h2 x s1 hS I1 J1 P1 hC1 hM1)) hI_ST) (Nat.le_refl _) (fun r u hq => ?_)⟩
  obtain ⟨⟨I2, J2, P2, rfl, rfl, hC2, hM2⟩, hg⟩ := hq
  have hl2 : I2 2000001 0 = nI n := (congrFun (show I2 2000001 = I1 2000001 from hg.2.2) 0).trans hl1
  refine gT_n 1 ?_
  refine ⟨fun _ => hK s1 I2 J2 P2 hO1 hC2 hM2 hl2, fun c => absurd rfl c⟩
theorem w_why {n k : Nat} {s : zS} {I : Nat → Nat → Int32} {J : Nat → Nat → Int64} {P : Nat → Nat} (hn2 : n ≤ 2048) (hkn : k + 4 ≤ n) (hl : I 2000001 0 = nI n) (hO : sOK s) (hC : RC s I J P) (hM : RM s I J) (hK : ∀ s' I' J' P', sOK s' → RC s' I' J' P' → RM s' I' J' → I' 2000001 0 = nI n → gT 15 0 1109 [(3, .int (nI k)), (2, .ref 171), (1, .ref 0), (0, .ref 2000000)] [] (213, 2135) (gST I' J' P') (fun r _ => r = some (.int 1))) : gT 15 0 941 [(3, .int (nI k)), (2, .ref 171), (1, .ref 0), (0, .ref 2000000)] [] (213, 2135) (gST I J P) (fun r _ => r = some (.int 1)) := by
  obtain ⟨Sp, h1, h2⟩ := t_why (a := I 2000000 (nI k + 1).toNatClampNeg) (b := I 2000000 (nI k + 2).toNatClampNeg) s I J P hO hC hM
  refine gT_n 12 ?_
  refine ⟨rfl, (pk_inS (m := n) (k := k + 1) (hm := by omega) (lw_ln hn2 hl) (by omega) (nI_1 k)), rfl, (pk_inS (m := n) (k := k + 2) (hm := by omega) (lw_ln hn2 hl) (by omega) (nI_2 k)), rfl, rfl, gTM.use (gTM_fr h1 hI_ST) (Nat.le_refl _) (fun r u hq => ?_)⟩
  obtain ⟨⟨x, s1, I1, J1, P1, rfl, rfl, ⟨hS, hO1⟩, hC1, hM1⟩, hf⟩ := hq
  have hx : I1 2000000 = I 2000000 := hf.2.1
  have hl1 : I1 2000001 0 = nI n := (congrFun (show I1 2000001 = I 2000001 from hf.2.2) 0).trans hl
  refine gT_n 12 ?_
  refine ⟨rfl, (pk_inS (m := n) (k := k + 1) (hm := by omega) (lw_ln hn2 hl1) (by omega) (nI_1 k)), rfl, (pk_inS (m := n) (k := k + 2) (hm := by omega) (lw_ln hn2 hl1) (by omega) (nI_2 k)), rfl, rfl, gTM.use (gTM_fr (gTM_as (As' := .ref 171 :: [.int (I 2000000 (nI k + 1).toNatClampNeg), .int (I 2000000 (nI k + 2).toNatClampNeg)]) (by show ([.ref 171, .int (I1 2000000 (nI k + 1).toNatClampNeg), .int (I1 2000000 (nI k + 2).toNatClampNeg)] : List Value) = [.ref 171, .int (I 2000000 (nI k + 1).toNatClampNeg), .int (I 2000000 (nI k + 2).toNatClampNeg)]; first | rfl | rw [hx]) (h2 x s1 hS I1 J1 P1 hC1 hM1)) hI_ST) (Nat.le_refl _) (fun r u hq => ?_)⟩
  obtain ⟨⟨I2, J2, P2, rfl, rfl, hC2, hM2⟩, hg⟩ := hq
  have hl2 : I2 2000001 0 = nI n := (congrFun (show I2 2000001 = I1 2000001 from hg.2.2) 0).trans hl1
  refine gT_n 1 ?_
  refine ⟨fun _ => hK s1 I2 J2 P2 hO1 hC2 hM2 hl2, fun c => absurd rfl c⟩
theorem w_activate {n k : Nat} {s : zS} {I : Nat → Nat → Int32} {J : Nat → Nat → Int64} {P : Nat → Nat} (hn2 : n ≤ 2048) (hkn : k + 4 ≤ n) (hl : I 2000001 0 = nI n) (hO : sOK s) (hC : RC s I J P) (hM : RM s I J) (hK : ∀ s' I' J' P', sOK s' → RC s' I' J' P' → RM s' I' J' → I' 2000001 0 = nI n → gT 15 0 1109 [(3, .int (nI k)), (2, .ref 171), (1, .ref 0), (0, .ref 2000000)] [] (213, 2135) (gST I' J' P') (fun r _ => r = some (.int 1))) : gT 15 0 974 [(3, .int (nI k)), (2, .ref 171), (1, .ref 0), (0, .ref 2000000)] [] (213, 2135) (gST I J P) (fun r _ => r = some (.int 1)) := by
  obtain ⟨Sp, h1, h2⟩ := t_activate (a := I 2000000 (nI k + 1).toNatClampNeg) (b := I 2000000 (nI k + 2).toNatClampNeg) s I J P hO hC hM
  refine gT_n 12 ?_
  refine ⟨rfl, (pk_inS (m := n) (k := k + 1) (hm := by omega) (lw_ln hn2 hl) (by omega) (nI_1 k)), rfl, (pk_inS (m := n) (k := k + 2) (hm := by omega) (lw_ln hn2 hl) (by omega) (nI_2 k)), rfl, rfl, gTM.use (gTM_fr h1 hI_ST) (Nat.le_refl _) (fun r u hq => ?_)⟩
  obtain ⟨⟨x, s1, I1, J1, P1, rfl, rfl, ⟨hS, hO1⟩, hC1, hM1⟩, hf⟩ := hq
  have hx : I1 2000000 = I 2000000 := hf.2.1
  have hl1 : I1 2000001 0 = nI n := (congrFun (show I1 2000001 = I 2000001 from hf.2.2) 0).trans hl
  refine gT_n 12 ?_
  refine ⟨rfl, (pk_inS (m := n) (k := k + 1) (hm := by omega) (lw_ln hn2 hl1) (by omega) (nI_1 k)), rfl, (pk_inS (m := n) (k := k + 2) (hm := by omega) (lw_ln hn2 hl1) (by omega) (nI_2 k)), rfl, rfl, gTM.use (gTM_fr (gTM_as (As' := .ref 171 :: [.int (I 2000000 (nI k + 1).toNatClampNeg), .int (I 2000000 (nI k + 2).toNatClampNeg)]) (by show ([.ref 171, .int (I1 2000000 (nI k + 1).toNatClampNeg), .int (I1 2000000 (nI k + 2).toNatClampNeg)] : List Value) = [.ref 171, .int (I 2000000 (nI k + 1).toNatClampNeg), .int (I 2000000 (nI k + 2).toNatClampNeg)]; first | rfl | rw [hx]) (h2 x s1 hS I1 J1 P1 hC1 hM1)) hI_ST) (Nat.le_refl _) (fun r u hq => ?_)⟩
  obtain ⟨⟨I2, J2, P2, rfl, rfl, hC2, hM2⟩, hg⟩ := hq
  have hl2 : I2 2000001 0 = nI n := (congrFun (show I2 2000001 = I1 2000001 from hg.2.2) 0).trans hl1
  refine gT_n 1 ?_
  refine ⟨fun _ => hK s1 I2 J2 P2 hO1 hC2 hM2 hl2, fun c => absurd rfl c⟩
theorem w_put {n k : Nat} {s : zS} {I : Nat → Nat → Int32} {J : Nat → Nat → Int64} {P : Nat → Nat} (hn2 : n ≤ 2048) (hkn : k + 4 ≤ n) (hl : I 2000001 0 = nI n) (hO : sOK s) (hC : RC s I J P) (hM : RM s I J) (hK : ∀ s' I' J' P', sOK s' → RC s' I' J' P' → RM s' I' J' → I' 2000001 0 = nI n → gT 15 0 1109 [(3, .int (nI k)), (2, .ref 171), (1, .ref 0), (0, .ref 2000000)] [] (213, 2135) (gST I' J' P') (fun r _ => r = some (.int 1))) : gT 15 0 1007 [(3, .int (nI k)), (2, .ref 171), (1, .ref 0), (0, .ref 2000000)] [] (213, 2135) (gST I J P) (fun r _ => r = some (.int 1)) := by
  obtain ⟨Sp, h1, h2⟩ := t_put (a := I 2000000 (nI k + 1).toNatClampNeg) (b := I 2000000 (nI k + 2).toNatClampNeg) s I J P hO hC hM
  refine gT_n 12 ?_
  refine ⟨rfl, (pk_inS (m := n) (k := k + 1) (hm := by omega) (lw_ln hn2 hl) (by omega) (nI_1 k)), rfl, (pk_inS (m := n) (k := k + 2) (hm := by omega) (lw_ln hn2 hl) (by omega) (nI_2 k)), rfl, rfl, gTM.use (gTM_fr h1 hI_ST) (Nat.le_refl _) (fun r u hq => ?_)⟩
  obtain ⟨⟨x, s1, I1, J1, P1, rfl, rfl, ⟨hS, hO1⟩, hC1, hM1⟩, hf⟩ := hq
  have hx : I1 2000000 = I 2000000 := hf.2.1
  have hl1 : I1 2000001 0 = nI n := (congrFun (show I1 2000001 = I 2000001 from hf.2.2) 0).trans hl
  refine gT_n 12 ?_
  refine ⟨rfl, (pk_inS (m := n) (k := k + 1) (hm := by omega) (lw_ln hn2 hl1) (by omega) (nI_1 k)), rfl, (pk_inS (m := n) (k := k + 2) (hm := by omega) (lw_ln hn2 hl1) (by omega) (nI_2 k)), rfl, rfl, gTM.use (gTM_fr (gTM_as (As' := .ref 171 :: [.int (I 2000000 (nI k + 1).toNatClampNeg), .int (I 2000000 (nI k + 2).toNatClampNeg)]) (by show ([.ref 171, .int (I1 2000000 (nI k + 1).toNatClampNeg), .int (I1 2000000 (nI k + 2).toNatClampNeg)] : List Value) = [.ref 171, .int (I 2000000 (nI k + 1).toNatClampNeg), .int (I 2000000 (nI k + 2).toNatClampNeg)]; first | rfl | rw [hx]) (h2 x s1 hS I1 J1 P1 hC1 hM1)) hI_ST) (Nat.le_refl _) (fun r u hq => ?_)⟩
  obtain ⟨⟨I2, J2, P2, rfl, rfl, hC2, hM2⟩, hg⟩ := hq
  have hl2 : I2 2000001 0 = nI n := (congrFun (show I2 2000001 = I1 2000001 from hg.2.2) 0).trans hl1
  refine gT_n 1 ?_
  refine ⟨fun _ => hK s1 I2 J2 P2 hO1 hC2 hM2 hl2, fun c => absurd rfl c⟩
theorem w_remove {n k : Nat} {s : zS} {I : Nat → Nat → Int32} {J : Nat → Nat → Int64} {P : Nat → Nat} (hn2 : n ≤ 2048) (hkn : k + 4 ≤ n) (hl : I 2000001 0 = nI n) (hO : sOK s) (hC : RC s I J P) (hM : RM s I J) (hK : ∀ s' I' J' P', sOK s' → RC s' I' J' P' → RM s' I' J' → I' 2000001 0 = nI n → gT 15 0 1109 [(3, .int (nI k)), (2, .ref 171), (1, .ref 0), (0, .ref 2000000)] [] (213, 2135) (gST I' J' P') (fun r _ => r = some (.int 1))) : gT 15 0 1040 [(3, .int (nI k)), (2, .ref 171), (1, .ref 0), (0, .ref 2000000)] [] (213, 2135) (gST I J P) (fun r _ => r = some (.int 1)) := by
  obtain ⟨Sp, h1, h2⟩ := t_remove (a := I 2000000 (nI k + 1).toNatClampNeg) s I J P hO hC hM
  refine gT_n 7 ?_
  refine ⟨rfl, (pk_inS (m := n) (k := k + 1) (hm := by omega) (lw_ln hn2 hl) (by omega) (nI_1 k)), rfl, rfl, gTM.use (gTM_fr h1 hI_ST) (Nat.le_refl _) (fun r u hq => ?_)⟩
  obtain ⟨⟨x, s1, I1, J1, P1, rfl, rfl, ⟨hS, hO1⟩, hC1, hM1⟩, hf⟩ := hq
  have hx : I1 2000000 = I 2000000 := hf.2.1
  have hl1 : I1 2000001 0 = nI n := (congrFun (show I1 2000001 = I 2000001 from hf.2.2) 0).trans hl
  refine gT_n 7 ?_
  refine ⟨rfl, (pk_inS (m := n) (k := k + 1) (hm := by omega) (lw_ln hn2 hl1) (by omega) (nI_1 k)), rfl, rfl, gTM.use (gTM_fr (gTM_as (As' := .ref 171 :: [.int (I 2000000 (nI k + 1).toNatClampNeg)]) (by show ([.ref 171, .int (I1 2000000 (nI k + 1).toNatClampNeg)] : List Value) = [.ref 171, .int (I 2000000 (nI k + 1).toNatClampNeg)]; first | rfl | rw [hx]) (h2 x s1 hS I1 J1 P1 hC1 hM1)) hI_ST) (Nat.le_refl _) (fun r u hq => ?_)⟩
  obtain ⟨⟨I2, J2, P2, rfl, rfl, hC2, hM2⟩, hg⟩ := hq
  have hl2 : I2 2000001 0 = nI n := (congrFun (show I2 2000001 = I1 2000001 from hg.2.2) 0).trans hl1
  refine gT_n 1 ?_
  refine ⟨fun _ => hK s1 I2 J2 P2 hO1 hC2 hM2 hl2, fun c => absurd rfl c⟩
theorem w_keep {n k : Nat} {s : zS} {I : Nat → Nat → Int32} {J : Nat → Nat → Int64} {P : Nat → Nat} (hn2 : n ≤ 2048) (hkn : k + 4 ≤ n) (hl : I 2000001 0 = nI n) (hO : sOK s) (hC : RC s I J P) (hM : RM s I J) (hK : ∀ s' I' J' P', sOK s' → RC s' I' J' P' → RM s' I' J' → I' 2000001 0 = nI n → gT 15 0 1109 [(3, .int (nI k)), (2, .ref 171), (1, .ref 0), (0, .ref 2000000)] [] (213, 2135) (gST I' J' P') (fun r _ => r = some (.int 1))) : gT 15 0 1063 [(3, .int (nI k)), (2, .ref 171), (1, .ref 0), (0, .ref 2000000)] [] (213, 2135) (gST I J P) (fun r _ => r = some (.int 1)) := by
  obtain ⟨Sp, h1, h2⟩ := t_keep (a := I 2000000 (nI k + 1).toNatClampNeg) s I J P hO hC hM
  refine gT_n 7 ?_
  refine ⟨rfl, (pk_inS (m := n) (k := k + 1) (hm := by omega) (lw_ln hn2 hl) (by omega) (nI_1 k)), rfl, rfl, gTM.use (gTM_fr h1 hI_ST) (Nat.le_refl _) (fun r u hq => ?_)⟩
  obtain ⟨⟨x, s1, I1, J1, P1, rfl, rfl, ⟨hS, hO1⟩, hC1, hM1⟩, hf⟩ := hq
  have hx : I1 2000000 = I 2000000 := hf.2.1
  have hl1 : I1 2000001 0 = nI n := (congrFun (show I1 2000001 = I 2000001 from hf.2.2) 0).trans hl
  refine gT_n 7 ?_
  refine ⟨rfl, (pk_inS (m := n) (k := k + 1) (hm := by omega) (lw_ln hn2 hl1) (by omega) (nI_1 k)), rfl, rfl, gTM.use (gTM_fr (gTM_as (As' := .ref 171 :: [.int (I 2000000 (nI k + 1).toNatClampNeg)]) (by show ([.ref 171, .int (I1 2000000 (nI k + 1).toNatClampNeg)] : List Value) = [.ref 171, .int (I 2000000 (nI k + 1).toNatClampNeg)]; first | rfl | rw [hx]) (h2 x s1 hS I1 J1 P1 hC1 hM1)) hI_ST) (Nat.le_refl _) (fun r u hq => ?_)⟩
  obtain ⟨⟨I2, J2, P2, rfl, rfl, hC2, hM2⟩, hg⟩ := hq
  have hl2 : I2 2000001 0 = nI n := (congrFun (show I2 2000001 = I1 2000001 from hg.2.2) 0).trans hl1
  refine gT_n 1 ?_
  refine ⟨fun _ => hK s1 I2 J2 P2 hO1 hC2 hM2 hl2, fun c => absurd rfl c⟩
theorem w_back {n k : Nat} {s : zS} {I : Nat → Nat → Int32} {J : Nat → Nat → Int64} {P : Nat → Nat} (hn2 : n ≤ 2048) (hkn : k + 4 ≤ n) (hl : I 2000001 0 = nI n) (hO : sOK s) (hC : RC s I J P) (hM : RM s I J) (hK : ∀ s' I' J' P', sOK s' → RC s' I' J' P' → RM s' I' J' → I' 2000001 0 = nI n → gT 15 0 1109 [(3, .int (nI k)), (2, .ref 171), (1, .ref 0), (0, .ref 2000000)] [] (213, 2135) (gST I' J' P') (fun r _ => r = some (.int 1))) : gT 15 0 1086 [(3, .int (nI k)), (2, .ref 171), (1, .ref 0), (0, .ref 2000000)] [] (213, 2135) (gST I J P) (fun r _ => r = some (.int 1)) := by
  obtain ⟨Sp, h1, h2⟩ := t_back (a := I 2000000 (nI k + 1).toNatClampNeg) s I J P hO hC hM
  refine gT_n 7 ?_
  refine ⟨rfl, (pk_inS (m := n) (k := k + 1) (hm := by omega) (lw_ln hn2 hl) (by omega) (nI_1 k)), rfl, rfl, gTM.use (gTM_fr h1 hI_ST) (Nat.le_refl _) (fun r u hq => ?_)⟩
  obtain ⟨⟨x, s1, I1, J1, P1, rfl, rfl, ⟨hS, hO1⟩, hC1, hM1⟩, hf⟩ := hq
  have hx : I1 2000000 = I 2000000 := hf.2.1
  have hl1 : I1 2000001 0 = nI n := (congrFun (show I1 2000001 = I 2000001 from hf.2.2) 0).trans hl
  refine gT_n 7 ?_
  refine ⟨rfl, (pk_inS (m := n) (k := k + 1) (hm := by omega) (lw_ln hn2 hl1) (by omega) (nI_1 k)), rfl, rfl, gTM.use (gTM_fr (gTM_as (As' := .ref 171 :: [.int (I 2000000 (nI k + 1).toNatClampNeg)]) (by show ([.ref 171, .int (I1 2000000 (nI k + 1).toNatClampNeg)] : List Value) = [.ref 171, .int (I 2000000 (nI k + 1).toNatClampNeg)]; first | rfl | rw [hx]) (h2 x s1 hS I1 J1 P1 hC1 hM1)) hI_ST) (Nat.le_refl _) (fun r u hq => ?_)⟩
  obtain ⟨⟨I2, J2, P2, rfl, rfl, hC2, hM2⟩, hg⟩ := hq
  have hl2 : I2 2000001 0 = nI n := (congrFun (show I2 2000001 = I1 2000001 from hg.2.2) 0).trans hl1
  refine gT_n 1 ?_
  refine ⟨fun _ => hK s1 I2 J2 P2 hO1 hC2 hM2 hl2, fun c => absurd rfl c⟩
theorem lw_c {n k : Nat} (hn : n ≤ 2048) (hk : k ≤ 4000) : nI n - 4 < nI k ↔ n < k + 4 := by
  have e1 : (nI n).toInt = n := nI_toInt (by omega)
  have e2 : (nI k).toInt = k := nI_toInt (by omega)
  rw [Int32.lt_iff_toInt_lt, Int32.toInt_sub, e1, e2, show (4 : Int32).toInt = 4 from rfl]
  rw [Int.bmod_eq_of_le (by omega) (by omega)]
  omega
theorem w_loop {n : Nat} (hn2 : n ≤ 2048) : ∀ m k, n < k + m → k ≤ 2048 → ∀ s I J P, sOK s → RC s I J P → RM s I J → I 2000001 0 = nI n → gT 15 0 18 [(3, .int (nI k)), (2, .ref 171), (1, .ref 0), (0, .ref 2000000)] [] (213, 2135) (gST I J P) (fun r _ => r = some (.int 1)) := by
  intro m
  induction m with
  | zero =>
    intro k hk hk2 s I J P hO hC hM hl
    refine gT_n 5 ?_
    refine ⟨rfl, ?_⟩
    refine gT_n 1 ?_
    refine px_gt (X := nI k) (Y := nI n - 4) rfl (congrArg (fun z => z - 4) hl) (fun _ => ?_) (fun h => absurd ((lw_c hn2 (by omega)).mpr (by omega)) h)
    refine gT_n 2 ?_
    exact ⟨Or.inr rfl, rfl⟩
  | succ m ih =>
    intro k hk hk2 s I J P hO hC hM hl
    refine gT_n 5 ?_
    refine ⟨rfl, ?_⟩
    refine gT_n 1 ?_
    refine px_gt (X := nI k) (Y := nI n - 4) rfl (congrArg (fun z => z - 4) hl) (fun _ => ?_) (fun h => ?_)
    · refine gT_n 2 ?_
      exact ⟨Or.inr rfl, rfl⟩
    · have hkn : k + 4 ≤ n := by
        rcases Nat.lt_or_ge n (k + 4) with g | g
        · exact absurd ((lw_c hn2 (by omega)).mpr g) h
        · exact g
      have hK : ∀ s' I' J' P', sOK s' → RC s' I' J' P' → RM s' I' J' → I' 2000001 0 = nI n → gT 15 0 1109 [(3, .int (nI k)), (2, .ref 171), (1, .ref 0), (0, .ref 2000000)] [] (213, 2135) (gST I' J' P') (fun r _ => r = some (.int 1)) := fun s' I' J' P' hO' hC' hM' hl' => by
        refine gT_n 2 ?_
        exact gT_k (ih (k + 4) (by omega) (by omega) s' I' J' P' hO' hC' hM' hl') ⟨viI (nI_4 k), rfl, rfl, rfl, trivial⟩ rfl
      refine gT_n 6 ?_
      refine ⟨rfl, (pk_inS (m := n) (k := k) (hm := by omega) (lw_ln hn2 hl) (by omega) rfl), ?_⟩
      refine ⟨fun _ => ?_, fun _ => ⟨fun _ => ?_, fun _ => ⟨fun _ => ?_, fun _ => ⟨fun _ => ?_, fun _ => ⟨fun _ => ?_, fun _ => ⟨fun _ => ?_, fun _ => ⟨fun _ => ?_, fun _ => ⟨fun _ => ?_, fun _ => ⟨fun _ => ?_, fun _ => ⟨fun _ => ?_, fun _ => ⟨fun _ => ?_, fun _ => ⟨fun _ => ?_, fun _ => ⟨fun _ => ?_, fun _ => ⟨fun _ => ?_, fun _ => ⟨fun _ => ?_, fun _ => ⟨fun _ => ?_, fun _ => ⟨fun _ => ?_, fun _ => ⟨fun _ => ?_, fun _ => ⟨fun _ => ?_, fun _ => ⟨fun _ => ?_, fun _ => ⟨fun _ => ?_, fun _ => ⟨fun _ => ?_, fun _ => ⟨fun _ => ?_, fun _ => ⟨fun _ => ?_, fun _ => ⟨fun _ => ?_, fun _ => ⟨fun _ => ?_, fun _ => ⟨fun _ => ?_, fun _ => ⟨fun _ => ?_, fun _ => ⟨fun _ => ?_, fun _ => ⟨fun _ => ?_, fun _ => ⟨fun _ => ?_, fun _ => ⟨fun _ => ?_, fun _ => ⟨fun _ => ?_, fun _ => ?_⟩⟩⟩⟩⟩⟩⟩⟩⟩⟩⟩⟩⟩⟩⟩⟩⟩⟩⟩⟩⟩⟩⟩⟩⟩⟩⟩⟩⟩⟩⟩⟩⟩
      · exact gT_k (w_feed hn2 hkn hl hO hC hM hK) ⟨rfl, rfl, rfl, rfl, trivial⟩ rfl
      · exact gT_k (w_end hn2 hkn hl hO hC hM hK) ⟨rfl, rfl, rfl, rfl, trivial⟩ rfl
      · exact gT_k (w_text hn2 hkn hl hO hC hM hK) ⟨rfl, rfl, rfl, rfl, trivial⟩ rfl
      · exact gT_k (w_fault hn2 hkn hl hO hC hM hK) ⟨rfl, rfl, rfl, rfl, trivial⟩ rfl
      · exact gT_k (w_label hn2 hkn hl hO hC hM hK) ⟨rfl, rfl, rfl, rfl, trivial⟩ rfl
      · exact gT_k (w_up hn2 hkn hl hO hC hM hK) ⟨rfl, rfl, rfl, rfl, trivial⟩ rfl
      · exact gT_k (w_owner hn2 hkn hl hO hC hM hK) ⟨rfl, rfl, rfl, rfl, trivial⟩ rfl
      · exact gT_k (w_name hn2 hkn hl hO hC hM hK) ⟨rfl, rfl, rfl, rfl, trivial⟩ rfl
      · exact gT_k (w_letter hn2 hkn hl hO hC hM hK) ⟨rfl, rfl, rfl, rfl, trivial⟩ rfl
      · exact gT_k (w_zone hn2 hkn hl hO hC hM hK) ⟨rfl, rfl, rfl, rfl, trivial⟩ rfl
      · exact gT_k (w_key hn2 hkn hl hO hC hM hK) ⟨rfl, rfl, rfl, rfl, trivial⟩ rfl
      · exact gT_k (w_rule hn2 hkn hl hO hC hM hK) ⟨rfl, rfl, rfl, rfl, trivial⟩ rfl
      · exact gT_k (w_answer hn2 hkn hl hO hC hM hK) ⟨rfl, rfl, rfl, rfl, trivial⟩ rfl
      · exact gT_k (w_ask hn2 hkn hl hO hC hM hK) ⟨rfl, rfl, rfl, rfl, trivial⟩ rfl
      · exact gT_k (w_item hn2 hkn hl hO hC hM hK) ⟨rfl, rfl, rfl, rfl, trivial⟩ rfl
      · exact gT_k (w_lose hn2 hkn hl hO hC hM hK) ⟨rfl, rfl, rfl, rfl, trivial⟩ rfl
      · exact gT_k (w_alter hn2 hkn hl hO hC hM hK) ⟨rfl, rfl, rfl, rfl, trivial⟩ rfl
      · exact gT_k (w_rename hn2 hkn hl hO hC hM hK) ⟨rfl, rfl, rfl, rfl, trivial⟩ rfl
      · exact gT_k (w_sign hn2 hkn hl hO hC hM hK) ⟨rfl, rfl, rfl, rfl, trivial⟩ rfl
      · exact gT_k (w_check hn2 hkn hl hO hC hM hK) ⟨rfl, rfl, rfl, rfl, trivial⟩ rfl
      · exact gT_k (w_checked hn2 hkn hl hO hC hM hK) ⟨rfl, rfl, rfl, rfl, trivial⟩ rfl
      · exact gT_k (w_entry hn2 hkn hl hO hC hM hK) ⟨rfl, rfl, rfl, rfl, trivial⟩ rfl
      · exact gT_k (w_tick hn2 hkn hl hO hC hM hK) ⟨rfl, rfl, rfl, rfl, trivial⟩ rfl
      · exact gT_k (w_publish hn2 hkn hl hO hC hM hK) ⟨rfl, rfl, rfl, rfl, trivial⟩ rfl
      · exact gT_k (w_retire hn2 hkn hl hO hC hM hK) ⟨rfl, rfl, rfl, rfl, trivial⟩ rfl
      · exact gT_k (w_digest hn2 hkn hl hO hC hM hK) ⟨rfl, rfl, rfl, rfl, trivial⟩ rfl
      · exact gT_k (w_undigest hn2 hkn hl hO hC hM hK) ⟨rfl, rfl, rfl, rfl, trivial⟩ rfl
      · exact gT_k (w_why hn2 hkn hl hO hC hM hK) ⟨rfl, rfl, rfl, rfl, trivial⟩ rfl
      · exact gT_k (w_activate hn2 hkn hl hO hC hM hK) ⟨rfl, rfl, rfl, rfl, trivial⟩ rfl
      · exact gT_k (w_put hn2 hkn hl hO hC hM hK) ⟨rfl, rfl, rfl, rfl, trivial⟩ rfl
      · exact gT_k (w_remove hn2 hkn hl hO hC hM hK) ⟨rfl, rfl, rfl, rfl, trivial⟩ rfl
      · exact gT_k (w_keep hn2 hkn hl hO hC hM hK) ⟨rfl, rfl, rfl, rfl, trivial⟩ rfl
      · exact gT_k (w_back hn2 hkn hl hO hC hM hK) ⟨rfl, rfl, rfl, rfl, trivial⟩ rfl
      · exact gT_k (hK s I J P hO hC hM hl) ⟨rfl, rfl, rfl, rfl, trivial⟩ rfl
