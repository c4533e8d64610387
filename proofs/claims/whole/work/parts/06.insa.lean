/-! EACH INSTRUCTION OF MY TABLES is the code's, and its numbers are as they should be. -/
def gchk (y pc : Nat) (q : gI) : Bool := match q with
  | (i, len, a, b, c, kv, kl, tab) => match i with
    | .iconst n => len == 1 && decide (Int32.ofInt n = kv)
    | .bipush n => len == 2 && decide ((Int8.ofInt n).toInt32 = kv)
    | .sipush n => len == 3 && decide ((Int16.ofInt n).toInt32 = kv)
    | .lconst n => len == 1 && decide (Int64.ofNat (n : Nat) = kl)
    | .ldc n => len == 2 && decide ((g_own y, n, a) ∈ g_sr)
    | .ldc_w n => len == 3 && decide ((g_own y, n, kv) ∈ g_ki)
    | .ldc2_w n => len == 3 && decide ((g_own y, n, kl) ∈ g_kl)
    | .iload_n n => len == 1 && (n : Nat) == a
    | .lload_n n => len == 1 && (n : Nat) == a
    | .aload_n n => len == 1 && (n : Nat) == a
    | .istore_n n => len == 1 && ((n : Nat) == a && Nat.ble (a + 1) (g_mL y))
    | .lstore_n n => len == 1 && ((n : Nat) == a && Nat.ble (a + 2) (g_mL y))
    | .astore_n n => len == 1 && ((n : Nat) == a && Nat.ble (a + 1) (g_mL y))
    | .iload n => len == 2 && n == a
    | .lload n => len == 2 && n == a
    | .aload n => len == 2 && n == a
    | .istore n => len == 2 && (n == a && Nat.ble (a + 1) (g_mL y))
    | .lstore n => len == 2 && (n == a && Nat.ble (a + 2) (g_mL y))
    | .astore n => len == 2 && (n == a && Nat.ble (a + 1) (g_mL y))
    | .iinc n z => len == 3 && (n == a && (decide (Int32.ofInt z = kv) && Nat.ble (a + 1) (g_mL y)))
    | .ifCond _ off => len == 3 && decide ((pc : Int) + off = (a : Int))
    | .if_icmp _ off => len == 3 && decide ((pc : Int) + off = (a : Int))
    | .goto off => len == 3 && decide ((pc : Int) + off = (a : Int))
    | .tableswitch dflt lo hi offs => decide ((pc : Int) + dflt = (a : Int)) && (decide (hi = lo + (tab.length : Int) - 1) && decide ((List.range tab.length).all (fun j => decide ((tab.getD j (0, 0)).1.toInt = lo + (j : Int)) && decide (offs[j]?.map (fun z => (pc : Int) + z) = some ((tab.getD j (0, 0)).2 : Int))) = true))
    | .lookupswitch dflt ps => decide ((pc : Int) + dflt = (a : Int)) && (decide (tab.map (fun z => (z.1.toInt, (z.2 : Int))) = ps.toList.map (fun z => (z.1, (pc : Int) + z.2))) && (ps.toList.zip (ps.toList.drop 1)).all (fun (z, next) => z.1 < next.1))
    | .getfield n => len == 3 && decide ((g_own y, n, a, b) ∈ g_fl)
    | .putfield n => len == 3 && (decide ((g_own y, n, a, b) ∈ g_fl) && (!((g_C a).2.1 b).2.2.2 || (g_md y == 2 && g_own y == a)))
    | .new n => len == 3 && decide ((g_own y, n, a) ∈ g_cl)
    | .newarray t => len == 2 && (match t with
      | .int => a == 0
      | .long => a == 1
      | .byte => a == 2
      | .boolean => a == 3
      | _ => false)
    | .anewarray n => len == 3 && (decide ((g_own y, n, a) ∈ g_an) && (a == 5 || (a == 6 || a == 7)))
    | .multianewarray n k => len == 4 && (decide ((g_own y, n, a) ∈ g_an) && (k == 2 && a == 4))
    | .invokevirtual n => len == 3 && (match b with
      | 1 => decide ((g_own y, n, a) ∈ g_ml) && g_md a == 1
      | 22 => decide ((g_own y, n) ∈ g_slen)
      | 23 => decide ((g_own y, n) ∈ g_schr)
      | _ => false)
    | .invokespecial n => len == 3 && (match b with
      | 2 => decide ((g_own y, n, a) ∈ g_ml) && g_md a == 2
      | 12 => decide ((g_own y, n, a) ∈ g_nst) && g_md a == 2
      | 20 => decide ((g_own y, n) ∈ g_oi)
      | _ => false)
    | .invokestatic n => len == 3 && (match b with
      | 0 => decide ((g_own y, n, a) ∈ g_ml) && g_md a == 0
      | 10 => decide ((g_own y, n, a) ∈ g_nst) && g_md a == 0
      | 21 => decide ((g_own y, n) ∈ g_cp)
      | _ => false)
    | _ => len == 1
def gqc (y : Nat) (q : Nat × gI) : Bool := decide (decode (g_code y) q.1 = .ok (q.2.1, q.2.2.1)) && gchk y q.1 q.2
def gchkM (y : Nat) : Bool := (g_tabs y).all (fun l => l.all (gqc y))
set_option maxRecDepth 100000 in
theorem gq_0_0 : gi_0_0.all (gqc 0) = true := by decide +kernel
set_option maxRecDepth 100000 in
theorem gq_0_1 : gi_0_1.all (gqc 0) = true := by decide +kernel
set_option maxRecDepth 100000 in
theorem gq_0_2 : gi_0_2.all (gqc 0) = true := by decide +kernel
set_option maxRecDepth 100000 in
theorem gq_0_3 : gi_0_3.all (gqc 0) = true := by decide +kernel
set_option maxRecDepth 100000 in
theorem gq_0_4 : gi_0_4.all (gqc 0) = true := by decide +kernel
set_option maxRecDepth 100000 in
theorem gq_0_5 : gi_0_5.all (gqc 0) = true := by decide +kernel
set_option maxRecDepth 100000 in
theorem gq_0_6 : gi_0_6.all (gqc 0) = true := by decide +kernel
set_option maxRecDepth 100000 in
theorem gq_0_7 : gi_0_7.all (gqc 0) = true := by decide +kernel
set_option maxRecDepth 100000 in
theorem gq_0_8 : gi_0_8.all (gqc 0) = true := by decide +kernel
set_option maxRecDepth 100000 in
theorem gq_0_9 : gi_0_9.all (gqc 0) = true := by decide +kernel
set_option maxRecDepth 100000 in
theorem gq_0_10 : gi_0_10.all (gqc 0) = true := by decide +kernel
set_option maxRecDepth 100000 in
theorem gq_0_11 : gi_0_11.all (gqc 0) = true := by decide +kernel
set_option maxRecDepth 100000 in
theorem gq_0_12 : gi_0_12.all (gqc 0) = true := by decide +kernel
set_option maxRecDepth 100000 in
theorem gq_0_13 : gi_0_13.all (gqc 0) = true := by decide +kernel
set_option maxRecDepth 100000 in
theorem gq_0_14 : gi_0_14.all (gqc 0) = true := by decide +kernel
set_option maxRecDepth 100000 in
theorem gq_0_15 : gi_0_15.all (gqc 0) = true := by decide +kernel
set_option maxRecDepth 100000 in
theorem gq_0_16 : gi_0_16.all (gqc 0) = true := by decide +kernel
set_option maxRecDepth 100000 in
theorem gq_0_17 : gi_0_17.all (gqc 0) = true := by decide +kernel
set_option maxRecDepth 100000 in
theorem gq_0_18 : gi_0_18.all (gqc 0) = true := by decide +kernel
set_option maxRecDepth 100000 in
theorem gq_0_19 : gi_0_19.all (gqc 0) = true := by decide +kernel
set_option maxRecDepth 100000 in
theorem gq_0_20 : gi_0_20.all (gqc 0) = true := by decide +kernel
set_option maxRecDepth 100000 in
theorem gq_0_21 : gi_0_21.all (gqc 0) = true := by decide +kernel
set_option maxRecDepth 100000 in
theorem gq_0_22 : gi_0_22.all (gqc 0) = true := by decide +kernel
set_option maxRecDepth 100000 in
theorem gq_0_23 : gi_0_23.all (gqc 0) = true := by decide +kernel
set_option maxRecDepth 100000 in
theorem gq_0_24 : gi_0_24.all (gqc 0) = true := by decide +kernel
set_option maxRecDepth 100000 in
theorem gq_0_25 : gi_0_25.all (gqc 0) = true := by decide +kernel
set_option maxRecDepth 100000 in
theorem gq_0_26 : gi_0_26.all (gqc 0) = true := by decide +kernel
set_option maxRecDepth 100000 in
theorem gq_0_27 : gi_0_27.all (gqc 0) = true := by decide +kernel
set_option maxRecDepth 100000 in
theorem gq_0_28 : gi_0_28.all (gqc 0) = true := by decide +kernel
set_option maxRecDepth 100000 in
theorem gq_0_29 : gi_0_29.all (gqc 0) = true := by decide +kernel
set_option maxRecDepth 100000 in
theorem gq_0_30 : gi_0_30.all (gqc 0) = true := by decide +kernel
set_option maxRecDepth 100000 in
theorem gq_0_31 : gi_0_31.all (gqc 0) = true := by decide +kernel
set_option maxRecDepth 100000 in
theorem gq_0_32 : gi_0_32.all (gqc 0) = true := by decide +kernel
set_option maxRecDepth 100000 in
theorem gq_0_33 : gi_0_33.all (gqc 0) = true := by decide +kernel
set_option maxRecDepth 100000 in
theorem gq_0_34 : gi_0_34.all (gqc 0) = true := by decide +kernel
theorem gqm_0 : ∀ l ∈ gi_0, l.all (gqc 0) = true := (List.forall_mem_cons.mpr ⟨gq_0_0, (List.forall_mem_cons.mpr ⟨gq_0_1, (List.forall_mem_cons.mpr ⟨gq_0_2, (List.forall_mem_cons.mpr ⟨gq_0_3, (List.forall_mem_cons.mpr ⟨gq_0_4, (List.forall_mem_cons.mpr ⟨gq_0_5, (List.forall_mem_cons.mpr ⟨gq_0_6, (List.forall_mem_cons.mpr ⟨gq_0_7, (List.forall_mem_cons.mpr ⟨gq_0_8, (List.forall_mem_cons.mpr ⟨gq_0_9, (List.forall_mem_cons.mpr ⟨gq_0_10, (List.forall_mem_cons.mpr ⟨gq_0_11, (List.forall_mem_cons.mpr ⟨gq_0_12, (List.forall_mem_cons.mpr ⟨gq_0_13, (List.forall_mem_cons.mpr ⟨gq_0_14, (List.forall_mem_cons.mpr ⟨gq_0_15, (List.forall_mem_cons.mpr ⟨gq_0_16, (List.forall_mem_cons.mpr ⟨gq_0_17, (List.forall_mem_cons.mpr ⟨gq_0_18, (List.forall_mem_cons.mpr ⟨gq_0_19, (List.forall_mem_cons.mpr ⟨gq_0_20, (List.forall_mem_cons.mpr ⟨gq_0_21, (List.forall_mem_cons.mpr ⟨gq_0_22, (List.forall_mem_cons.mpr ⟨gq_0_23, (List.forall_mem_cons.mpr ⟨gq_0_24, (List.forall_mem_cons.mpr ⟨gq_0_25, (List.forall_mem_cons.mpr ⟨gq_0_26, (List.forall_mem_cons.mpr ⟨gq_0_27, (List.forall_mem_cons.mpr ⟨gq_0_28, (List.forall_mem_cons.mpr ⟨gq_0_29, (List.forall_mem_cons.mpr ⟨gq_0_30, (List.forall_mem_cons.mpr ⟨gq_0_31, (List.forall_mem_cons.mpr ⟨gq_0_32, (List.forall_mem_cons.mpr ⟨gq_0_33, (List.forall_mem_cons.mpr ⟨gq_0_34, (fun _ h => absurd h List.not_mem_nil)⟩)⟩)⟩)⟩)⟩)⟩)⟩)⟩)⟩)⟩)⟩)⟩)⟩)⟩)⟩)⟩)⟩)⟩)⟩)⟩)⟩)⟩)⟩)⟩)⟩)⟩)⟩)⟩)⟩)⟩)⟩)⟩)⟩)⟩)⟩)
set_option maxRecDepth 100000 in
theorem gq_1_0 : gi_1_0.all (gqc 1) = true := by decide +kernel
set_option maxRecDepth 100000 in
theorem gq_1_1 : gi_1_1.all (gqc 1) = true := by decide +kernel
theorem gqm_1 : ∀ l ∈ gi_1, l.all (gqc 1) = true := (List.forall_mem_cons.mpr ⟨gq_1_0, (List.forall_mem_cons.mpr ⟨gq_1_1, (fun _ h => absurd h List.not_mem_nil)⟩)⟩)
set_option maxRecDepth 100000 in
theorem gq_2_0 : gi_2_0.all (gqc 2) = true := by decide +kernel
theorem gqm_2 : ∀ l ∈ gi_2, l.all (gqc 2) = true := (List.forall_mem_cons.mpr ⟨gq_2_0, (fun _ h => absurd h List.not_mem_nil)⟩)
set_option maxRecDepth 100000 in
theorem gq_3_0 : gi_3_0.all (gqc 3) = true := by decide +kernel
theorem gqm_3 : ∀ l ∈ gi_3, l.all (gqc 3) = true := (List.forall_mem_cons.mpr ⟨gq_3_0, (fun _ h => absurd h List.not_mem_nil)⟩)
set_option maxRecDepth 100000 in
theorem gq_4_0 : gi_4_0.all (gqc 4) = true := by decide +kernel
set_option maxRecDepth 100000 in
theorem gq_4_1 : gi_4_1.all (gqc 4) = true := by decide +kernel
theorem gqm_4 : ∀ l ∈ gi_4, l.all (gqc 4) = true := (List.forall_mem_cons.mpr ⟨gq_4_0, (List.forall_mem_cons.mpr ⟨gq_4_1, (fun _ h => absurd h List.not_mem_nil)⟩)⟩)
set_option maxRecDepth 100000 in
theorem gq_5_0 : gi_5_0.all (gqc 5) = true := by decide +kernel
set_option maxRecDepth 100000 in
theorem gq_5_1 : gi_5_1.all (gqc 5) = true := by decide +kernel
theorem gqm_5 : ∀ l ∈ gi_5, l.all (gqc 5) = true := (List.forall_mem_cons.mpr ⟨gq_5_0, (List.forall_mem_cons.mpr ⟨gq_5_1, (fun _ h => absurd h List.not_mem_nil)⟩)⟩)
set_option maxRecDepth 100000 in
theorem gq_6_0 : gi_6_0.all (gqc 6) = true := by decide +kernel
set_option maxRecDepth 100000 in
theorem gq_6_1 : gi_6_1.all (gqc 6) = true := by decide +kernel
set_option maxRecDepth 100000 in
theorem gq_6_2 : gi_6_2.all (gqc 6) = true := by decide +kernel
theorem gqm_6 : ∀ l ∈ gi_6, l.all (gqc 6) = true := (List.forall_mem_cons.mpr ⟨gq_6_0, (List.forall_mem_cons.mpr ⟨gq_6_1, (List.forall_mem_cons.mpr ⟨gq_6_2, (fun _ h => absurd h List.not_mem_nil)⟩)⟩)⟩)
set_option maxRecDepth 100000 in
theorem gq_7_0 : gi_7_0.all (gqc 7) = true := by decide +kernel
set_option maxRecDepth 100000 in
theorem gq_7_1 : gi_7_1.all (gqc 7) = true := by decide +kernel
set_option maxRecDepth 100000 in
theorem gq_7_2 : gi_7_2.all (gqc 7) = true := by decide +kernel
set_option maxRecDepth 100000 in
theorem gq_7_3 : gi_7_3.all (gqc 7) = true := by decide +kernel
theorem gqm_7 : ∀ l ∈ gi_7, l.all (gqc 7) = true := (List.forall_mem_cons.mpr ⟨gq_7_0, (List.forall_mem_cons.mpr ⟨gq_7_1, (List.forall_mem_cons.mpr ⟨gq_7_2, (List.forall_mem_cons.mpr ⟨gq_7_3, (fun _ h => absurd h List.not_mem_nil)⟩)⟩)⟩)⟩)
set_option maxRecDepth 100000 in
theorem gq_8_0 : gi_8_0.all (gqc 8) = true := by decide +kernel
set_option maxRecDepth 100000 in
theorem gq_8_1 : gi_8_1.all (gqc 8) = true := by decide +kernel
set_option maxRecDepth 100000 in
theorem gq_8_2 : gi_8_2.all (gqc 8) = true := by decide +kernel
set_option maxRecDepth 100000 in
theorem gq_8_3 : gi_8_3.all (gqc 8) = true := by decide +kernel
theorem gqm_8 : ∀ l ∈ gi_8, l.all (gqc 8) = true := (List.forall_mem_cons.mpr ⟨gq_8_0, (List.forall_mem_cons.mpr ⟨gq_8_1, (List.forall_mem_cons.mpr ⟨gq_8_2, (List.forall_mem_cons.mpr ⟨gq_8_3, (fun _ h => absurd h List.not_mem_nil)⟩)⟩)⟩)⟩)
set_option maxRecDepth 100000 in
theorem gq_9_0 : gi_9_0.all (gqc 9) = true := by decide +kernel
set_option maxRecDepth 100000 in
theorem gq_9_1 : gi_9_1.all (gqc 9) = true := by decide +kernel
set_option maxRecDepth 100000 in
theorem gq_9_2 : gi_9_2.all (gqc 9) = true := by decide +kernel
theorem gqm_9 : ∀ l ∈ gi_9, l.all (gqc 9) = true := (List.forall_mem_cons.mpr ⟨gq_9_0, (List.forall_mem_cons.mpr ⟨gq_9_1, (List.forall_mem_cons.mpr ⟨gq_9_2, (fun _ h => absurd h List.not_mem_nil)⟩)⟩)⟩)
set_option maxRecDepth 100000 in
theorem gq_10_0 : gi_10_0.all (gqc 10) = true := by decide +kernel
theorem gqm_10 : ∀ l ∈ gi_10, l.all (gqc 10) = true := (List.forall_mem_cons.mpr ⟨gq_10_0, (fun _ h => absurd h List.not_mem_nil)⟩)
set_option maxRecDepth 100000 in
theorem gq_11_0 : gi_11_0.all (gqc 11) = true := by decide +kernel
set_option maxRecDepth 100000 in
theorem gq_11_1 : gi_11_1.all (gqc 11) = true := by decide +kernel
theorem gqm_11 : ∀ l ∈ gi_11, l.all (gqc 11) = true := (List.forall_mem_cons.mpr ⟨gq_11_0, (List.forall_mem_cons.mpr ⟨gq_11_1, (fun _ h => absurd h List.not_mem_nil)⟩)⟩)
set_option maxRecDepth 100000 in
theorem gq_12_0 : gi_12_0.all (gqc 12) = true := by decide +kernel
set_option maxRecDepth 100000 in
theorem gq_12_1 : gi_12_1.all (gqc 12) = true := by decide +kernel
set_option maxRecDepth 100000 in
theorem gq_12_2 : gi_12_2.all (gqc 12) = true := by decide +kernel
theorem gqm_12 : ∀ l ∈ gi_12, l.all (gqc 12) = true := (List.forall_mem_cons.mpr ⟨gq_12_0, (List.forall_mem_cons.mpr ⟨gq_12_1, (List.forall_mem_cons.mpr ⟨gq_12_2, (fun _ h => absurd h List.not_mem_nil)⟩)⟩)⟩)
set_option maxRecDepth 100000 in
theorem gq_13_0 : gi_13_0.all (gqc 13) = true := by decide +kernel
theorem gqm_13 : ∀ l ∈ gi_13, l.all (gqc 13) = true := (List.forall_mem_cons.mpr ⟨gq_13_0, (fun _ h => absurd h List.not_mem_nil)⟩)
set_option maxRecDepth 100000 in
theorem gq_14_0 : gi_14_0.all (gqc 14) = true := by decide +kernel
set_option maxRecDepth 100000 in
theorem gq_14_1 : gi_14_1.all (gqc 14) = true := by decide +kernel
set_option maxRecDepth 100000 in
theorem gq_14_2 : gi_14_2.all (gqc 14) = true := by decide +kernel
theorem gqm_14 : ∀ l ∈ gi_14, l.all (gqc 14) = true := (List.forall_mem_cons.mpr ⟨gq_14_0, (List.forall_mem_cons.mpr ⟨gq_14_1, (List.forall_mem_cons.mpr ⟨gq_14_2, (fun _ h => absurd h List.not_mem_nil)⟩)⟩)⟩)
set_option maxRecDepth 100000 in
theorem gq_15_0 : gi_15_0.all (gqc 15) = true := by decide +kernel
theorem gqm_15 : ∀ l ∈ gi_15, l.all (gqc 15) = true := (List.forall_mem_cons.mpr ⟨gq_15_0, (fun _ h => absurd h List.not_mem_nil)⟩)
set_option maxRecDepth 100000 in
theorem gq_16_0 : gi_16_0.all (gqc 16) = true := by decide +kernel
theorem gqm_16 : ∀ l ∈ gi_16, l.all (gqc 16) = true := (List.forall_mem_cons.mpr ⟨gq_16_0, (fun _ h => absurd h List.not_mem_nil)⟩)
set_option maxRecDepth 100000 in
theorem gq_17_0 : gi_17_0.all (gqc 17) = true := by decide +kernel
theorem gqm_17 : ∀ l ∈ gi_17, l.all (gqc 17) = true := (List.forall_mem_cons.mpr ⟨gq_17_0, (fun _ h => absurd h List.not_mem_nil)⟩)
set_option maxRecDepth 100000 in
theorem gq_18_0 : gi_18_0.all (gqc 18) = true := by decide +kernel
set_option maxRecDepth 100000 in
theorem gq_18_1 : gi_18_1.all (gqc 18) = true := by decide +kernel
theorem gqm_18 : ∀ l ∈ gi_18, l.all (gqc 18) = true := (List.forall_mem_cons.mpr ⟨gq_18_0, (List.forall_mem_cons.mpr ⟨gq_18_1, (fun _ h => absurd h List.not_mem_nil)⟩)⟩)
set_option maxRecDepth 100000 in
theorem gq_19_0 : gi_19_0.all (gqc 19) = true := by decide +kernel
set_option maxRecDepth 100000 in
theorem gq_19_1 : gi_19_1.all (gqc 19) = true := by decide +kernel
set_option maxRecDepth 100000 in
theorem gq_19_2 : gi_19_2.all (gqc 19) = true := by decide +kernel
set_option maxRecDepth 100000 in
theorem gq_19_3 : gi_19_3.all (gqc 19) = true := by decide +kernel
theorem gqm_19 : ∀ l ∈ gi_19, l.all (gqc 19) = true := (List.forall_mem_cons.mpr ⟨gq_19_0, (List.forall_mem_cons.mpr ⟨gq_19_1, (List.forall_mem_cons.mpr ⟨gq_19_2, (List.forall_mem_cons.mpr ⟨gq_19_3, (fun _ h => absurd h List.not_mem_nil)⟩)⟩)⟩)⟩)
set_option maxRecDepth 100000 in
theorem gq_20_0 : gi_20_0.all (gqc 20) = true := by decide +kernel
set_option maxRecDepth 100000 in
theorem gq_20_1 : gi_20_1.all (gqc 20) = true := by decide +kernel
set_option maxRecDepth 100000 in
theorem gq_20_2 : gi_20_2.all (gqc 20) = true := by decide +kernel
theorem gqm_20 : ∀ l ∈ gi_20, l.all (gqc 20) = true := (List.forall_mem_cons.mpr ⟨gq_20_0, (List.forall_mem_cons.mpr ⟨gq_20_1, (List.forall_mem_cons.mpr ⟨gq_20_2, (fun _ h => absurd h List.not_mem_nil)⟩)⟩)⟩)
set_option maxRecDepth 100000 in
theorem gq_21_0 : gi_21_0.all (gqc 21) = true := by decide +kernel
theorem gqm_21 : ∀ l ∈ gi_21, l.all (gqc 21) = true := (List.forall_mem_cons.mpr ⟨gq_21_0, (fun _ h => absurd h List.not_mem_nil)⟩)
set_option maxRecDepth 100000 in
theorem gq_22_0 : gi_22_0.all (gqc 22) = true := by decide +kernel
set_option maxRecDepth 100000 in
theorem gq_22_1 : gi_22_1.all (gqc 22) = true := by decide +kernel
theorem gqm_22 : ∀ l ∈ gi_22, l.all (gqc 22) = true := (List.forall_mem_cons.mpr ⟨gq_22_0, (List.forall_mem_cons.mpr ⟨gq_22_1, (fun _ h => absurd h List.not_mem_nil)⟩)⟩)
set_option maxRecDepth 100000 in
theorem gq_23_0 : gi_23_0.all (gqc 23) = true := by decide +kernel
theorem gqm_23 : ∀ l ∈ gi_23, l.all (gqc 23) = true := (List.forall_mem_cons.mpr ⟨gq_23_0, (fun _ h => absurd h List.not_mem_nil)⟩)
set_option maxRecDepth 100000 in
theorem gq_24_0 : gi_24_0.all (gqc 24) = true := by decide +kernel
theorem gqm_24 : ∀ l ∈ gi_24, l.all (gqc 24) = true := (List.forall_mem_cons.mpr ⟨gq_24_0, (fun _ h => absurd h List.not_mem_nil)⟩)
set_option maxRecDepth 100000 in
theorem gq_25_0 : gi_25_0.all (gqc 25) = true := by decide +kernel
theorem gqm_25 : ∀ l ∈ gi_25, l.all (gqc 25) = true := (List.forall_mem_cons.mpr ⟨gq_25_0, (fun _ h => absurd h List.not_mem_nil)⟩)
set_option maxRecDepth 100000 in
theorem gq_26_0 : gi_26_0.all (gqc 26) = true := by decide +kernel
set_option maxRecDepth 100000 in
theorem gq_26_1 : gi_26_1.all (gqc 26) = true := by decide +kernel
set_option maxRecDepth 100000 in
theorem gq_26_2 : gi_26_2.all (gqc 26) = true := by decide +kernel
theorem gqm_26 : ∀ l ∈ gi_26, l.all (gqc 26) = true := (List.forall_mem_cons.mpr ⟨gq_26_0, (List.forall_mem_cons.mpr ⟨gq_26_1, (List.forall_mem_cons.mpr ⟨gq_26_2, (fun _ h => absurd h List.not_mem_nil)⟩)⟩)⟩)
set_option maxRecDepth 100000 in
theorem gq_27_0 : gi_27_0.all (gqc 27) = true := by decide +kernel
set_option maxRecDepth 100000 in
theorem gq_27_1 : gi_27_1.all (gqc 27) = true := by decide +kernel
set_option maxRecDepth 100000 in
theorem gq_27_2 : gi_27_2.all (gqc 27) = true := by decide +kernel
theorem gqm_27 : ∀ l ∈ gi_27, l.all (gqc 27) = true := (List.forall_mem_cons.mpr ⟨gq_27_0, (List.forall_mem_cons.mpr ⟨gq_27_1, (List.forall_mem_cons.mpr ⟨gq_27_2, (fun _ h => absurd h List.not_mem_nil)⟩)⟩)⟩)
set_option maxRecDepth 100000 in
theorem gq_28_0 : gi_28_0.all (gqc 28) = true := by decide +kernel
set_option maxRecDepth 100000 in
theorem gq_28_1 : gi_28_1.all (gqc 28) = true := by decide +kernel
theorem gqm_28 : ∀ l ∈ gi_28, l.all (gqc 28) = true := (List.forall_mem_cons.mpr ⟨gq_28_0, (List.forall_mem_cons.mpr ⟨gq_28_1, (fun _ h => absurd h List.not_mem_nil)⟩)⟩)
set_option maxRecDepth 100000 in
theorem gq_29_0 : gi_29_0.all (gqc 29) = true := by decide +kernel
theorem gqm_29 : ∀ l ∈ gi_29, l.all (gqc 29) = true := (List.forall_mem_cons.mpr ⟨gq_29_0, (fun _ h => absurd h List.not_mem_nil)⟩)
set_option maxRecDepth 100000 in
theorem gq_30_0 : gi_30_0.all (gqc 30) = true := by decide +kernel
theorem gqm_30 : ∀ l ∈ gi_30, l.all (gqc 30) = true := (List.forall_mem_cons.mpr ⟨gq_30_0, (fun _ h => absurd h List.not_mem_nil)⟩)
set_option maxRecDepth 100000 in
theorem gq_31_0 : gi_31_0.all (gqc 31) = true := by decide +kernel
theorem gqm_31 : ∀ l ∈ gi_31, l.all (gqc 31) = true := (List.forall_mem_cons.mpr ⟨gq_31_0, (fun _ h => absurd h List.not_mem_nil)⟩)
set_option maxRecDepth 100000 in
theorem gq_32_0 : gi_32_0.all (gqc 32) = true := by decide +kernel
theorem gqm_32 : ∀ l ∈ gi_32, l.all (gqc 32) = true := (List.forall_mem_cons.mpr ⟨gq_32_0, (fun _ h => absurd h List.not_mem_nil)⟩)
set_option maxRecDepth 100000 in
theorem gq_33_0 : gi_33_0.all (gqc 33) = true := by decide +kernel
theorem gqm_33 : ∀ l ∈ gi_33, l.all (gqc 33) = true := (List.forall_mem_cons.mpr ⟨gq_33_0, (fun _ h => absurd h List.not_mem_nil)⟩)
set_option maxRecDepth 100000 in
theorem gq_34_0 : gi_34_0.all (gqc 34) = true := by decide +kernel
set_option maxRecDepth 100000 in
theorem gq_34_1 : gi_34_1.all (gqc 34) = true := by decide +kernel
set_option maxRecDepth 100000 in
theorem gq_34_2 : gi_34_2.all (gqc 34) = true := by decide +kernel
theorem gqm_34 : ∀ l ∈ gi_34, l.all (gqc 34) = true := (List.forall_mem_cons.mpr ⟨gq_34_0, (List.forall_mem_cons.mpr ⟨gq_34_1, (List.forall_mem_cons.mpr ⟨gq_34_2, (fun _ h => absurd h List.not_mem_nil)⟩)⟩)⟩)
set_option maxRecDepth 100000 in
theorem gq_35_0 : gi_35_0.all (gqc 35) = true := by decide +kernel
theorem gqm_35 : ∀ l ∈ gi_35, l.all (gqc 35) = true := (List.forall_mem_cons.mpr ⟨gq_35_0, (fun _ h => absurd h List.not_mem_nil)⟩)
set_option maxRecDepth 100000 in
theorem gq_36_0 : gi_36_0.all (gqc 36) = true := by decide +kernel
set_option maxRecDepth 100000 in
theorem gq_36_1 : gi_36_1.all (gqc 36) = true := by decide +kernel
theorem gqm_36 : ∀ l ∈ gi_36, l.all (gqc 36) = true := (List.forall_mem_cons.mpr ⟨gq_36_0, (List.forall_mem_cons.mpr ⟨gq_36_1, (fun _ h => absurd h List.not_mem_nil)⟩)⟩)
set_option maxRecDepth 100000 in
theorem gq_37_0 : gi_37_0.all (gqc 37) = true := by decide +kernel
theorem gqm_37 : ∀ l ∈ gi_37, l.all (gqc 37) = true := (List.forall_mem_cons.mpr ⟨gq_37_0, (fun _ h => absurd h List.not_mem_nil)⟩)
set_option maxRecDepth 100000 in
theorem gq_38_0 : gi_38_0.all (gqc 38) = true := by decide +kernel
set_option maxRecDepth 100000 in
theorem gq_38_1 : gi_38_1.all (gqc 38) = true := by decide +kernel
set_option maxRecDepth 100000 in
theorem gq_38_2 : gi_38_2.all (gqc 38) = true := by decide +kernel
set_option maxRecDepth 100000 in
theorem gq_38_3 : gi_38_3.all (gqc 38) = true := by decide +kernel
set_option maxRecDepth 100000 in
theorem gq_38_4 : gi_38_4.all (gqc 38) = true := by decide +kernel
set_option maxRecDepth 100000 in
theorem gq_38_5 : gi_38_5.all (gqc 38) = true := by decide +kernel
theorem gqm_38 : ∀ l ∈ gi_38, l.all (gqc 38) = true := (List.forall_mem_cons.mpr ⟨gq_38_0, (List.forall_mem_cons.mpr ⟨gq_38_1, (List.forall_mem_cons.mpr ⟨gq_38_2, (List.forall_mem_cons.mpr ⟨gq_38_3, (List.forall_mem_cons.mpr ⟨gq_38_4, (List.forall_mem_cons.mpr ⟨gq_38_5, (fun _ h => absurd h List.not_mem_nil)⟩)⟩)⟩)⟩)⟩)⟩)
set_option maxRecDepth 100000 in
theorem gq_39_0 : gi_39_0.all (gqc 39) = true := by decide +kernel
set_option maxRecDepth 100000 in
theorem gq_39_1 : gi_39_1.all (gqc 39) = true := by decide +kernel
set_option maxRecDepth 100000 in
theorem gq_39_2 : gi_39_2.all (gqc 39) = true := by decide +kernel
set_option maxRecDepth 100000 in
theorem gq_39_3 : gi_39_3.all (gqc 39) = true := by decide +kernel
theorem gqm_39 : ∀ l ∈ gi_39, l.all (gqc 39) = true := (List.forall_mem_cons.mpr ⟨gq_39_0, (List.forall_mem_cons.mpr ⟨gq_39_1, (List.forall_mem_cons.mpr ⟨gq_39_2, (List.forall_mem_cons.mpr ⟨gq_39_3, (fun _ h => absurd h List.not_mem_nil)⟩)⟩)⟩)⟩)
set_option maxRecDepth 100000 in
theorem gq_40_0 : gi_40_0.all (gqc 40) = true := by decide +kernel
theorem gqm_40 : ∀ l ∈ gi_40, l.all (gqc 40) = true := (List.forall_mem_cons.mpr ⟨gq_40_0, (fun _ h => absurd h List.not_mem_nil)⟩)
set_option maxRecDepth 100000 in
theorem gq_41_0 : gi_41_0.all (gqc 41) = true := by decide +kernel
theorem gqm_41 : ∀ l ∈ gi_41, l.all (gqc 41) = true := (List.forall_mem_cons.mpr ⟨gq_41_0, (fun _ h => absurd h List.not_mem_nil)⟩)
set_option maxRecDepth 100000 in
theorem gq_42_0 : gi_42_0.all (gqc 42) = true := by decide +kernel
theorem gqm_42 : ∀ l ∈ gi_42, l.all (gqc 42) = true := (List.forall_mem_cons.mpr ⟨gq_42_0, (fun _ h => absurd h List.not_mem_nil)⟩)
set_option maxRecDepth 100000 in
theorem gq_43_0 : gi_43_0.all (gqc 43) = true := by decide +kernel
theorem gqm_43 : ∀ l ∈ gi_43, l.all (gqc 43) = true := (List.forall_mem_cons.mpr ⟨gq_43_0, (fun _ h => absurd h List.not_mem_nil)⟩)
set_option maxRecDepth 100000 in
theorem gq_44_0 : gi_44_0.all (gqc 44) = true := by decide +kernel
theorem gqm_44 : ∀ l ∈ gi_44, l.all (gqc 44) = true := (List.forall_mem_cons.mpr ⟨gq_44_0, (fun _ h => absurd h List.not_mem_nil)⟩)
set_option maxRecDepth 100000 in
theorem gq_45_0 : gi_45_0.all (gqc 45) = true := by decide +kernel
set_option maxRecDepth 100000 in
theorem gq_45_1 : gi_45_1.all (gqc 45) = true := by decide +kernel
theorem gqm_45 : ∀ l ∈ gi_45, l.all (gqc 45) = true := (List.forall_mem_cons.mpr ⟨gq_45_0, (List.forall_mem_cons.mpr ⟨gq_45_1, (fun _ h => absurd h List.not_mem_nil)⟩)⟩)
set_option maxRecDepth 100000 in
theorem gq_46_0 : gi_46_0.all (gqc 46) = true := by decide +kernel
theorem gqm_46 : ∀ l ∈ gi_46, l.all (gqc 46) = true := (List.forall_mem_cons.mpr ⟨gq_46_0, (fun _ h => absurd h List.not_mem_nil)⟩)
set_option maxRecDepth 100000 in
theorem gq_47_0 : gi_47_0.all (gqc 47) = true := by decide +kernel
set_option maxRecDepth 100000 in
theorem gq_47_1 : gi_47_1.all (gqc 47) = true := by decide +kernel
set_option maxRecDepth 100000 in
theorem gq_47_2 : gi_47_2.all (gqc 47) = true := by decide +kernel
theorem gqm_47 : ∀ l ∈ gi_47, l.all (gqc 47) = true := (List.forall_mem_cons.mpr ⟨gq_47_0, (List.forall_mem_cons.mpr ⟨gq_47_1, (List.forall_mem_cons.mpr ⟨gq_47_2, (fun _ h => absurd h List.not_mem_nil)⟩)⟩)⟩)
set_option maxRecDepth 100000 in
theorem gq_48_0 : gi_48_0.all (gqc 48) = true := by decide +kernel
theorem gqm_48 : ∀ l ∈ gi_48, l.all (gqc 48) = true := (List.forall_mem_cons.mpr ⟨gq_48_0, (fun _ h => absurd h List.not_mem_nil)⟩)
