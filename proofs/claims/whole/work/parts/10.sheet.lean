/-! Sheets, the teller, members of the JDK. -/
def fillM (M : MM) (c : Nat) (v : Int32) (k : Nat) : MM := fun a i => if a = c ∧ i < k then v else M a i
theorem fillM_0 (M : MM) (c : Nat) (v : Int32) : fillM M c v 0 = M := by
  funext a i
  simp [fillM]
theorem fillM_s (M : MM) (c : Nat) (v : Int32) (k : Nat) : fillM M c v (k + 1) = upM (fillM M c v k) c k v := by
  funext a i
  simp only [fillM, upM]
  by_cases h : a = c ∧ i = k
  · rw [if_pos ⟨h.1, by omega⟩, if_pos h]
  · rw [if_neg h]
    by_cases h2 : a = c ∧ i < k
    · rw [if_pos h2, if_pos ⟨h2.1, by omega⟩]
    · rw [if_neg h2, if_neg (by omega)]
def hcB (len i n : Int32) : Bool := decide (0 ≤ i) && (decide (i ≤ len) && (decide (0 ≤ n) && decide (n ≤ len - i)))
def fltM (f : Nat → Int32) (ln i n : Int32) : Int32 := if f 1 = 0 then 1 else if ¬ ln = f 2 then 2 else if n < 0 then 4 else if hcB (f 3) i n = true then 0 else 3
def cutM (ln v : Int32) : Int32 := if ln = 0 then v.toInt8.toInt32 else if ln = 1 then v.toInt16.toInt32 else v
def jbc1 (x : Int32) : Int32 := x - ((x.toUInt32 >>> ((1 : Int32).toUInt32 &&& Int32.toUInt32 31)).toInt32 &&& 1431655765)
def jbc2 (x : Int32) : Int32 := (x &&& 858993459) + ((x.toUInt32 >>> ((2 : Int32).toUInt32 &&& Int32.toUInt32 31)).toInt32 &&& 858993459)
def jbc3 (x : Int32) : Int32 := (x + (x.toUInt32 >>> ((4 : Int32).toUInt32 &&& Int32.toUInt32 31)).toInt32) &&& 252645135
def jbc4 (x : Int32) : Int32 := x + (x.toUInt32 >>> ((8 : Int32).toUInt32 &&& Int32.toUInt32 31)).toInt32
def jbc5 (x : Int32) : Int32 := x + (x.toUInt32 >>> ((16 : Int32).toUInt32 &&& Int32.toUInt32 31)).toInt32
def jbc (x : Int32) : Int32 := jbc5 (jbc4 (jbc3 (jbc2 (jbc1 x)))) &&& 63
def pop : Nat → Nat → Nat
  | 0, _ => 0
  | k + 1, s => pop k s + (s / 2 ^ k) % 2
theorem jbc_pop : ∀ s, s < 64 → jbc (i3 s) = i3 (pop 6 s) := by decide +kernel
theorem d_jA_fill_0 : decode c_jA_fill 0 = .ok (.iconst 0, 1) := by decide +kernel
theorem d_jA_fill_1 : decode c_jA_fill 1 = .ok (.istore_n 2, 1) := by decide +kernel
theorem d_jA_fill_2 : decode c_jA_fill 2 = .ok (.aload_n 0, 1) := by decide +kernel
theorem d_jA_fill_3 : decode c_jA_fill 3 = .ok (.arraylength, 1) := by decide +kernel
theorem d_jA_fill_4 : decode c_jA_fill 4 = .ok (.istore_n 3, 1) := by decide +kernel
theorem d_jA_fill_5 : decode c_jA_fill 5 = .ok (.iload_n 2, 1) := by decide +kernel
theorem d_jA_fill_6 : decode c_jA_fill 6 = .ok (.iload_n 3, 1) := by decide +kernel
theorem d_jA_fill_7 : decode c_jA_fill 7 = .ok (.if_icmp .ge 13, 3) := by decide +kernel
theorem d_jA_fill_10 : decode c_jA_fill 10 = .ok (.aload_n 0, 1) := by decide +kernel
theorem d_jA_fill_11 : decode c_jA_fill 11 = .ok (.iload_n 2, 1) := by decide +kernel
theorem d_jA_fill_12 : decode c_jA_fill 12 = .ok (.iload_n 1, 1) := by decide +kernel
theorem d_jA_fill_13 : decode c_jA_fill 13 = .ok (.iastore, 1) := by decide +kernel
theorem d_jA_fill_14 : decode c_jA_fill 14 = .ok (.iinc 2 1, 3) := by decide +kernel
theorem d_jA_fill_17 : decode c_jA_fill 17 = .ok (.goto (-12), 3) := by decide +kernel
theorem d_jA_fill_20 : decode c_jA_fill 20 = .ok (.return_, 1) := by decide +kernel
theorem C_jA_fill {M : MM} {c : Nat} {v : Int32} (hc : SH[c]? = some (1, 60)) : AF y_jA_fill c_jA_fill 4 none 1 [vR c, vI v] (M) (none) (fillM M c v 60) := by
  refine AF.of k_jA_fill (lo := [some (vR c), some (vI v), none, none]) rfl (Nat.le_of_ble_eq_true rfl) (fun X hX hR => ?_)
  refine v_iconst (pc := 0) (v := 0) hX (by decide) d_jA_fill_0 ?_
  refine v_istore_n (pc := 1) (lo' := [some (vR _), some (vI _), some (vI _), none]) hX (Nat.le_of_ble_eq_true rfl) rfl d_jA_fill_1 ?_
  refine v_aload_n (pc := 2) hX rfl d_jA_fill_2 ?_
  refine g_alen (pc := 3) hX (by assumption) (by decide) rfl d_jA_fill_3 ?_
  refine v_istore_n (pc := 4) (lo' := [some (vR _), some (vI _), some (vI _), some (vI _)]) hX (Nat.le_of_ble_eq_true rfl) rfl d_jA_fill_4 ?_
  refine VW.cast (lo' := [some (vR c), some (vI v), some (vI (i3 0)), some (vI (i3 60))]) (st' := []) (G' := gM (fillM M c v 0)) rfl rfl (by rw [fillM_0]) ?_
  refine v_for (X := X) (head := 5) (60) (fun kk => [some (vR c), some (vI v), some (vI (i3 kk)), some (vI (i3 60))]) (fun kk => fillM M c v kk) (fun k hk ih5 => ?_) ?_
  · show VW X 5 [some (vR c), some (vI v), some (vI (i3 k)), some (vI (i3 60))] [] (gM (fillM M c v k))
    refine v_iload_n (pc := 5) hX rfl d_jA_fill_5 ?_
    refine v_iload_n (pc := 6) hX rfl d_jA_fill_6 ?_
    refine v_icmp_ge (pc := 7) (tgt := 20) hX d_jA_fill_7 rfl (fun h7 => False.elim (i3_ge_abs hk (by decide) h7)) (fun h7 => ?_)
    refine v_aload_n (pc := 10) hX rfl d_jA_fill_10 ?_
    refine v_iload_n (pc := 11) hX rfl d_jA_fill_11 ?_
    refine v_iload_n (pc := 12) hX rfl d_jA_fill_12 ?_
    refine g_iast (pc := 13) hX (by assumption) (IX.of hk (by decide)) d_jA_fill_13 ?_
    refine v_iinc (pc := 14) (lo' := [some (vR _), some (vI _), some (vI _), some (vI _)]) hX rfl rfl d_jA_fill_14 ?_
    refine v_goto (pc := 17) (tgt := 5) hX d_jA_fill_17 rfl ?_
    exact VW.cast (by rw [i3_succ]; rfl) rfl (by rw [fillM_s]) ih5
  · show VW X 5 [some (vR c), some (vI v), some (vI (i3 (60))), some (vI (i3 60))] [] (gM (fillM M c v (60)))
    refine v_iload_n (pc := 5) hX rfl d_jA_fill_5 ?_
    refine v_iload_n (pc := 6) hX rfl d_jA_fill_6 ?_
    refine v_icmp_ge (pc := 7) (tgt := 20) hX d_jA_fill_7 rfl (fun h7 => ?_) (fun h7 => False.elim (by revert h7; decide))
    exact f_vret (pc := 20) hX hR (rfl) d_jA_fill_20
theorem d_jI_bitCount_0 : decode c_jI_bitCount 0 = .ok (.iload_n 0, 1) := by decide +kernel
theorem d_jI_bitCount_1 : decode c_jI_bitCount 1 = .ok (.iload_n 0, 1) := by decide +kernel
theorem d_jI_bitCount_2 : decode c_jI_bitCount 2 = .ok (.iconst 1, 1) := by decide +kernel
theorem d_jI_bitCount_3 : decode c_jI_bitCount 3 = .ok (.iushr, 1) := by decide +kernel
theorem d_jI_bitCount_4 : decode c_jI_bitCount 4 = .ok (.ldc_w 265, 3) := by decide +kernel
theorem d_jI_bitCount_7 : decode c_jI_bitCount 7 = .ok (.iand, 1) := by decide +kernel
theorem d_jI_bitCount_8 : decode c_jI_bitCount 8 = .ok (.isub, 1) := by decide +kernel
theorem d_jI_bitCount_9 : decode c_jI_bitCount 9 = .ok (.istore_n 0, 1) := by decide +kernel
theorem d_jI_bitCount_10 : decode c_jI_bitCount 10 = .ok (.iload_n 0, 1) := by decide +kernel
theorem d_jI_bitCount_11 : decode c_jI_bitCount 11 = .ok (.ldc_w 266, 3) := by decide +kernel
theorem d_jI_bitCount_14 : decode c_jI_bitCount 14 = .ok (.iand, 1) := by decide +kernel
theorem d_jI_bitCount_15 : decode c_jI_bitCount 15 = .ok (.iload_n 0, 1) := by decide +kernel
theorem d_jI_bitCount_16 : decode c_jI_bitCount 16 = .ok (.iconst 2, 1) := by decide +kernel
theorem d_jI_bitCount_17 : decode c_jI_bitCount 17 = .ok (.iushr, 1) := by decide +kernel
theorem d_jI_bitCount_18 : decode c_jI_bitCount 18 = .ok (.ldc_w 266, 3) := by decide +kernel
theorem d_jI_bitCount_21 : decode c_jI_bitCount 21 = .ok (.iand, 1) := by decide +kernel
theorem d_jI_bitCount_22 : decode c_jI_bitCount 22 = .ok (.iadd, 1) := by decide +kernel
theorem d_jI_bitCount_23 : decode c_jI_bitCount 23 = .ok (.istore_n 0, 1) := by decide +kernel
theorem d_jI_bitCount_24 : decode c_jI_bitCount 24 = .ok (.iload_n 0, 1) := by decide +kernel
theorem d_jI_bitCount_25 : decode c_jI_bitCount 25 = .ok (.iload_n 0, 1) := by decide +kernel
theorem d_jI_bitCount_26 : decode c_jI_bitCount 26 = .ok (.iconst 4, 1) := by decide +kernel
theorem d_jI_bitCount_27 : decode c_jI_bitCount 27 = .ok (.iushr, 1) := by decide +kernel
theorem d_jI_bitCount_28 : decode c_jI_bitCount 28 = .ok (.iadd, 1) := by decide +kernel
theorem d_jI_bitCount_29 : decode c_jI_bitCount 29 = .ok (.ldc_w 267, 3) := by decide +kernel
theorem d_jI_bitCount_32 : decode c_jI_bitCount 32 = .ok (.iand, 1) := by decide +kernel
theorem d_jI_bitCount_33 : decode c_jI_bitCount 33 = .ok (.istore_n 0, 1) := by decide +kernel
theorem d_jI_bitCount_34 : decode c_jI_bitCount 34 = .ok (.iload_n 0, 1) := by decide +kernel
theorem d_jI_bitCount_35 : decode c_jI_bitCount 35 = .ok (.iload_n 0, 1) := by decide +kernel
theorem d_jI_bitCount_36 : decode c_jI_bitCount 36 = .ok (.bipush 8, 2) := by decide +kernel
theorem d_jI_bitCount_38 : decode c_jI_bitCount 38 = .ok (.iushr, 1) := by decide +kernel
theorem d_jI_bitCount_39 : decode c_jI_bitCount 39 = .ok (.iadd, 1) := by decide +kernel
theorem d_jI_bitCount_40 : decode c_jI_bitCount 40 = .ok (.istore_n 0, 1) := by decide +kernel
theorem d_jI_bitCount_41 : decode c_jI_bitCount 41 = .ok (.iload_n 0, 1) := by decide +kernel
theorem d_jI_bitCount_42 : decode c_jI_bitCount 42 = .ok (.iload_n 0, 1) := by decide +kernel
theorem d_jI_bitCount_43 : decode c_jI_bitCount 43 = .ok (.bipush 16, 2) := by decide +kernel
theorem d_jI_bitCount_45 : decode c_jI_bitCount 45 = .ok (.iushr, 1) := by decide +kernel
theorem d_jI_bitCount_46 : decode c_jI_bitCount 46 = .ok (.iadd, 1) := by decide +kernel
theorem d_jI_bitCount_47 : decode c_jI_bitCount 47 = .ok (.istore_n 0, 1) := by decide +kernel
theorem d_jI_bitCount_48 : decode c_jI_bitCount 48 = .ok (.iload_n 0, 1) := by decide +kernel
theorem d_jI_bitCount_49 : decode c_jI_bitCount 49 = .ok (.bipush 63, 2) := by decide +kernel
theorem d_jI_bitCount_51 : decode c_jI_bitCount 51 = .ok (.iand, 1) := by decide +kernel
theorem d_jI_bitCount_52 : decode c_jI_bitCount 52 = .ok (.ireturn, 1) := by decide +kernel
theorem C_jI_bitCount {M : MM} {v : Int32} : AF y_jI_bitCount c_jI_bitCount 1 (some .int) 1 [vI v] (M) (some (vI (jbc v))) (M) := by
  refine AF.of k_jI_bitCount (lo := [some (vI v)]) rfl (Nat.le_of_ble_eq_true rfl) (fun X hX hR => ?_)
  refine v_iload_n (pc := 0) hX rfl d_jI_bitCount_0 ?_
  refine v_iload_n (pc := 1) hX rfl d_jI_bitCount_1 ?_
  refine v_iconst (pc := 2) (v := 1) hX (by decide) d_jI_bitCount_2 ?_
  refine v_iushr (pc := 3) hX d_jI_bitCount_3 ?_
  refine v_ldc_w (pc := 4) hX kc_jI_265 d_jI_bitCount_4 ?_
  refine v_iand (pc := 7) hX d_jI_bitCount_7 ?_
  refine v_isub (pc := 8) hX d_jI_bitCount_8 ?_
  refine v_istore_n (pc := 9) (lo' := [some (vI _)]) hX (Nat.le_of_ble_eq_true rfl) rfl d_jI_bitCount_9 ?_
  refine v_iload_n (pc := 10) hX rfl d_jI_bitCount_10 ?_
  refine v_ldc_w (pc := 11) hX kc_jI_266 d_jI_bitCount_11 ?_
  refine v_iand (pc := 14) hX d_jI_bitCount_14 ?_
  refine v_iload_n (pc := 15) hX rfl d_jI_bitCount_15 ?_
  refine v_iconst (pc := 16) (v := 2) hX (by decide) d_jI_bitCount_16 ?_
  refine v_iushr (pc := 17) hX d_jI_bitCount_17 ?_
  refine v_ldc_w (pc := 18) hX kc_jI_266 d_jI_bitCount_18 ?_
  refine v_iand (pc := 21) hX d_jI_bitCount_21 ?_
  refine v_iadd (pc := 22) hX d_jI_bitCount_22 ?_
  refine v_istore_n (pc := 23) (lo' := [some (vI _)]) hX (Nat.le_of_ble_eq_true rfl) rfl d_jI_bitCount_23 ?_
  refine v_iload_n (pc := 24) hX rfl d_jI_bitCount_24 ?_
  refine v_iload_n (pc := 25) hX rfl d_jI_bitCount_25 ?_
  refine v_iconst (pc := 26) (v := 4) hX (by decide) d_jI_bitCount_26 ?_
  refine v_iushr (pc := 27) hX d_jI_bitCount_27 ?_
  refine v_iadd (pc := 28) hX d_jI_bitCount_28 ?_
  refine v_ldc_w (pc := 29) hX kc_jI_267 d_jI_bitCount_29 ?_
  refine v_iand (pc := 32) hX d_jI_bitCount_32 ?_
  refine v_istore_n (pc := 33) (lo' := [some (vI _)]) hX (Nat.le_of_ble_eq_true rfl) rfl d_jI_bitCount_33 ?_
  refine v_iload_n (pc := 34) hX rfl d_jI_bitCount_34 ?_
  refine v_iload_n (pc := 35) hX rfl d_jI_bitCount_35 ?_
  refine v_bipush (pc := 36) (v := 8) hX (by decide) d_jI_bitCount_36 ?_
  refine v_iushr (pc := 38) hX d_jI_bitCount_38 ?_
  refine v_iadd (pc := 39) hX d_jI_bitCount_39 ?_
  refine v_istore_n (pc := 40) (lo' := [some (vI _)]) hX (Nat.le_of_ble_eq_true rfl) rfl d_jI_bitCount_40 ?_
  refine v_iload_n (pc := 41) hX rfl d_jI_bitCount_41 ?_
  refine v_iload_n (pc := 42) hX rfl d_jI_bitCount_42 ?_
  refine v_bipush (pc := 43) (v := 16) hX (by decide) d_jI_bitCount_43 ?_
  refine v_iushr (pc := 45) hX d_jI_bitCount_45 ?_
  refine v_iadd (pc := 46) hX d_jI_bitCount_46 ?_
  refine v_istore_n (pc := 47) (lo' := [some (vI _)]) hX (Nat.le_of_ble_eq_true rfl) rfl d_jI_bitCount_47 ?_
  refine v_iload_n (pc := 48) hX rfl d_jI_bitCount_48 ?_
  refine v_bipush (pc := 49) (v := 63) hX (by decide) d_jI_bitCount_49 ?_
  refine v_iand (pc := 51) hX d_jI_bitCount_51 ?_
  exact f_iret (pc := 52) hX hR (rfl) (rfl) d_jI_bitCount_52
theorem d_Sh_begin_0 : decode c_Sh_begin 0 = .ok (.aload_n 0, 1) := by decide +kernel
theorem d_Sh_begin_1 : decode c_Sh_begin 1 = .ok (.iconst 1, 1) := by decide +kernel
theorem d_Sh_begin_2 : decode c_Sh_begin 2 = .ok (.putfield 15, 3) := by decide +kernel
theorem d_Sh_begin_5 : decode c_Sh_begin 5 = .ok (.aload_n 0, 1) := by decide +kernel
theorem d_Sh_begin_6 : decode c_Sh_begin 6 = .ok (.iload_n 1, 1) := by decide +kernel
theorem d_Sh_begin_7 : decode c_Sh_begin 7 = .ok (.putfield 19, 3) := by decide +kernel
theorem d_Sh_begin_10 : decode c_Sh_begin 10 = .ok (.aload_n 0, 1) := by decide +kernel
theorem d_Sh_begin_11 : decode c_Sh_begin 11 = .ok (.iload_n 2, 1) := by decide +kernel
theorem d_Sh_begin_12 : decode c_Sh_begin 12 = .ok (.putfield 23, 3) := by decide +kernel
theorem d_Sh_begin_15 : decode c_Sh_begin 15 = .ok (.aload_n 0, 1) := by decide +kernel
theorem d_Sh_begin_16 : decode c_Sh_begin 16 = .ok (.getfield 9, 3) := by decide +kernel
theorem d_Sh_begin_19 : decode c_Sh_begin 19 = .ok (.iconst 0, 1) := by decide +kernel
theorem d_Sh_begin_20 : decode c_Sh_begin 20 = .ok (.invokestatic 26, 3) := by decide +kernel
theorem d_Sh_begin_23 : decode c_Sh_begin 23 = .ok (.return_, 1) := by decide +kernel
theorem C_Sh_begin {M : MM} {r c : Nat} {a b : Int32} (hr : SH[r]? = some (0, 5)) (hn : NF r 0 = c) (hc : SH[c]? = some (1, 60)) : AF y_Sh_begin c_Sh_begin 3 none 2 [vR r, vI a, vI b] (M) (none) (fillM (upM (upM (upM M r 1 1) r 2 a) r 3 b) c 0 60) := by
  refine AF.of k_Sh_begin (lo := [some (vR r), some (vI a), some (vI b)]) rfl (Nat.le_of_ble_eq_true rfl) (fun X hX hR => ?_)
  refine v_aload_n (pc := 0) hX rfl d_Sh_begin_0 ?_
  refine v_iconst (pc := 1) (v := 1) hX (by decide) d_Sh_begin_1 ?_
  refine g_putI (pc := 2) hX fl_Sh_15 rfl (finI rfl rfl) (by assumption) rfl rfl d_Sh_begin_2 ?_
  refine v_aload_n (pc := 5) hX rfl d_Sh_begin_5 ?_
  refine v_iload_n (pc := 6) hX rfl d_Sh_begin_6 ?_
  refine g_putI (pc := 7) hX fl_Sh_19 rfl (finI rfl rfl) (by assumption) rfl rfl d_Sh_begin_7 ?_
  refine v_aload_n (pc := 10) hX rfl d_Sh_begin_10 ?_
  refine v_iload_n (pc := 11) hX rfl d_Sh_begin_11 ?_
  refine g_putI (pc := 12) hX fl_Sh_23 rfl (finI rfl rfl) (by assumption) rfl rfl d_Sh_begin_12 ?_
  refine v_aload_n (pc := 15) hX rfl d_Sh_begin_15 ?_
  refine g_getR (pc := 16) hX fl_Sh_9 rfl (by assumption) (by assumption) d_Sh_begin_16 ?_
  refine v_iconst (pc := 19) (v := 0) hX (by decide) d_Sh_begin_19 ?_
  refine f_callS0 (pc := 20) hX k_jA_fill ks_jA_fill ml_Sh_26 (C_jA_fill (by assumption)) rfl rfl rfl (Nat.le_of_ble_eq_true rfl) (Nat.le_of_ble_eq_true rfl) (Nat.le_of_ble_eq_true rfl) d_Sh_begin_20 ?_
  exact f_vret (pc := 23) hX hR (rfl) d_Sh_begin_23
theorem d_Sh_hasCells_0 : decode c_Sh_hasCells 0 = .ok (.iload_n 1, 1) := by decide +kernel
theorem d_Sh_hasCells_1 : decode c_Sh_hasCells 1 = .ok (.ifCond .lt 29, 3) := by decide +kernel
theorem d_Sh_hasCells_4 : decode c_Sh_hasCells 4 = .ok (.iload_n 1, 1) := by decide +kernel
theorem d_Sh_hasCells_5 : decode c_Sh_hasCells 5 = .ok (.aload_n 0, 1) := by decide +kernel
theorem d_Sh_hasCells_6 : decode c_Sh_hasCells 6 = .ok (.getfield 23, 3) := by decide +kernel
theorem d_Sh_hasCells_9 : decode c_Sh_hasCells 9 = .ok (.if_icmp .gt 21, 3) := by decide +kernel
theorem d_Sh_hasCells_12 : decode c_Sh_hasCells 12 = .ok (.iload_n 2, 1) := by decide +kernel
theorem d_Sh_hasCells_13 : decode c_Sh_hasCells 13 = .ok (.ifCond .lt 17, 3) := by decide +kernel
theorem d_Sh_hasCells_16 : decode c_Sh_hasCells 16 = .ok (.iload_n 2, 1) := by decide +kernel
theorem d_Sh_hasCells_17 : decode c_Sh_hasCells 17 = .ok (.aload_n 0, 1) := by decide +kernel
theorem d_Sh_hasCells_18 : decode c_Sh_hasCells 18 = .ok (.getfield 23, 3) := by decide +kernel
theorem d_Sh_hasCells_21 : decode c_Sh_hasCells 21 = .ok (.iload_n 1, 1) := by decide +kernel
theorem d_Sh_hasCells_22 : decode c_Sh_hasCells 22 = .ok (.isub, 1) := by decide +kernel
theorem d_Sh_hasCells_23 : decode c_Sh_hasCells 23 = .ok (.if_icmp .gt 7, 3) := by decide +kernel
theorem d_Sh_hasCells_26 : decode c_Sh_hasCells 26 = .ok (.iconst 1, 1) := by decide +kernel
theorem d_Sh_hasCells_27 : decode c_Sh_hasCells 27 = .ok (.goto 4, 3) := by decide +kernel
theorem d_Sh_hasCells_30 : decode c_Sh_hasCells 30 = .ok (.iconst 0, 1) := by decide +kernel
theorem d_Sh_hasCells_31 : decode c_Sh_hasCells 31 = .ok (.ireturn, 1) := by decide +kernel
theorem C_Sh_hasCells {M : MM} {r : Nat} {i n : Int32} (hr : SH[r]? = some (0, 5)) : AF y_Sh_hasCells c_Sh_hasCells 3 (some .boolean) 1 [vR r, vI i, vI n] (M) (some (vI (bI (hcB (M r 3) i n)))) (M) := by
  refine AF.of k_Sh_hasCells (lo := [some (vR r), some (vI i), some (vI n)]) rfl (Nat.le_of_ble_eq_true rfl) (fun X hX hR => ?_)
  refine v_iload_n (pc := 0) hX rfl d_Sh_hasCells_0 ?_
  refine v_if_lt (pc := 1) (tgt := 30) hX d_Sh_hasCells_1 rfl (fun h1 => ?_) (fun h1 => ?_)
  · refine v_iconst (pc := 30) (v := 0) hX (by decide) d_Sh_hasCells_30 ?_
    exact f_zret (pc := 31) hX hR (by first | exact bT (by unfold hcB; simp only [Bool.and_eq_true, decide_eq_true_eq]; simp only [Int32.not_lt] at *; exact ⟨by assumption, by assumption, by assumption, by assumption⟩) | exact bF (by unfold hcB; simp only [Bool.and_eq_false_iff, decide_eq_false_iff_not, lt32, le32, q_0] at *; omega)) (rfl) d_Sh_hasCells_31
  · refine v_iload_n (pc := 4) hX rfl d_Sh_hasCells_4 ?_
    refine v_aload_n (pc := 5) hX rfl d_Sh_hasCells_5 ?_
    refine g_getI (pc := 6) hX fl_Sh_23 rfl (by assumption) d_Sh_hasCells_6 ?_
    refine v_icmp_gt (pc := 9) (tgt := 30) hX d_Sh_hasCells_9 rfl (fun h9 => ?_) (fun h9 => ?_)
    · refine v_iconst (pc := 30) (v := 0) hX (by decide) d_Sh_hasCells_30 ?_
      exact f_zret (pc := 31) hX hR (by first | exact bT (by unfold hcB; simp only [Bool.and_eq_true, decide_eq_true_eq]; simp only [Int32.not_lt] at *; exact ⟨by assumption, by assumption, by assumption, by assumption⟩) | exact bF (by unfold hcB; simp only [Bool.and_eq_false_iff, decide_eq_false_iff_not, lt32, le32, q_0] at *; omega)) (rfl) d_Sh_hasCells_31
    · refine v_iload_n (pc := 12) hX rfl d_Sh_hasCells_12 ?_
      refine v_if_lt (pc := 13) (tgt := 30) hX d_Sh_hasCells_13 rfl (fun h13 => ?_) (fun h13 => ?_)
      · refine v_iconst (pc := 30) (v := 0) hX (by decide) d_Sh_hasCells_30 ?_
        exact f_zret (pc := 31) hX hR (by first | exact bT (by unfold hcB; simp only [Bool.and_eq_true, decide_eq_true_eq]; simp only [Int32.not_lt] at *; exact ⟨by assumption, by assumption, by assumption, by assumption⟩) | exact bF (by unfold hcB; simp only [Bool.and_eq_false_iff, decide_eq_false_iff_not, lt32, le32, q_0] at *; omega)) (rfl) d_Sh_hasCells_31
      · refine v_iload_n (pc := 16) hX rfl d_Sh_hasCells_16 ?_
        refine v_aload_n (pc := 17) hX rfl d_Sh_hasCells_17 ?_
        refine g_getI (pc := 18) hX fl_Sh_23 rfl (by assumption) d_Sh_hasCells_18 ?_
        refine v_iload_n (pc := 21) hX rfl d_Sh_hasCells_21 ?_
        refine v_isub (pc := 22) hX d_Sh_hasCells_22 ?_
        refine v_icmp_gt (pc := 23) (tgt := 30) hX d_Sh_hasCells_23 rfl (fun h23 => ?_) (fun h23 => ?_)
        · refine v_iconst (pc := 30) (v := 0) hX (by decide) d_Sh_hasCells_30 ?_
          exact f_zret (pc := 31) hX hR (by first | exact bT (by unfold hcB; simp only [Bool.and_eq_true, decide_eq_true_eq]; simp only [Int32.not_lt] at *; exact ⟨by assumption, by assumption, by assumption, by assumption⟩) | exact bF (by unfold hcB; simp only [Bool.and_eq_false_iff, decide_eq_false_iff_not, lt32, le32, q_0] at *; omega)) (rfl) d_Sh_hasCells_31
        · refine v_iconst (pc := 26) (v := 1) hX (by decide) d_Sh_hasCells_26 ?_
          refine v_goto (pc := 27) (tgt := 31) hX d_Sh_hasCells_27 rfl ?_
          exact f_zret (pc := 31) hX hR (by first | exact bT (by unfold hcB; simp only [Bool.and_eq_true, decide_eq_true_eq]; simp only [Int32.not_lt] at *; exact ⟨by assumption, by assumption, by assumption, by assumption⟩) | exact bF (by unfold hcB; simp only [Bool.and_eq_false_iff, decide_eq_false_iff_not, lt32, le32, q_0] at *; omega)) (rfl) d_Sh_hasCells_31
theorem d_Sh_faultOf_0 : decode c_Sh_faultOf 0 = .ok (.aload_n 0, 1) := by decide +kernel
theorem d_Sh_faultOf_1 : decode c_Sh_faultOf 1 = .ok (.getfield 15, 3) := by decide +kernel
theorem d_Sh_faultOf_4 : decode c_Sh_faultOf 4 = .ok (.ifCond .ne 5, 3) := by decide +kernel
theorem d_Sh_faultOf_7 : decode c_Sh_faultOf 7 = .ok (.iconst 1, 1) := by decide +kernel
theorem d_Sh_faultOf_8 : decode c_Sh_faultOf 8 = .ok (.ireturn, 1) := by decide +kernel
theorem d_Sh_faultOf_9 : decode c_Sh_faultOf 9 = .ok (.iload_n 1, 1) := by decide +kernel
theorem d_Sh_faultOf_10 : decode c_Sh_faultOf 10 = .ok (.aload_n 0, 1) := by decide +kernel
theorem d_Sh_faultOf_11 : decode c_Sh_faultOf 11 = .ok (.getfield 19, 3) := by decide +kernel
theorem d_Sh_faultOf_14 : decode c_Sh_faultOf 14 = .ok (.if_icmp .eq 5, 3) := by decide +kernel
theorem d_Sh_faultOf_17 : decode c_Sh_faultOf 17 = .ok (.iconst 2, 1) := by decide +kernel
theorem d_Sh_faultOf_18 : decode c_Sh_faultOf 18 = .ok (.ireturn, 1) := by decide +kernel
theorem d_Sh_faultOf_19 : decode c_Sh_faultOf 19 = .ok (.iload_n 3, 1) := by decide +kernel
theorem d_Sh_faultOf_20 : decode c_Sh_faultOf 20 = .ok (.ifCond .ge 5, 3) := by decide +kernel
theorem d_Sh_faultOf_23 : decode c_Sh_faultOf 23 = .ok (.iconst 4, 1) := by decide +kernel
theorem d_Sh_faultOf_24 : decode c_Sh_faultOf 24 = .ok (.ireturn, 1) := by decide +kernel
theorem d_Sh_faultOf_25 : decode c_Sh_faultOf 25 = .ok (.aload_n 0, 1) := by decide +kernel
theorem d_Sh_faultOf_26 : decode c_Sh_faultOf 26 = .ok (.iload_n 2, 1) := by decide +kernel
theorem d_Sh_faultOf_27 : decode c_Sh_faultOf 27 = .ok (.iload_n 3, 1) := by decide +kernel
theorem d_Sh_faultOf_28 : decode c_Sh_faultOf 28 = .ok (.invokevirtual 32, 3) := by decide +kernel
theorem d_Sh_faultOf_31 : decode c_Sh_faultOf 31 = .ok (.ifCond .eq 7, 3) := by decide +kernel
theorem d_Sh_faultOf_34 : decode c_Sh_faultOf 34 = .ok (.iconst 0, 1) := by decide +kernel
theorem d_Sh_faultOf_35 : decode c_Sh_faultOf 35 = .ok (.goto 4, 3) := by decide +kernel
theorem d_Sh_faultOf_38 : decode c_Sh_faultOf 38 = .ok (.iconst 3, 1) := by decide +kernel
theorem d_Sh_faultOf_39 : decode c_Sh_faultOf 39 = .ok (.ireturn, 1) := by decide +kernel
theorem C_Sh_faultOf {M : MM} {r : Nat} {a i n : Int32} (hr : SH[r]? = some (0, 5)) : AF y_Sh_faultOf c_Sh_faultOf 4 (some .int) 2 [vR r, vI a, vI i, vI n] (M) (some (vI (fltM (M r) a i n))) (M) := by
  refine AF.of k_Sh_faultOf (lo := [some (vR r), some (vI a), some (vI i), some (vI n)]) rfl (Nat.le_of_ble_eq_true rfl) (fun X hX hR => ?_)
  refine v_aload_n (pc := 0) hX rfl d_Sh_faultOf_0 ?_
  refine g_getI (pc := 1) hX fl_Sh_15 rfl (by assumption) d_Sh_faultOf_1 ?_
  refine v_if_ne (pc := 4) (tgt := 9) hX d_Sh_faultOf_4 rfl (fun h4 => ?_) (fun h4 => ?_)
  · refine v_iload_n (pc := 9) hX rfl d_Sh_faultOf_9 ?_
    refine v_aload_n (pc := 10) hX rfl d_Sh_faultOf_10 ?_
    refine g_getI (pc := 11) hX fl_Sh_19 rfl (by assumption) d_Sh_faultOf_11 ?_
    refine v_icmp_eq (pc := 14) (tgt := 19) hX d_Sh_faultOf_14 rfl (fun h14 => ?_) (fun h14 => ?_)
    · refine v_iload_n (pc := 19) hX rfl d_Sh_faultOf_19 ?_
      refine v_if_ge (pc := 20) (tgt := 25) hX d_Sh_faultOf_20 rfl (fun h20 => ?_) (fun h20 => ?_)
      · refine v_aload_n (pc := 25) hX rfl d_Sh_faultOf_25 ?_
        refine v_iload_n (pc := 26) hX rfl d_Sh_faultOf_26 ?_
        refine v_iload_n (pc := 27) hX rfl d_Sh_faultOf_27 ?_
        refine f_callV (pc := 28) hX k_Sh_hasCells ki_Sh_hasCells kv_Sh_hasCells ml_Sh_32 (C_Sh_hasCells (by assumption)) (by assumption) rfl rfl rfl rfl (Nat.le_of_ble_eq_true rfl) (Nat.le_of_ble_eq_true rfl) (Nat.le_of_ble_eq_true rfl) d_Sh_faultOf_28 ?_
        refine f_ifeqB (pc := 31) (tgt := 38) hX d_Sh_faultOf_31 rfl (fun h31 => ?_) (fun h31 => ?_)
        · refine v_iconst (pc := 38) (v := 3) hX (by decide) d_Sh_faultOf_38 ?_
          exact f_iret (pc := 39) hX hR (by simp_all [fltM, Int32.not_lt]) (rfl) d_Sh_faultOf_39
        · refine v_iconst (pc := 34) (v := 0) hX (by decide) d_Sh_faultOf_34 ?_
          refine v_goto (pc := 35) (tgt := 39) hX d_Sh_faultOf_35 rfl ?_
          exact f_iret (pc := 39) hX hR (by simp_all [fltM, Int32.not_lt]) (rfl) d_Sh_faultOf_39
      · refine v_iconst (pc := 23) (v := 4) hX (by decide) d_Sh_faultOf_23 ?_
        exact f_iret (pc := 24) hX hR (by simp_all [fltM, Int32.not_lt]) (rfl) d_Sh_faultOf_24
    · refine v_iconst (pc := 17) (v := 2) hX (by decide) d_Sh_faultOf_17 ?_
      exact f_iret (pc := 18) hX hR (by simp_all [fltM, Int32.not_lt]) (rfl) d_Sh_faultOf_18
  · refine v_iconst (pc := 7) (v := 1) hX (by decide) d_Sh_faultOf_7 ?_
    exact f_iret (pc := 8) hX hR (by simp_all [fltM, Int32.not_lt]) (rfl) d_Sh_faultOf_8
theorem d_Sh_at_0 : decode c_Sh_at 0 = .ok (.iload_n 1, 1) := by decide +kernel
theorem d_Sh_at_1 : decode c_Sh_at 1 = .ok (.bipush 60, 2) := by decide +kernel
theorem d_Sh_at_3 : decode c_Sh_at 3 = .ok (.invokestatic 36, 3) := by decide +kernel
theorem d_Sh_at_6 : decode c_Sh_at 6 = .ok (.ifCond .eq 12, 3) := by decide +kernel
theorem d_Sh_at_9 : decode c_Sh_at 9 = .ok (.aload_n 0, 1) := by decide +kernel
theorem d_Sh_at_10 : decode c_Sh_at 10 = .ok (.getfield 9, 3) := by decide +kernel
theorem d_Sh_at_13 : decode c_Sh_at 13 = .ok (.iload_n 1, 1) := by decide +kernel
theorem d_Sh_at_14 : decode c_Sh_at 14 = .ok (.iaload, 1) := by decide +kernel
theorem d_Sh_at_15 : decode c_Sh_at 15 = .ok (.goto 4, 3) := by decide +kernel
theorem d_Sh_at_18 : decode c_Sh_at 18 = .ok (.iconst 0, 1) := by decide +kernel
theorem d_Sh_at_19 : decode c_Sh_at 19 = .ok (.ireturn, 1) := by decide +kernel
theorem C_Sh_at {M : MM} {r c : Nat} {j : Nat} (hr : SH[r]? = some (0, 5)) (hn : NF r 0 = c) (hc : SH[c]? = some (1, 60)) (hj : j < 60) : AF y_Sh_at c_Sh_at 2 (some .int) 2 [vR r, vI (i3 j)] (M) (some (vI (M c j))) (M) := by
  refine AF.of k_Sh_at (lo := [some (vR r), some (vI (i3 j))]) rfl (Nat.le_of_ble_eq_true rfl) (fun X hX hR => ?_)
  refine v_iload_n (pc := 0) hX rfl d_Sh_at_0 ?_
  refine v_bipush (pc := 1) (v := 60) hX (by decide) d_Sh_at_1 ?_
  refine f_callN (pc := 3) hX k_LJ_isBelow ks_LJ_isBelow (by decide) (C_LJ_isBelow) rfl rfl rfl (Nat.le_of_ble_eq_true rfl) (Nat.le_of_ble_eq_true rfl) (Nat.le_of_ble_eq_true rfl) d_Sh_at_3 ?_
  refine f_ifeqB (pc := 6) (tgt := 18) hX d_Sh_at_6 rfl (fun h6 => False.elim (absurd h6 (by rw [show rg (i3 j) 0 ((60 : Int32).toInt - 1) = true from rg_i3 (n := 60) hj (by decide)]; decide))) (fun h6 => ?_)
  refine v_aload_n (pc := 9) hX rfl d_Sh_at_9 ?_
  refine g_getR (pc := 10) hX fl_Sh_9 rfl (by assumption) (by assumption) d_Sh_at_10 ?_
  refine v_iload_n (pc := 13) hX rfl d_Sh_at_13 ?_
  refine g_iald (pc := 14) hX (by assumption) (IX.of hj (by decide)) d_Sh_at_14 ?_
  refine v_goto (pc := 15) (tgt := 19) hX d_Sh_at_15 rfl ?_
  exact f_iret (pc := 19) hX hR (rfl) (rfl) d_Sh_at_19
theorem d_Sh_cut_0 : decode c_Sh_cut 0 = .ok (.aload_n 0, 1) := by decide +kernel
theorem d_Sh_cut_1 : decode c_Sh_cut 1 = .ok (.getfield 19, 3) := by decide +kernel
theorem d_Sh_cut_4 : decode c_Sh_cut 4 = .ok (.ifCond .ne 6, 3) := by decide +kernel
theorem d_Sh_cut_7 : decode c_Sh_cut 7 = .ok (.iload_n 1, 1) := by decide +kernel
theorem d_Sh_cut_8 : decode c_Sh_cut 8 = .ok (.i2b, 1) := by decide +kernel
theorem d_Sh_cut_9 : decode c_Sh_cut 9 = .ok (.ireturn, 1) := by decide +kernel
theorem d_Sh_cut_10 : decode c_Sh_cut 10 = .ok (.aload_n 0, 1) := by decide +kernel
theorem d_Sh_cut_11 : decode c_Sh_cut 11 = .ok (.getfield 19, 3) := by decide +kernel
theorem d_Sh_cut_14 : decode c_Sh_cut 14 = .ok (.iconst 1, 1) := by decide +kernel
theorem d_Sh_cut_15 : decode c_Sh_cut 15 = .ok (.if_icmp .ne 8, 3) := by decide +kernel
theorem d_Sh_cut_18 : decode c_Sh_cut 18 = .ok (.iload_n 1, 1) := by decide +kernel
theorem d_Sh_cut_19 : decode c_Sh_cut 19 = .ok (.i2s, 1) := by decide +kernel
theorem d_Sh_cut_20 : decode c_Sh_cut 20 = .ok (.goto 4, 3) := by decide +kernel
theorem d_Sh_cut_23 : decode c_Sh_cut 23 = .ok (.iload_n 1, 1) := by decide +kernel
theorem d_Sh_cut_24 : decode c_Sh_cut 24 = .ok (.ireturn, 1) := by decide +kernel
theorem C_Sh_cut {M : MM} {r : Nat} {v : Int32} (hr : SH[r]? = some (0, 5)) : AF y_Sh_cut c_Sh_cut 2 (some .int) 1 [vR r, vI v] (M) (some (vI (cutM (M r 2) v))) (M) := by
  refine AF.of k_Sh_cut (lo := [some (vR r), some (vI v)]) rfl (Nat.le_of_ble_eq_true rfl) (fun X hX hR => ?_)
  refine v_aload_n (pc := 0) hX rfl d_Sh_cut_0 ?_
  refine g_getI (pc := 1) hX fl_Sh_19 rfl (by assumption) d_Sh_cut_1 ?_
  refine v_if_ne (pc := 4) (tgt := 10) hX d_Sh_cut_4 rfl (fun h4 => ?_) (fun h4 => ?_)
  · refine v_aload_n (pc := 10) hX rfl d_Sh_cut_10 ?_
    refine g_getI (pc := 11) hX fl_Sh_19 rfl (by assumption) d_Sh_cut_11 ?_
    refine v_iconst (pc := 14) (v := 1) hX (by decide) d_Sh_cut_14 ?_
    refine v_icmp_ne (pc := 15) (tgt := 23) hX d_Sh_cut_15 rfl (fun h15 => ?_) (fun h15 => ?_)
    · refine v_iload_n (pc := 23) hX rfl d_Sh_cut_23 ?_
      exact f_iret (pc := 24) hX hR (by simp [cutM, *]) (rfl) d_Sh_cut_24
    · refine v_iload_n (pc := 18) hX rfl d_Sh_cut_18 ?_
      refine v_i2s (pc := 19) hX d_Sh_cut_19 ?_
      refine v_goto (pc := 20) (tgt := 24) hX d_Sh_cut_20 rfl ?_
      exact f_iret (pc := 24) hX hR (by simp [cutM, *]) (rfl) d_Sh_cut_24
  · refine v_iload_n (pc := 7) hX rfl d_Sh_cut_7 ?_
    refine v_i2b (pc := 8) hX d_Sh_cut_8 ?_
    exact f_iret (pc := 9) hX hR (by simp [cutM, *]) (rfl) d_Sh_cut_9
theorem d_Sh_change_0 : decode c_Sh_change 0 = .ok (.iload_n 1, 1) := by decide +kernel
theorem d_Sh_change_1 : decode c_Sh_change 1 = .ok (.aload_n 0, 1) := by decide +kernel
theorem d_Sh_change_2 : decode c_Sh_change 2 = .ok (.getfield 23, 3) := by decide +kernel
theorem d_Sh_change_5 : decode c_Sh_change 5 = .ok (.invokestatic 36, 3) := by decide +kernel
theorem d_Sh_change_8 : decode c_Sh_change 8 = .ok (.ifCond .eq 14, 3) := by decide +kernel
theorem d_Sh_change_11 : decode c_Sh_change 11 = .ok (.aload_n 0, 1) := by decide +kernel
theorem d_Sh_change_12 : decode c_Sh_change 12 = .ok (.getfield 9, 3) := by decide +kernel
theorem d_Sh_change_15 : decode c_Sh_change 15 = .ok (.iload_n 1, 1) := by decide +kernel
theorem d_Sh_change_16 : decode c_Sh_change 16 = .ok (.aload_n 0, 1) := by decide +kernel
theorem d_Sh_change_17 : decode c_Sh_change 17 = .ok (.iload_n 2, 1) := by decide +kernel
theorem d_Sh_change_18 : decode c_Sh_change 18 = .ok (.invokevirtual 39, 3) := by decide +kernel
theorem d_Sh_change_21 : decode c_Sh_change 21 = .ok (.iastore, 1) := by decide +kernel
theorem d_Sh_change_22 : decode c_Sh_change 22 = .ok (.return_, 1) := by decide +kernel
theorem C_Sh_change {M : MM} {r c : Nat} {j n : Nat} {v : Int32} (hr : SH[r]? = some (0, 5)) (hn : NF r 0 = c) (hc : SH[c]? = some (1, 60)) (hj : j < n) (hn6 : n ≤ 60) (hl : M r 3 = i3 n) : AF y_Sh_change c_Sh_change 3 none 2 [vR r, vI (i3 j), vI v] (M) (none) (upM M c j (cutM (M r 2) v)) := by
  refine AF.of k_Sh_change (lo := [some (vR r), some (vI (i3 j)), some (vI v)]) rfl (Nat.le_of_ble_eq_true rfl) (fun X hX hR => ?_)
  refine v_iload_n (pc := 0) hX rfl d_Sh_change_0 ?_
  refine v_aload_n (pc := 1) hX rfl d_Sh_change_1 ?_
  refine g_getI (pc := 2) hX fl_Sh_23 rfl (by assumption) d_Sh_change_2 ?_
  refine f_callN (pc := 5) hX k_LJ_isBelow ks_LJ_isBelow (by decide) (C_LJ_isBelow) rfl rfl rfl (Nat.le_of_ble_eq_true rfl) (Nat.le_of_ble_eq_true rfl) (Nat.le_of_ble_eq_true rfl) d_Sh_change_5 ?_
  refine f_ifeqB (pc := 8) (tgt := 22) hX d_Sh_change_8 rfl (fun h8 => False.elim (absurd h8 (by rw [hl, show (i3 n).toInt = (n : Int) from i3_int (by omega), rg_i3 hj (by omega)]; decide))) (fun h8 => ?_)
  refine v_aload_n (pc := 11) hX rfl d_Sh_change_11 ?_
  refine g_getR (pc := 12) hX fl_Sh_9 rfl (by assumption) (by assumption) d_Sh_change_12 ?_
  refine v_iload_n (pc := 15) hX rfl d_Sh_change_15 ?_
  refine v_aload_n (pc := 16) hX rfl d_Sh_change_16 ?_
  refine v_iload_n (pc := 17) hX rfl d_Sh_change_17 ?_
  refine f_callV (pc := 18) hX k_Sh_cut ki_Sh_cut kv_Sh_cut ml_Sh_39 (C_Sh_cut (by assumption)) (by assumption) rfl rfl rfl rfl (Nat.le_of_ble_eq_true rfl) (Nat.le_of_ble_eq_true rfl) (Nat.le_of_ble_eq_true rfl) d_Sh_change_18 ?_
  refine g_iast (pc := 21) hX (by assumption) (IX.of (by omega) (by decide)) d_Sh_change_21 ?_
  exact f_vret (pc := 22) hX hR (rfl) d_Sh_change_22
theorem d_Te_leave_0 : decode c_Te_leave 0 = .ok (.aload_n 0, 1) := by decide +kernel
theorem d_Te_leave_1 : decode c_Te_leave 1 = .ok (.bipush 31, 2) := by decide +kernel
theorem d_Te_leave_3 : decode c_Te_leave 3 = .ok (.aload_n 0, 1) := by decide +kernel
theorem d_Te_leave_4 : decode c_Te_leave 4 = .ok (.getfield 7, 3) := by decide +kernel
theorem d_Te_leave_7 : decode c_Te_leave 7 = .ok (.imul, 1) := by decide +kernel
theorem d_Te_leave_8 : decode c_Te_leave 8 = .ok (.iload_n 1, 1) := by decide +kernel
theorem d_Te_leave_9 : decode c_Te_leave 9 = .ok (.iadd, 1) := by decide +kernel
theorem d_Te_leave_10 : decode c_Te_leave 10 = .ok (.putfield 7, 3) := by decide +kernel
theorem d_Te_leave_13 : decode c_Te_leave 13 = .ok (.return_, 1) := by decide +kernel
theorem C_Te_leave {M : MM} {v : Int32} : AF y_Te_leave c_Te_leave 2 none 1 [vR 26, vI v] (M) (none) (upM M 26 0 (31 * M 26 0 + v)) := by
  refine AF.of k_Te_leave (lo := [some (vR 26), some (vI v)]) rfl (Nat.le_of_ble_eq_true rfl) (fun X hX hR => ?_)
  refine v_aload_n (pc := 0) hX rfl d_Te_leave_0 ?_
  refine v_bipush (pc := 1) (v := 31) hX (by decide) d_Te_leave_1 ?_
  refine v_aload_n (pc := 3) hX rfl d_Te_leave_3 ?_
  refine g_getI (pc := 4) hX fl_Te_7 rfl rfl d_Te_leave_4 ?_
  refine v_imul (pc := 7) hX d_Te_leave_7 ?_
  refine v_iload_n (pc := 8) hX rfl d_Te_leave_8 ?_
  refine v_iadd (pc := 9) hX d_Te_leave_9 ?_
  refine g_putI (pc := 10) hX fl_Te_7 rfl (finI rfl rfl) rfl rfl rfl d_Te_leave_10 ?_
  exact f_vret (pc := 13) hX hR (rfl) d_Te_leave_13
def lvM (M : MM) (v : Int32) : MM := upM M 26 0 (31 * M 26 0 + v)
theorem lvM_ne {M : MM} {v : Int32} {a i : Nat} (h : a ≠ 26) : lvM M v a i = M a i := upM_ne (fun q => h q.1)
theorem d_Te_tellLeaf_0 : decode c_Te_tellLeaf 0 = .ok (.aload_n 0, 1) := by decide +kernel
theorem d_Te_tellLeaf_1 : decode c_Te_tellLeaf 1 = .ok (.iconst 1, 1) := by decide +kernel
theorem d_Te_tellLeaf_2 : decode c_Te_tellLeaf 2 = .ok (.invokevirtual 13, 3) := by decide +kernel
theorem d_Te_tellLeaf_5 : decode c_Te_tellLeaf 5 = .ok (.aload_n 1, 1) := by decide +kernel
theorem d_Te_tellLeaf_6 : decode c_Te_tellLeaf 6 = .ok (.getfield 17, 3) := by decide +kernel
theorem d_Te_tellLeaf_9 : decode c_Te_tellLeaf 9 = .ok (.ireturn, 1) := by decide +kernel
theorem C_Te_tellLeaf {M : MM} {j : Nat} (hj : SH[j]? = some (0, 1)) : AF y_Te_tellLeaf c_Te_tellLeaf 2 (some .int) 2 [vR 26, vR j] (M) (some (vI (M j 1))) (lvM M 1) := by
  refine AF.of k_Te_tellLeaf (lo := [some (vR 26), some (vR j)]) rfl (Nat.le_of_ble_eq_true rfl) (fun X hX hR => ?_)
  refine v_aload_n (pc := 0) hX rfl d_Te_tellLeaf_0 ?_
  refine v_iconst (pc := 1) (v := 1) hX (by decide) d_Te_tellLeaf_1 ?_
  refine f_callV0 (pc := 2) hX k_Te_leave ki_Te_leave kv_Te_leave ml_Te_13 (C_Te_leave) rfl rfl rfl rfl rfl (Nat.le_of_ble_eq_true rfl) (Nat.le_of_ble_eq_true rfl) (Nat.le_of_ble_eq_true rfl) d_Te_tellLeaf_2 ?_
  refine v_aload_n (pc := 5) hX rfl d_Te_tellLeaf_5 ?_
  refine g_getI (pc := 6) hX fl_Te_17 rfl (by assumption) d_Te_tellLeaf_6 ?_
  exact f_iret (pc := 9) hX hR (lvM_ne (v := 1) (fun q => by rw [q] at hj; cases hj)) (rfl) d_Te_tellLeaf_9
theorem d_Te_tellTwist_0 : decode c_Te_tellTwist 0 = .ok (.aload_n 0, 1) := by decide +kernel
theorem d_Te_tellTwist_1 : decode c_Te_tellTwist 1 = .ok (.iconst 2, 1) := by decide +kernel
theorem d_Te_tellTwist_2 : decode c_Te_tellTwist 2 = .ok (.invokevirtual 13, 3) := by decide +kernel
theorem d_Te_tellTwist_5 : decode c_Te_tellTwist 5 = .ok (.aload_n 0, 1) := by decide +kernel
theorem d_Te_tellTwist_6 : decode c_Te_tellTwist 6 = .ok (.aload_n 1, 1) := by decide +kernel
theorem d_Te_tellTwist_7 : decode c_Te_tellTwist 7 = .ok (.invokevirtual 22, 3) := by decide +kernel
theorem d_Te_tellTwist_10 : decode c_Te_tellTwist 10 = .ok (.bipush 100, 2) := by decide +kernel
theorem d_Te_tellTwist_12 : decode c_Te_tellTwist 12 = .ok (.iadd, 1) := by decide +kernel
theorem d_Te_tellTwist_13 : decode c_Te_tellTwist 13 = .ok (.ireturn, 1) := by decide +kernel
theorem C_Te_tellTwist {M : MM} {j : Nat} (hj : SH[j]? = some (0, 1)) : AF y_Te_tellTwist c_Te_tellTwist 2 (some .int) 3 [vR 26, vR j] (M) (some (vI (M j 1 + 100))) (lvM (lvM M 2) 1) := by
  refine AF.of k_Te_tellTwist (lo := [some (vR 26), some (vR j)]) rfl (Nat.le_of_ble_eq_true rfl) (fun X hX hR => ?_)
  refine v_aload_n (pc := 0) hX rfl d_Te_tellTwist_0 ?_
  refine v_iconst (pc := 1) (v := 2) hX (by decide) d_Te_tellTwist_1 ?_
  refine f_callV0 (pc := 2) hX k_Te_leave ki_Te_leave kv_Te_leave ml_Te_13 (C_Te_leave) rfl rfl rfl rfl rfl (Nat.le_of_ble_eq_true rfl) (Nat.le_of_ble_eq_true rfl) (Nat.le_of_ble_eq_true rfl) d_Te_tellTwist_2 ?_
  refine v_aload_n (pc := 5) hX rfl d_Te_tellTwist_5 ?_
  refine v_aload_n (pc := 6) hX rfl d_Te_tellTwist_6 ?_
  refine f_callV (pc := 7) hX k_Te_tellLeaf ki_Te_tellLeaf kv_Te_tellLeaf ml_Te_22 (C_Te_tellLeaf (by assumption)) rfl rfl rfl rfl rfl (Nat.le_of_ble_eq_true rfl) (Nat.le_of_ble_eq_true rfl) (Nat.le_of_ble_eq_true rfl) d_Te_tellTwist_7 ?_
  refine v_bipush (pc := 10) (v := 100) hX (by decide) d_Te_tellTwist_10 ?_
  refine v_iadd (pc := 12) hX d_Te_tellTwist_12 ?_
  exact f_iret (pc := 13) hX hR (congrArg (· + (100 : Int32)) (lvM_ne (M := M) (v := 2) (fun q => by rw [q] at hj; cases hj))) (rfl) d_Te_tellTwist_13
theorem tp_eq {M : MM} {j : Nat} (hj6 : j ≠ 26) : lvM M 3 j 1 + 100 + lvM (lvM (lvM M 3) 2) 1 j 1 = M j 1 + 100 + M j 1 := by rw [lvM_ne hj6, lvM_ne hj6, lvM_ne hj6, lvM_ne hj6]
theorem d_Te_tellPlug_0 : decode c_Te_tellPlug 0 = .ok (.aload_n 0, 1) := by decide +kernel
theorem d_Te_tellPlug_1 : decode c_Te_tellPlug 1 = .ok (.iconst 3, 1) := by decide +kernel
theorem d_Te_tellPlug_2 : decode c_Te_tellPlug 2 = .ok (.invokevirtual 13, 3) := by decide +kernel
theorem d_Te_tellPlug_5 : decode c_Te_tellPlug 5 = .ok (.aload_n 0, 1) := by decide +kernel
theorem d_Te_tellPlug_6 : decode c_Te_tellPlug 6 = .ok (.aload_n 1, 1) := by decide +kernel
theorem d_Te_tellPlug_7 : decode c_Te_tellPlug 7 = .ok (.invokevirtual 26, 3) := by decide +kernel
theorem d_Te_tellPlug_10 : decode c_Te_tellPlug 10 = .ok (.istore_n 2, 1) := by decide +kernel
theorem d_Te_tellPlug_11 : decode c_Te_tellPlug 11 = .ok (.iload_n 2, 1) := by decide +kernel
theorem d_Te_tellPlug_12 : decode c_Te_tellPlug 12 = .ok (.aload_n 0, 1) := by decide +kernel
theorem d_Te_tellPlug_13 : decode c_Te_tellPlug 13 = .ok (.aload_n 1, 1) := by decide +kernel
theorem d_Te_tellPlug_14 : decode c_Te_tellPlug 14 = .ok (.invokevirtual 22, 3) := by decide +kernel
theorem d_Te_tellPlug_17 : decode c_Te_tellPlug 17 = .ok (.iadd, 1) := by decide +kernel
theorem d_Te_tellPlug_18 : decode c_Te_tellPlug 18 = .ok (.ireturn, 1) := by decide +kernel
theorem C_Te_tellPlug {M : MM} {j : Nat} (hj : SH[j]? = some (0, 1)) : AF y_Te_tellPlug c_Te_tellPlug 3 (some .int) 4 [vR 26, vR j] (M) (some (vI (M j 1 + 100 + M j 1))) (lvM (lvM (lvM (lvM M 3) 2) 1) 1) := by
  refine AF.of k_Te_tellPlug (lo := [some (vR 26), some (vR j), none]) rfl (Nat.le_of_ble_eq_true rfl) (fun X hX hR => ?_)
  refine v_aload_n (pc := 0) hX rfl d_Te_tellPlug_0 ?_
  refine v_iconst (pc := 1) (v := 3) hX (by decide) d_Te_tellPlug_1 ?_
  refine f_callV0 (pc := 2) hX k_Te_leave ki_Te_leave kv_Te_leave ml_Te_13 (C_Te_leave) rfl rfl rfl rfl rfl (Nat.le_of_ble_eq_true rfl) (Nat.le_of_ble_eq_true rfl) (Nat.le_of_ble_eq_true rfl) d_Te_tellPlug_2 ?_
  refine v_aload_n (pc := 5) hX rfl d_Te_tellPlug_5 ?_
  refine v_aload_n (pc := 6) hX rfl d_Te_tellPlug_6 ?_
  refine f_callV (pc := 7) hX k_Te_tellTwist ki_Te_tellTwist kv_Te_tellTwist ml_Te_26 (C_Te_tellTwist (by assumption)) rfl rfl rfl rfl rfl (Nat.le_of_ble_eq_true rfl) (Nat.le_of_ble_eq_true rfl) (Nat.le_of_ble_eq_true rfl) d_Te_tellPlug_7 ?_
  refine v_istore_n (pc := 10) (lo' := [some (vR _), some (vR _), some (vI _)]) hX (Nat.le_of_ble_eq_true rfl) rfl d_Te_tellPlug_10 ?_
  refine v_iload_n (pc := 11) hX rfl d_Te_tellPlug_11 ?_
  refine v_aload_n (pc := 12) hX rfl d_Te_tellPlug_12 ?_
  refine v_aload_n (pc := 13) hX rfl d_Te_tellPlug_13 ?_
  refine f_callV (pc := 14) hX k_Te_tellLeaf ki_Te_tellLeaf kv_Te_tellLeaf ml_Te_22 (C_Te_tellLeaf (by assumption)) rfl rfl rfl rfl rfl (Nat.le_of_ble_eq_true rfl) (Nat.le_of_ble_eq_true rfl) (Nat.le_of_ble_eq_true rfl) d_Te_tellPlug_14 ?_
  refine v_iadd (pc := 17) hX d_Te_tellPlug_17 ?_
  exact f_iret (pc := 18) hX hR (tp_eq (fun q => by rw [q] at hj; cases hj)) (rfl) d_Te_tellPlug_18
theorem d_Te_sniffLent_0 : decode c_Te_sniffLent 0 = .ok (.aload_n 0, 1) := by decide +kernel
theorem d_Te_sniffLent_1 : decode c_Te_sniffLent 1 = .ok (.iconst 4, 1) := by decide +kernel
theorem d_Te_sniffLent_2 : decode c_Te_sniffLent 2 = .ok (.invokevirtual 13, 3) := by decide +kernel
theorem d_Te_sniffLent_5 : decode c_Te_sniffLent 5 = .ok (.iload_n 1, 1) := by decide +kernel
theorem d_Te_sniffLent_6 : decode c_Te_sniffLent 6 = .ok (.ireturn, 1) := by decide +kernel
theorem C_Te_sniffLent {M : MM} {v : Int32} : AF y_Te_sniffLent c_Te_sniffLent 2 (some .int) 2 [vR 26, vI v] (M) (some (vI v)) (lvM M 4) := by
  refine AF.of k_Te_sniffLent (lo := [some (vR 26), some (vI v)]) rfl (Nat.le_of_ble_eq_true rfl) (fun X hX hR => ?_)
  refine v_aload_n (pc := 0) hX rfl d_Te_sniffLent_0 ?_
  refine v_iconst (pc := 1) (v := 4) hX (by decide) d_Te_sniffLent_1 ?_
  refine f_callV0 (pc := 2) hX k_Te_leave ki_Te_leave kv_Te_leave ml_Te_13 (C_Te_leave) rfl rfl rfl rfl rfl (Nat.le_of_ble_eq_true rfl) (Nat.le_of_ble_eq_true rfl) (Nat.le_of_ble_eq_true rfl) d_Te_sniffLent_2 ?_
  refine v_iload_n (pc := 5) hX rfl d_Te_sniffLent_5 ?_
  exact f_iret (pc := 6) hX hR (rfl) (rfl) d_Te_sniffLent_6
theorem d_Te_sniffPlug_0 : decode c_Te_sniffPlug 0 = .ok (.aload_n 0, 1) := by decide +kernel
theorem d_Te_sniffPlug_1 : decode c_Te_sniffPlug 1 = .ok (.iconst 5, 1) := by decide +kernel
theorem d_Te_sniffPlug_2 : decode c_Te_sniffPlug 2 = .ok (.invokevirtual 13, 3) := by decide +kernel
theorem d_Te_sniffPlug_5 : decode c_Te_sniffPlug 5 = .ok (.bipush 80, 2) := by decide +kernel
theorem d_Te_sniffPlug_7 : decode c_Te_sniffPlug 7 = .ok (.ireturn, 1) := by decide +kernel
theorem C_Te_sniffPlug {M : MM} : AF y_Te_sniffPlug c_Te_sniffPlug 1 (some .int) 2 [vR 26] (M) (some (vI 80)) (lvM M 5) := by
  refine AF.of k_Te_sniffPlug (lo := [some (vR 26)]) rfl (Nat.le_of_ble_eq_true rfl) (fun X hX hR => ?_)
  refine v_aload_n (pc := 0) hX rfl d_Te_sniffPlug_0 ?_
  refine v_iconst (pc := 1) (v := 5) hX (by decide) d_Te_sniffPlug_1 ?_
  refine f_callV0 (pc := 2) hX k_Te_leave ki_Te_leave kv_Te_leave ml_Te_13 (C_Te_leave) rfl rfl rfl rfl rfl (Nat.le_of_ble_eq_true rfl) (Nat.le_of_ble_eq_true rfl) (Nat.le_of_ble_eq_true rfl) d_Te_sniffPlug_2 ?_
  refine v_bipush (pc := 5) (v := 80) hX (by decide) d_Te_sniffPlug_5 ?_
  exact f_iret (pc := 7) hX hR (rfl) (rfl) d_Te_sniffPlug_7
