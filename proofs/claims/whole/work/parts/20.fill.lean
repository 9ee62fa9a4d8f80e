/-! Texts: the store that one makes. -/
theorem i3a2 (x : Nat) : i3 x + 2 = i3 (x + 2) := (i3_add x 2).symm
theorem i3a3 (x : Nat) : i3 x + 3 = i3 (x + 3) := (i3_add x 3).symm
theorem i3a4 (x : Nat) : i3 x + 4 = i3 (x + 4) := (i3_add x 4).symm
theorem i3a5 (x : Nat) : i3 x + 5 = i3 (x + 5) := (i3_add x 5).symm
def tJf (q : Nat → Int32) (p i : Nat) : Int32 := if i = 0 then kcN (q (p + 1)) else q (p + 1 + i) - 48
def tDf (q : Nat → Int32) (p i : Nat) : Int32 := if i = 0 then q (p + 1) - 48 else if i = 1 then q (p + 2) - 48 else if i = 2 then 10 * (q (p + 3) - 48) + q (p + 4) - 48 else 0
theorem sh_ne {x y : Nat} {s t : Nat × Nat} (hx : SH[x]? = some s) (hy : SH[y]? = some t) (h : s ≠ t) : x ≠ y := fun e => by
  subst e
  exact h (Option.some.inj (hx.symm.trans hy))
theorem d_Tx_fillJar_0 : decode c_Tx_fillJar 0 = .ok (.aload_n 2, 1) := by decide +kernel
theorem d_Tx_fillJar_1 : decode c_Tx_fillJar 1 = .ok (.aload_n 0, 1) := by decide +kernel
theorem d_Tx_fillJar_2 : decode c_Tx_fillJar 2 = .ok (.iload_n 1, 1) := by decide +kernel
theorem d_Tx_fillJar_3 : decode c_Tx_fillJar 3 = .ok (.iconst 1, 1) := by decide +kernel
theorem d_Tx_fillJar_4 : decode c_Tx_fillJar 4 = .ok (.iadd, 1) := by decide +kernel
theorem d_Tx_fillJar_5 : decode c_Tx_fillJar 5 = .ok (.invokevirtual 9, 3) := by decide +kernel
theorem d_Tx_fillJar_8 : decode c_Tx_fillJar 8 = .ok (.invokestatic 25, 3) := by decide +kernel
theorem d_Tx_fillJar_11 : decode c_Tx_fillJar 11 = .ok (.putfield 57, 3) := by decide +kernel
theorem d_Tx_fillJar_14 : decode c_Tx_fillJar 14 = .ok (.aload_n 2, 1) := by decide +kernel
theorem d_Tx_fillJar_15 : decode c_Tx_fillJar 15 = .ok (.aload_n 0, 1) := by decide +kernel
theorem d_Tx_fillJar_16 : decode c_Tx_fillJar 16 = .ok (.iload_n 1, 1) := by decide +kernel
theorem d_Tx_fillJar_17 : decode c_Tx_fillJar 17 = .ok (.iconst 2, 1) := by decide +kernel
theorem d_Tx_fillJar_18 : decode c_Tx_fillJar 18 = .ok (.iadd, 1) := by decide +kernel
theorem d_Tx_fillJar_19 : decode c_Tx_fillJar 19 = .ok (.invokevirtual 9, 3) := by decide +kernel
theorem d_Tx_fillJar_22 : decode c_Tx_fillJar 22 = .ok (.bipush 48, 2) := by decide +kernel
theorem d_Tx_fillJar_24 : decode c_Tx_fillJar 24 = .ok (.isub, 1) := by decide +kernel
theorem d_Tx_fillJar_25 : decode c_Tx_fillJar 25 = .ok (.putfield 62, 3) := by decide +kernel
theorem d_Tx_fillJar_28 : decode c_Tx_fillJar 28 = .ok (.aload_n 2, 1) := by decide +kernel
theorem d_Tx_fillJar_29 : decode c_Tx_fillJar 29 = .ok (.aload_n 0, 1) := by decide +kernel
theorem d_Tx_fillJar_30 : decode c_Tx_fillJar 30 = .ok (.iload_n 1, 1) := by decide +kernel
theorem d_Tx_fillJar_31 : decode c_Tx_fillJar 31 = .ok (.iconst 3, 1) := by decide +kernel
theorem d_Tx_fillJar_32 : decode c_Tx_fillJar 32 = .ok (.iadd, 1) := by decide +kernel
theorem d_Tx_fillJar_33 : decode c_Tx_fillJar 33 = .ok (.invokevirtual 9, 3) := by decide +kernel
theorem d_Tx_fillJar_36 : decode c_Tx_fillJar 36 = .ok (.bipush 48, 2) := by decide +kernel
theorem d_Tx_fillJar_38 : decode c_Tx_fillJar 38 = .ok (.isub, 1) := by decide +kernel
theorem d_Tx_fillJar_39 : decode c_Tx_fillJar 39 = .ok (.putfield 65, 3) := by decide +kernel
theorem d_Tx_fillJar_42 : decode c_Tx_fillJar 42 = .ok (.aload_n 2, 1) := by decide +kernel
theorem d_Tx_fillJar_43 : decode c_Tx_fillJar 43 = .ok (.aload_n 0, 1) := by decide +kernel
theorem d_Tx_fillJar_44 : decode c_Tx_fillJar 44 = .ok (.iload_n 1, 1) := by decide +kernel
theorem d_Tx_fillJar_45 : decode c_Tx_fillJar 45 = .ok (.iconst 4, 1) := by decide +kernel
theorem d_Tx_fillJar_46 : decode c_Tx_fillJar 46 = .ok (.iadd, 1) := by decide +kernel
theorem d_Tx_fillJar_47 : decode c_Tx_fillJar 47 = .ok (.invokevirtual 9, 3) := by decide +kernel
theorem d_Tx_fillJar_50 : decode c_Tx_fillJar 50 = .ok (.bipush 48, 2) := by decide +kernel
theorem d_Tx_fillJar_52 : decode c_Tx_fillJar 52 = .ok (.isub, 1) := by decide +kernel
theorem d_Tx_fillJar_53 : decode c_Tx_fillJar 53 = .ok (.putfield 68, 3) := by decide +kernel
theorem d_Tx_fillJar_56 : decode c_Tx_fillJar 56 = .ok (.aload_n 2, 1) := by decide +kernel
theorem d_Tx_fillJar_57 : decode c_Tx_fillJar 57 = .ok (.aload_n 0, 1) := by decide +kernel
theorem d_Tx_fillJar_58 : decode c_Tx_fillJar 58 = .ok (.iload_n 1, 1) := by decide +kernel
theorem d_Tx_fillJar_59 : decode c_Tx_fillJar 59 = .ok (.iconst 5, 1) := by decide +kernel
theorem d_Tx_fillJar_60 : decode c_Tx_fillJar 60 = .ok (.iadd, 1) := by decide +kernel
theorem d_Tx_fillJar_61 : decode c_Tx_fillJar 61 = .ok (.invokevirtual 9, 3) := by decide +kernel
theorem d_Tx_fillJar_64 : decode c_Tx_fillJar 64 = .ok (.bipush 48, 2) := by decide +kernel
theorem d_Tx_fillJar_66 : decode c_Tx_fillJar 66 = .ok (.isub, 1) := by decide +kernel
theorem d_Tx_fillJar_67 : decode c_Tx_fillJar 67 = .ok (.putfield 71, 3) := by decide +kernel
theorem d_Tx_fillJar_70 : decode c_Tx_fillJar 70 = .ok (.return_, 1) := by decide +kernel
theorem C_Tx_fillJar {M : MM} {r c a m p jr : Nat} {q : Nat → Int32} (hr : SH[r]? = some (0, 5)) (hn : NF r 0 = c) (hc : SH[c]? = some (1, 60)) (ha : a + m ≤ 60) (hq : ∀ t, t < m → M c (a + t) = q t) (hj : SH[jr]? = some (0, 1)) (hp : p + 5 < m) : AF y_Tx_fillJar c_Tx_fillJar 3 none 3 [vR r, vI (i3 (a + p)), vR jr] (M) (none) (cpF M jr (tJf q p) 5) := by
  have hcj : c ≠ jr := sh_ne hc hj (by decide)
  refine AF.of k_Tx_fillJar (lo := [some (vR r), some (vI (i3 (a + p))), some (vR jr)]) rfl (Nat.le_of_ble_eq_true rfl) (fun X hX hR => ?_)
  refine v_aload_n (pc := 0) hX rfl d_Tx_fillJar_0 ?_
  refine v_aload_n (pc := 1) hX rfl d_Tx_fillJar_1 ?_
  refine v_iload_n (pc := 2) hX rfl d_Tx_fillJar_2 ?_
  refine v_iconst (pc := 3) (v := 1) hX (by decide) d_Tx_fillJar_3 ?_
  refine v_iadd (pc := 4) hX d_Tx_fillJar_4 ?_
  rw [← i3_succ]
  refine f_callV (pc := 5) hX k_Sh_at ki_Sh_at kv_Sh_at ml_Tx_9 (C_Sh_at (j := a + p + 1) hr hn hc (by omega)) (by assumption) rfl rfl rfl rfl (Nat.le_of_ble_eq_true rfl) (Nat.le_of_ble_eq_true rfl) (Nat.le_of_ble_eq_true rfl) d_Tx_fillJar_5 ?_
  rw [show a + p + 1 = a + (p + 1) by omega, hq _ (by omega)]
  refine f_callS (pc := 8) hX k_Tx_kindOf ks_Tx_kindOf ml_Tx_25 (C_Tx_kindOf) rfl rfl rfl (Nat.le_of_ble_eq_true rfl) (Nat.le_of_ble_eq_true rfl) (Nat.le_of_ble_eq_true rfl) d_Tx_fillJar_8 ?_
  refine g_putI (pc := 11) hX fl_Tx_57 rfl (finI rfl rfl) (by assumption) rfl rfl d_Tx_fillJar_11 ?_
  refine v_aload_n (pc := 14) hX rfl d_Tx_fillJar_14 ?_
  refine v_aload_n (pc := 15) hX rfl d_Tx_fillJar_15 ?_
  refine v_iload_n (pc := 16) hX rfl d_Tx_fillJar_16 ?_
  refine v_iconst (pc := 17) (v := 2) hX (by decide) d_Tx_fillJar_17 ?_
  refine v_iadd (pc := 18) hX d_Tx_fillJar_18 ?_
  rw [i3a2]
  refine f_callV (pc := 19) hX k_Sh_at ki_Sh_at kv_Sh_at ml_Tx_9 (C_Sh_at (j := a + p + 2) hr hn hc (by omega)) (by assumption) rfl rfl rfl rfl (Nat.le_of_ble_eq_true rfl) (Nat.le_of_ble_eq_true rfl) (Nat.le_of_ble_eq_true rfl) d_Tx_fillJar_19 ?_
  rw [upM_ne (fun w => hcj w.1), show a + p + 2 = a + (p + 2) by omega, hq _ (by omega)]
  refine v_bipush (pc := 22) (v := 48) hX (by decide) d_Tx_fillJar_22 ?_
  refine v_isub (pc := 24) hX d_Tx_fillJar_24 ?_
  refine g_putI (pc := 25) hX fl_Tx_62 rfl (finI rfl rfl) (by assumption) rfl rfl d_Tx_fillJar_25 ?_
  refine v_aload_n (pc := 28) hX rfl d_Tx_fillJar_28 ?_
  refine v_aload_n (pc := 29) hX rfl d_Tx_fillJar_29 ?_
  refine v_iload_n (pc := 30) hX rfl d_Tx_fillJar_30 ?_
  refine v_iconst (pc := 31) (v := 3) hX (by decide) d_Tx_fillJar_31 ?_
  refine v_iadd (pc := 32) hX d_Tx_fillJar_32 ?_
  rw [i3a3]
  refine f_callV (pc := 33) hX k_Sh_at ki_Sh_at kv_Sh_at ml_Tx_9 (C_Sh_at (j := a + p + 3) hr hn hc (by omega)) (by assumption) rfl rfl rfl rfl (Nat.le_of_ble_eq_true rfl) (Nat.le_of_ble_eq_true rfl) (Nat.le_of_ble_eq_true rfl) d_Tx_fillJar_33 ?_
  rw [upM_ne (fun w => hcj w.1), upM_ne (fun w => hcj w.1), show a + p + 3 = a + (p + 3) by omega, hq _ (by omega)]
  refine v_bipush (pc := 36) (v := 48) hX (by decide) d_Tx_fillJar_36 ?_
  refine v_isub (pc := 38) hX d_Tx_fillJar_38 ?_
  refine g_putI (pc := 39) hX fl_Tx_65 rfl (finI rfl rfl) (by assumption) rfl rfl d_Tx_fillJar_39 ?_
  refine v_aload_n (pc := 42) hX rfl d_Tx_fillJar_42 ?_
  refine v_aload_n (pc := 43) hX rfl d_Tx_fillJar_43 ?_
  refine v_iload_n (pc := 44) hX rfl d_Tx_fillJar_44 ?_
  refine v_iconst (pc := 45) (v := 4) hX (by decide) d_Tx_fillJar_45 ?_
  refine v_iadd (pc := 46) hX d_Tx_fillJar_46 ?_
  rw [i3a4]
  refine f_callV (pc := 47) hX k_Sh_at ki_Sh_at kv_Sh_at ml_Tx_9 (C_Sh_at (j := a + p + 4) hr hn hc (by omega)) (by assumption) rfl rfl rfl rfl (Nat.le_of_ble_eq_true rfl) (Nat.le_of_ble_eq_true rfl) (Nat.le_of_ble_eq_true rfl) d_Tx_fillJar_47 ?_
  rw [upM_ne (fun w => hcj w.1), upM_ne (fun w => hcj w.1), upM_ne (fun w => hcj w.1), show a + p + 4 = a + (p + 4) by omega, hq _ (by omega)]
  refine v_bipush (pc := 50) (v := 48) hX (by decide) d_Tx_fillJar_50 ?_
  refine v_isub (pc := 52) hX d_Tx_fillJar_52 ?_
  refine g_putI (pc := 53) hX fl_Tx_68 rfl (finI rfl rfl) (by assumption) rfl rfl d_Tx_fillJar_53 ?_
  refine v_aload_n (pc := 56) hX rfl d_Tx_fillJar_56 ?_
  refine v_aload_n (pc := 57) hX rfl d_Tx_fillJar_57 ?_
  refine v_iload_n (pc := 58) hX rfl d_Tx_fillJar_58 ?_
  refine v_iconst (pc := 59) (v := 5) hX (by decide) d_Tx_fillJar_59 ?_
  refine v_iadd (pc := 60) hX d_Tx_fillJar_60 ?_
  rw [i3a5]
  refine f_callV (pc := 61) hX k_Sh_at ki_Sh_at kv_Sh_at ml_Tx_9 (C_Sh_at (j := a + p + 5) hr hn hc (by omega)) (by assumption) rfl rfl rfl rfl (Nat.le_of_ble_eq_true rfl) (Nat.le_of_ble_eq_true rfl) (Nat.le_of_ble_eq_true rfl) d_Tx_fillJar_61 ?_
  rw [upM_ne (fun w => hcj w.1), upM_ne (fun w => hcj w.1), upM_ne (fun w => hcj w.1), upM_ne (fun w => hcj w.1), show a + p + 5 = a + (p + 5) by omega, hq _ (by omega)]
  refine v_bipush (pc := 64) (v := 48) hX (by decide) d_Tx_fillJar_64 ?_
  refine v_isub (pc := 66) hX d_Tx_fillJar_66 ?_
  refine g_putI (pc := 67) hX fl_Tx_71 rfl (finI rfl rfl) (by assumption) rfl rfl d_Tx_fillJar_67 ?_
  exact f_vret (pc := 70) hX hR (by rw [cpF_s, cpF_s, cpF_s, cpF_s, cpF_s, cpF_0]; rfl) d_Tx_fillJar_70
theorem d_Tx_fillDecider_0 : decode c_Tx_fillDecider 0 = .ok (.aload_n 2, 1) := by decide +kernel
theorem d_Tx_fillDecider_1 : decode c_Tx_fillDecider 1 = .ok (.aload_n 0, 1) := by decide +kernel
theorem d_Tx_fillDecider_2 : decode c_Tx_fillDecider 2 = .ok (.iload_n 1, 1) := by decide +kernel
theorem d_Tx_fillDecider_3 : decode c_Tx_fillDecider 3 = .ok (.iconst 1, 1) := by decide +kernel
theorem d_Tx_fillDecider_4 : decode c_Tx_fillDecider 4 = .ok (.iadd, 1) := by decide +kernel
theorem d_Tx_fillDecider_5 : decode c_Tx_fillDecider 5 = .ok (.invokevirtual 9, 3) := by decide +kernel
theorem d_Tx_fillDecider_8 : decode c_Tx_fillDecider 8 = .ok (.bipush 48, 2) := by decide +kernel
theorem d_Tx_fillDecider_10 : decode c_Tx_fillDecider 10 = .ok (.isub, 1) := by decide +kernel
theorem d_Tx_fillDecider_11 : decode c_Tx_fillDecider 11 = .ok (.putfield 74, 3) := by decide +kernel
theorem d_Tx_fillDecider_14 : decode c_Tx_fillDecider 14 = .ok (.aload_n 2, 1) := by decide +kernel
theorem d_Tx_fillDecider_15 : decode c_Tx_fillDecider 15 = .ok (.aload_n 0, 1) := by decide +kernel
theorem d_Tx_fillDecider_16 : decode c_Tx_fillDecider 16 = .ok (.iload_n 1, 1) := by decide +kernel
theorem d_Tx_fillDecider_17 : decode c_Tx_fillDecider 17 = .ok (.iconst 2, 1) := by decide +kernel
theorem d_Tx_fillDecider_18 : decode c_Tx_fillDecider 18 = .ok (.iadd, 1) := by decide +kernel
theorem d_Tx_fillDecider_19 : decode c_Tx_fillDecider 19 = .ok (.invokevirtual 9, 3) := by decide +kernel
theorem d_Tx_fillDecider_22 : decode c_Tx_fillDecider 22 = .ok (.bipush 48, 2) := by decide +kernel
theorem d_Tx_fillDecider_24 : decode c_Tx_fillDecider 24 = .ok (.isub, 1) := by decide +kernel
theorem d_Tx_fillDecider_25 : decode c_Tx_fillDecider 25 = .ok (.putfield 79, 3) := by decide +kernel
theorem d_Tx_fillDecider_28 : decode c_Tx_fillDecider 28 = .ok (.aload_n 2, 1) := by decide +kernel
theorem d_Tx_fillDecider_29 : decode c_Tx_fillDecider 29 = .ok (.bipush 10, 2) := by decide +kernel
theorem d_Tx_fillDecider_31 : decode c_Tx_fillDecider 31 = .ok (.aload_n 0, 1) := by decide +kernel
theorem d_Tx_fillDecider_32 : decode c_Tx_fillDecider 32 = .ok (.iload_n 1, 1) := by decide +kernel
theorem d_Tx_fillDecider_33 : decode c_Tx_fillDecider 33 = .ok (.iconst 3, 1) := by decide +kernel
theorem d_Tx_fillDecider_34 : decode c_Tx_fillDecider 34 = .ok (.iadd, 1) := by decide +kernel
theorem d_Tx_fillDecider_35 : decode c_Tx_fillDecider 35 = .ok (.invokevirtual 9, 3) := by decide +kernel
theorem d_Tx_fillDecider_38 : decode c_Tx_fillDecider 38 = .ok (.bipush 48, 2) := by decide +kernel
theorem d_Tx_fillDecider_40 : decode c_Tx_fillDecider 40 = .ok (.isub, 1) := by decide +kernel
theorem d_Tx_fillDecider_41 : decode c_Tx_fillDecider 41 = .ok (.imul, 1) := by decide +kernel
theorem d_Tx_fillDecider_42 : decode c_Tx_fillDecider 42 = .ok (.aload_n 0, 1) := by decide +kernel
theorem d_Tx_fillDecider_43 : decode c_Tx_fillDecider 43 = .ok (.iload_n 1, 1) := by decide +kernel
theorem d_Tx_fillDecider_44 : decode c_Tx_fillDecider 44 = .ok (.iconst 4, 1) := by decide +kernel
theorem d_Tx_fillDecider_45 : decode c_Tx_fillDecider 45 = .ok (.iadd, 1) := by decide +kernel
theorem d_Tx_fillDecider_46 : decode c_Tx_fillDecider 46 = .ok (.invokevirtual 9, 3) := by decide +kernel
theorem d_Tx_fillDecider_49 : decode c_Tx_fillDecider 49 = .ok (.iadd, 1) := by decide +kernel
theorem d_Tx_fillDecider_50 : decode c_Tx_fillDecider 50 = .ok (.bipush 48, 2) := by decide +kernel
theorem d_Tx_fillDecider_52 : decode c_Tx_fillDecider 52 = .ok (.isub, 1) := by decide +kernel
theorem d_Tx_fillDecider_53 : decode c_Tx_fillDecider 53 = .ok (.putfield 82, 3) := by decide +kernel
theorem d_Tx_fillDecider_56 : decode c_Tx_fillDecider 56 = .ok (.aload_n 2, 1) := by decide +kernel
theorem d_Tx_fillDecider_57 : decode c_Tx_fillDecider 57 = .ok (.iconst 0, 1) := by decide +kernel
theorem d_Tx_fillDecider_58 : decode c_Tx_fillDecider 58 = .ok (.putfield 85, 3) := by decide +kernel
theorem d_Tx_fillDecider_61 : decode c_Tx_fillDecider 61 = .ok (.return_, 1) := by decide +kernel
theorem C_Tx_fillDecider {M : MM} {r c a m p jr : Nat} {q : Nat → Int32} (hr : SH[r]? = some (0, 5)) (hn : NF r 0 = c) (hc : SH[c]? = some (1, 60)) (ha : a + m ≤ 60) (hq : ∀ t, t < m → M c (a + t) = q t) (hj : SH[jr]? = some (0, 0)) (hp : p + 4 < m) : AF y_Tx_fillDecider c_Tx_fillDecider 3 none 3 [vR r, vI (i3 (a + p)), vR jr] (M) (none) (cpF M jr (tDf q p) 4) := by
  have hcj : c ≠ jr := sh_ne hc hj (by decide)
  refine AF.of k_Tx_fillDecider (lo := [some (vR r), some (vI (i3 (a + p))), some (vR jr)]) rfl (Nat.le_of_ble_eq_true rfl) (fun X hX hR => ?_)
  refine v_aload_n (pc := 0) hX rfl d_Tx_fillDecider_0 ?_
  refine v_aload_n (pc := 1) hX rfl d_Tx_fillDecider_1 ?_
  refine v_iload_n (pc := 2) hX rfl d_Tx_fillDecider_2 ?_
  refine v_iconst (pc := 3) (v := 1) hX (by decide) d_Tx_fillDecider_3 ?_
  refine v_iadd (pc := 4) hX d_Tx_fillDecider_4 ?_
  rw [← i3_succ]
  refine f_callV (pc := 5) hX k_Sh_at ki_Sh_at kv_Sh_at ml_Tx_9 (C_Sh_at (j := a + p + 1) hr hn hc (by omega)) (by assumption) rfl rfl rfl rfl (Nat.le_of_ble_eq_true rfl) (Nat.le_of_ble_eq_true rfl) (Nat.le_of_ble_eq_true rfl) d_Tx_fillDecider_5 ?_
  rw [show a + p + 1 = a + (p + 1) by omega, hq _ (by omega)]
  refine v_bipush (pc := 8) (v := 48) hX (by decide) d_Tx_fillDecider_8 ?_
  refine v_isub (pc := 10) hX d_Tx_fillDecider_10 ?_
  refine g_putI (pc := 11) hX fl_Tx_74 rfl (finI rfl rfl) (by assumption) rfl rfl d_Tx_fillDecider_11 ?_
  refine v_aload_n (pc := 14) hX rfl d_Tx_fillDecider_14 ?_
  refine v_aload_n (pc := 15) hX rfl d_Tx_fillDecider_15 ?_
  refine v_iload_n (pc := 16) hX rfl d_Tx_fillDecider_16 ?_
  refine v_iconst (pc := 17) (v := 2) hX (by decide) d_Tx_fillDecider_17 ?_
  refine v_iadd (pc := 18) hX d_Tx_fillDecider_18 ?_
  rw [i3a2]
  refine f_callV (pc := 19) hX k_Sh_at ki_Sh_at kv_Sh_at ml_Tx_9 (C_Sh_at (j := a + p + 2) hr hn hc (by omega)) (by assumption) rfl rfl rfl rfl (Nat.le_of_ble_eq_true rfl) (Nat.le_of_ble_eq_true rfl) (Nat.le_of_ble_eq_true rfl) d_Tx_fillDecider_19 ?_
  rw [upM_ne (fun w => hcj w.1), show a + p + 2 = a + (p + 2) by omega, hq _ (by omega)]
  refine v_bipush (pc := 22) (v := 48) hX (by decide) d_Tx_fillDecider_22 ?_
  refine v_isub (pc := 24) hX d_Tx_fillDecider_24 ?_
  refine g_putI (pc := 25) hX fl_Tx_79 rfl (finI rfl rfl) (by assumption) rfl rfl d_Tx_fillDecider_25 ?_
  refine v_aload_n (pc := 28) hX rfl d_Tx_fillDecider_28 ?_
  refine v_bipush (pc := 29) (v := 10) hX (by decide) d_Tx_fillDecider_29 ?_
  refine v_aload_n (pc := 31) hX rfl d_Tx_fillDecider_31 ?_
  refine v_iload_n (pc := 32) hX rfl d_Tx_fillDecider_32 ?_
  refine v_iconst (pc := 33) (v := 3) hX (by decide) d_Tx_fillDecider_33 ?_
  refine v_iadd (pc := 34) hX d_Tx_fillDecider_34 ?_
  rw [i3a3]
  refine f_callV (pc := 35) hX k_Sh_at ki_Sh_at kv_Sh_at ml_Tx_9 (C_Sh_at (j := a + p + 3) hr hn hc (by omega)) (by assumption) rfl rfl rfl rfl (Nat.le_of_ble_eq_true rfl) (Nat.le_of_ble_eq_true rfl) (Nat.le_of_ble_eq_true rfl) d_Tx_fillDecider_35 ?_
  rw [upM_ne (fun w => hcj w.1), upM_ne (fun w => hcj w.1), show a + p + 3 = a + (p + 3) by omega, hq _ (by omega)]
  refine v_bipush (pc := 38) (v := 48) hX (by decide) d_Tx_fillDecider_38 ?_
  refine v_isub (pc := 40) hX d_Tx_fillDecider_40 ?_
  refine v_imul (pc := 41) hX d_Tx_fillDecider_41 ?_
  refine v_aload_n (pc := 42) hX rfl d_Tx_fillDecider_42 ?_
  refine v_iload_n (pc := 43) hX rfl d_Tx_fillDecider_43 ?_
  refine v_iconst (pc := 44) (v := 4) hX (by decide) d_Tx_fillDecider_44 ?_
  refine v_iadd (pc := 45) hX d_Tx_fillDecider_45 ?_
  rw [i3a4]
  refine f_callV (pc := 46) hX k_Sh_at ki_Sh_at kv_Sh_at ml_Tx_9 (C_Sh_at (j := a + p + 4) hr hn hc (by omega)) (by assumption) rfl rfl rfl rfl (Nat.le_of_ble_eq_true rfl) (Nat.le_of_ble_eq_true rfl) (Nat.le_of_ble_eq_true rfl) d_Tx_fillDecider_46 ?_
  rw [upM_ne (fun w => hcj w.1), upM_ne (fun w => hcj w.1), show a + p + 4 = a + (p + 4) by omega, hq _ (by omega)]
  refine v_iadd (pc := 49) hX d_Tx_fillDecider_49 ?_
  refine v_bipush (pc := 50) (v := 48) hX (by decide) d_Tx_fillDecider_50 ?_
  refine v_isub (pc := 52) hX d_Tx_fillDecider_52 ?_
  refine g_putI (pc := 53) hX fl_Tx_82 rfl (finI rfl rfl) (by assumption) rfl rfl d_Tx_fillDecider_53 ?_
  refine v_aload_n (pc := 56) hX rfl d_Tx_fillDecider_56 ?_
  refine v_iconst (pc := 57) (v := 0) hX (by decide) d_Tx_fillDecider_57 ?_
  refine g_putI (pc := 58) hX fl_Tx_85 rfl (finI rfl rfl) (by assumption) rfl rfl d_Tx_fillDecider_58 ?_
  exact f_vret (pc := 61) hX hR (by rw [cpF_s, cpF_s, cpF_s, cpF_s, cpF_0]; rfl) d_Tx_fillDecider_61
theorem chs_lt {P : Nat → Bool} {n : Nat} : ∀ i, i < chs P n → P i = false := by
  induction n with
  | zero => intro i hi; exact absurd hi (Nat.not_lt_zero i)
  | succ n ih =>
    intro i hi
    have hl := chs_le P n
    unfold chs at hi
    by_cases e : chs P n < n
    · rw [if_pos e] at hi; exact ih i hi
    · rw [if_neg e] at hi
      by_cases e2 : P n = true
      · rw [if_pos e2] at hi; exact ih i (by omega)
      · rw [if_neg e2] at hi
        by_cases e3 : i = n
        · rw [e3]; simpa using e2
        · exact ih i (by omega)
theorem dg_lt {q : Nat → Int32} {m p : Nat} (h : dgB q m p = true) : p < m := by
  unfold dgB at h
  simp only [Bool.and_eq_true, decide_eq_true_eq] at h
  exact h.1
theorem gJ_at {q : Nat → Int32} {m k : Nat} (h : k < nJ q m) : stB q m (1 + 6 * k) 59 = true ∧ ftJ q m (1 + 6 * k) = 6 := by
  have := chs_lt k h
  simp only [gJ, Bool.not_eq_false', Bool.and_eq_true, decide_eq_true_eq] at this
  exact this
theorem gD_at {q : Nat → Int32} {m p k : Nat} (h : k < nD q m p) : stB q m (p + 5 * k) 44 = true ∧ ftD q m (p + 5 * k) = 5 := by
  have := chs_lt k h
  simp only [gD, Bool.not_eq_false', Bool.and_eq_true, decide_eq_true_eq] at this
  exact this
theorem ft6 {q : Nat → Int32} {m p : Nat} (h : ftJ q m p = 6) : (p + 1 < m ∧ kcN (q (p + 1)) ≠ -9) ∧ ∀ i, i < 4 → dgB q m (p + 2 + i) = true := by
  unfold ftJ at h
  by_cases e : p + 1 < m ∧ kcN (q (p + 1)) ≠ -9
  · refine ⟨e, fun i hi => ?_⟩
    rw [if_pos e] at h
    have := chs_lt (P := fun i => !dgB q m (p + 2 + i)) (n := 4) i (by omega)
    simpa using this
  · rw [if_neg e] at h; omega
theorem ft5 {q : Nat → Int32} {m p : Nat} (h : ftD q m p = 5) : ∀ i, i < 4 → dgB q m (p + 1 + i) = true := by
  unfold ftD at h
  intro i hi
  have := chs_lt (P := fun i => !dgB q m (p + 1 + i)) (n := 4) i (by omega)
  simpa using this
theorem ff_none {q : Nat → Int32} {m : Nat} (h : ffO q m = none) : (0 < m ∧ q 0 = 116) ∧ nJ q m ≠ 0 ∧ ¬ (nJ q m < 6 ∧ stB q m (1 + 6 * nJ q m) 59 = true) ∧ nD q m (1 + 6 * nJ q m) ≠ 0 ∧ ¬ (nD q m (1 + 6 * nJ q m) < 4 ∧ stB q m (1 + 6 * nJ q m + 5 * nD q m (1 + 6 * nJ q m)) 44 = true) ∧ m ≤ 1 + 6 * nJ q m + 5 * nD q m (1 + 6 * nJ q m) := by
  unfold ffO at h
  by_cases e1 : 0 < m ∧ q 0 = 116
  · rw [if_neg (fun w => w e1)] at h
    by_cases e2 : nJ q m < 6 ∧ stB q m (1 + 6 * nJ q m) 59 = true
    · rw [if_pos e2] at h; cases h
    · rw [if_neg e2] at h
      by_cases e3 : nJ q m = 0
      · rw [if_pos e3] at h; cases h
      · rw [if_neg e3] at h
        unfold ffD at h
        by_cases e4 : nD q m (1 + 6 * nJ q m) < 4 ∧ stB q m (1 + 6 * nJ q m + 5 * nD q m (1 + 6 * nJ q m)) 44 = true
        · rw [if_pos e4] at h; cases h
        · rw [if_neg e4] at h
          by_cases e5 : nD q m (1 + 6 * nJ q m) = 0 ∨ 1 + 6 * nJ q m + 5 * nD q m (1 + 6 * nJ q m) < m
          · rw [if_pos e5] at h; cases h
          · exact ⟨e1, e3, e2, by omega, e4, by omega⟩
  · rw [if_pos e1] at h; cases h
def K1 (M : MM) (q : Nat → Int32) (k : Nat) : MM := fun a i => if a = 3 ∧ i = 2 then i3 k else if a = 3 ∧ i = 3 then 0 else if 6 ≤ a ∧ a < 6 + k ∧ i < 5 then tJf q (1 + 6 * (a - 6)) i else M a i
def K2 (M : MM) (q : Nat → Int32) (x k : Nat) : MM := fun a i => if a = 3 ∧ i = 3 then i3 k else if 12 ≤ a ∧ a < 12 + k ∧ i < 4 then tDf q (1 + 6 * x + 5 * (a - 12)) i else K1 M q x a i
theorem K1_0 {M : MM} {q : Nat → Int32} : upM (upM M 3 2 0) 3 3 0 = K1 M q 0 := by
  funext a i
  unfold upM K1
  by_cases h1 : a = 3 ∧ i = 3
  · rw [if_pos h1, if_neg (by omega), if_pos h1]
  · rw [if_neg h1]
    by_cases h2 : a = 3 ∧ i = 2
    · rw [if_pos h2, if_pos h2]; rfl
    · rw [if_neg h2, if_neg h2, if_neg h1, if_neg (by omega)]
theorem K1_s {M : MM} {q : Nat → Int32} {k : Nat} (hk : k < 6) : upM (cpF (K1 M q k) (6 + k) (tJf q (1 + 6 * k)) 5) 3 2 (i3 k + 1) = K1 M q (k + 1) := by
  funext a i
  unfold upM cpF K1
  rw [← i3_succ]
  by_cases h2 : a = 3 ∧ i = 2
  · rw [if_pos h2, if_pos h2]
  · rw [if_neg h2]
    by_cases h3 : a = 6 + k ∧ i < 5
    · rw [if_pos h3, if_neg h2, if_neg (by omega), if_pos (by omega), h3.1, show 6 + k - 6 = k by omega]
    · rw [if_neg h3, if_neg h2, if_neg h2]
      by_cases h1 : a = 3 ∧ i = 3
      · rw [if_pos h1, if_pos h1]
      · rw [if_neg h1, if_neg h1]
        by_cases h4 : 6 ≤ a ∧ a < 6 + k ∧ i < 5
        · rw [if_pos h4, if_pos (by omega)]
        · rw [if_neg h4, if_neg (by omega)]
theorem K2_0 {M : MM} {q : Nat → Int32} {x : Nat} : K2 M q x 0 = K1 M q x := by
  funext a i
  unfold K2
  by_cases h1 : a = 3 ∧ i = 3
  · rw [if_pos h1]
    unfold K1
    rw [if_neg (by omega), if_pos h1]; rfl
  · rw [if_neg h1, if_neg (by omega)]
theorem K2_s {M : MM} {q : Nat → Int32} {x k : Nat} (hk : k < 4) : upM (cpF (K2 M q x k) (12 + k) (tDf q (1 + 6 * x + 5 * k)) 4) 3 3 (i3 k + 1) = K2 M q x (k + 1) := by
  funext a i
  unfold upM cpF K2
  rw [← i3_succ]
  by_cases h2 : a = 3 ∧ i = 3
  · rw [if_pos h2, if_pos h2]
  · rw [if_neg h2]
    by_cases h3 : a = 12 + k ∧ i < 4
    · rw [if_pos h3, if_neg h2, if_pos (by omega), h3.1, show 12 + k - 12 = k by omega]
    · rw [if_neg h3, if_neg h2, if_neg h2]
      by_cases h4 : 12 ≤ a ∧ a < 12 + k ∧ i < 4
      · rw [if_pos h4, if_pos (by omega)]
      · rw [if_neg h4, if_neg (by omega)]
theorem K1_ne {M : MM} {q : Nat → Int32} {k a i : Nat} (h3 : a ≠ 3) (h : a < 6 ∨ 11 < a) (hk : k ≤ 6) : K1 M q k a i = M a i := by
  unfold K1
  rw [if_neg (by omega), if_neg (by omega), if_neg (by omega)]
theorem K2_ne {M : MM} {q : Nat → Int32} {x k a i : Nat} (h3 : a ≠ 3) (h : a < 6 ∨ 15 < a) (hk : k ≤ 4) (hx : x ≤ 6) : K2 M q x k a i = M a i := by
  unfold K2
  rw [if_neg (by omega), if_neg (by omega), K1_ne h3 (by omega) hx]
theorem K1_2 {M : MM} {q : Nat → Int32} {k : Nat} : K1 M q k 3 2 = i3 k := if_pos ⟨rfl, rfl⟩
theorem K2_3 {M : MM} {q : Nat → Int32} {x k : Nat} : K2 M q x k 3 3 = i3 k := if_pos ⟨rfl, rfl⟩
theorem K2_2 {M : MM} {q : Nat → Int32} {x k : Nat} : K2 M q x k 3 2 = i3 x := by
  unfold K2
  rw [if_neg (by omega), if_neg (by omega)]; exact K1_2
theorem d_Tx_fill_0 : decode c_Tx_fill 0 = .ok (.iconst 1, 1) := by decide +kernel
theorem d_Tx_fill_1 : decode c_Tx_fill 1 = .ok (.istore 4, 2) := by decide +kernel
theorem d_Tx_fill_3 : decode c_Tx_fill 3 = .ok (.aload_n 3, 1) := by decide +kernel
theorem d_Tx_fill_4 : decode c_Tx_fill 4 = .ok (.iconst 0, 1) := by decide +kernel
theorem d_Tx_fill_5 : decode c_Tx_fill 5 = .ok (.putfield 32, 3) := by decide +kernel
theorem d_Tx_fill_8 : decode c_Tx_fill 8 = .ok (.aload_n 3, 1) := by decide +kernel
theorem d_Tx_fill_9 : decode c_Tx_fill 9 = .ok (.iconst 0, 1) := by decide +kernel
theorem d_Tx_fill_10 : decode c_Tx_fill 10 = .ok (.putfield 38, 3) := by decide +kernel
theorem d_Tx_fill_13 : decode c_Tx_fill 13 = .ok (.aload_n 3, 1) := by decide +kernel
theorem d_Tx_fill_14 : decode c_Tx_fill 14 = .ok (.getfield 32, 3) := by decide +kernel
theorem d_Tx_fill_17 : decode c_Tx_fill 17 = .ok (.bipush 6, 2) := by decide +kernel
theorem d_Tx_fill_19 : decode c_Tx_fill 19 = .ok (.if_icmp .ge 49, 3) := by decide +kernel
theorem d_Tx_fill_22 : decode c_Tx_fill 22 = .ok (.aload_n 0, 1) := by decide +kernel
theorem d_Tx_fill_23 : decode c_Tx_fill 23 = .ok (.iload_n 1, 1) := by decide +kernel
theorem d_Tx_fill_24 : decode c_Tx_fill 24 = .ok (.iload_n 2, 1) := by decide +kernel
theorem d_Tx_fill_25 : decode c_Tx_fill 25 = .ok (.iload 4, 2) := by decide +kernel
theorem d_Tx_fill_27 : decode c_Tx_fill 27 = .ok (.bipush 59, 2) := by decide +kernel
theorem d_Tx_fill_29 : decode c_Tx_fill 29 = .ok (.invokestatic 15, 3) := by decide +kernel
theorem d_Tx_fill_32 : decode c_Tx_fill 32 = .ok (.ifCond .eq 36, 3) := by decide +kernel
theorem d_Tx_fill_35 : decode c_Tx_fill 35 = .ok (.aload_n 0, 1) := by decide +kernel
theorem d_Tx_fill_36 : decode c_Tx_fill 36 = .ok (.iload_n 1, 1) := by decide +kernel
theorem d_Tx_fill_37 : decode c_Tx_fill 37 = .ok (.iload 4, 2) := by decide +kernel
theorem d_Tx_fill_39 : decode c_Tx_fill 39 = .ok (.iadd, 1) := by decide +kernel
theorem d_Tx_fill_40 : decode c_Tx_fill 40 = .ok (.aload_n 3, 1) := by decide +kernel
theorem d_Tx_fill_41 : decode c_Tx_fill 41 = .ok (.getfield 41, 3) := by decide +kernel
theorem d_Tx_fill_44 : decode c_Tx_fill 44 = .ok (.aload_n 3, 1) := by decide +kernel
theorem d_Tx_fill_45 : decode c_Tx_fill 45 = .ok (.getfield 32, 3) := by decide +kernel
theorem d_Tx_fill_48 : decode c_Tx_fill 48 = .ok (.aaload, 1) := by decide +kernel
theorem d_Tx_fill_49 : decode c_Tx_fill 49 = .ok (.invokestatic 45, 3) := by decide +kernel
theorem d_Tx_fill_52 : decode c_Tx_fill 52 = .ok (.aload_n 3, 1) := by decide +kernel
theorem d_Tx_fill_53 : decode c_Tx_fill 53 = .ok (.dup, 1) := by decide +kernel
theorem d_Tx_fill_54 : decode c_Tx_fill 54 = .ok (.getfield 32, 3) := by decide +kernel
theorem d_Tx_fill_57 : decode c_Tx_fill 57 = .ok (.iconst 1, 1) := by decide +kernel
theorem d_Tx_fill_58 : decode c_Tx_fill 58 = .ok (.iadd, 1) := by decide +kernel
theorem d_Tx_fill_59 : decode c_Tx_fill 59 = .ok (.putfield 32, 3) := by decide +kernel
theorem d_Tx_fill_62 : decode c_Tx_fill 62 = .ok (.iinc 4 6, 3) := by decide +kernel
theorem d_Tx_fill_65 : decode c_Tx_fill 65 = .ok (.goto (-52), 3) := by decide +kernel
theorem d_Tx_fill_68 : decode c_Tx_fill 68 = .ok (.aload_n 3, 1) := by decide +kernel
theorem d_Tx_fill_69 : decode c_Tx_fill 69 = .ok (.getfield 38, 3) := by decide +kernel
theorem d_Tx_fill_72 : decode c_Tx_fill 72 = .ok (.iconst 4, 1) := by decide +kernel
theorem d_Tx_fill_73 : decode c_Tx_fill 73 = .ok (.if_icmp .ge 49, 3) := by decide +kernel
theorem d_Tx_fill_76 : decode c_Tx_fill 76 = .ok (.aload_n 0, 1) := by decide +kernel
theorem d_Tx_fill_77 : decode c_Tx_fill 77 = .ok (.iload_n 1, 1) := by decide +kernel
theorem d_Tx_fill_78 : decode c_Tx_fill 78 = .ok (.iload_n 2, 1) := by decide +kernel
theorem d_Tx_fill_79 : decode c_Tx_fill 79 = .ok (.iload 4, 2) := by decide +kernel
theorem d_Tx_fill_81 : decode c_Tx_fill 81 = .ok (.bipush 44, 2) := by decide +kernel
theorem d_Tx_fill_83 : decode c_Tx_fill 83 = .ok (.invokestatic 15, 3) := by decide +kernel
theorem d_Tx_fill_86 : decode c_Tx_fill 86 = .ok (.ifCond .eq 36, 3) := by decide +kernel
theorem d_Tx_fill_89 : decode c_Tx_fill 89 = .ok (.aload_n 0, 1) := by decide +kernel
theorem d_Tx_fill_90 : decode c_Tx_fill 90 = .ok (.iload_n 1, 1) := by decide +kernel
theorem d_Tx_fill_91 : decode c_Tx_fill 91 = .ok (.iload 4, 2) := by decide +kernel
theorem d_Tx_fill_93 : decode c_Tx_fill 93 = .ok (.iadd, 1) := by decide +kernel
theorem d_Tx_fill_94 : decode c_Tx_fill 94 = .ok (.aload_n 3, 1) := by decide +kernel
theorem d_Tx_fill_95 : decode c_Tx_fill 95 = .ok (.getfield 49, 3) := by decide +kernel
theorem d_Tx_fill_98 : decode c_Tx_fill 98 = .ok (.aload_n 3, 1) := by decide +kernel
theorem d_Tx_fill_99 : decode c_Tx_fill 99 = .ok (.getfield 38, 3) := by decide +kernel
theorem d_Tx_fill_102 : decode c_Tx_fill 102 = .ok (.aaload, 1) := by decide +kernel
theorem d_Tx_fill_103 : decode c_Tx_fill 103 = .ok (.invokestatic 53, 3) := by decide +kernel
theorem d_Tx_fill_106 : decode c_Tx_fill 106 = .ok (.aload_n 3, 1) := by decide +kernel
theorem d_Tx_fill_107 : decode c_Tx_fill 107 = .ok (.dup, 1) := by decide +kernel
theorem d_Tx_fill_108 : decode c_Tx_fill 108 = .ok (.getfield 38, 3) := by decide +kernel
theorem d_Tx_fill_111 : decode c_Tx_fill 111 = .ok (.iconst 1, 1) := by decide +kernel
theorem d_Tx_fill_112 : decode c_Tx_fill 112 = .ok (.iadd, 1) := by decide +kernel
theorem d_Tx_fill_113 : decode c_Tx_fill 113 = .ok (.putfield 38, 3) := by decide +kernel
theorem d_Tx_fill_116 : decode c_Tx_fill 116 = .ok (.iinc 4 5, 3) := by decide +kernel
theorem d_Tx_fill_119 : decode c_Tx_fill 119 = .ok (.goto (-51), 3) := by decide +kernel
theorem d_Tx_fill_122 : decode c_Tx_fill 122 = .ok (.return_, 1) := by decide +kernel
set_option maxHeartbeats 4000000 in
theorem C_Tx_fill {M : MM} {r c a m : Nat} {q : Nat → Int32} (hr : SH[r]? = some (0, 5)) (hn : NF r 0 = c) (hc : SH[c]? = some (1, 60)) (ha : a + m ≤ 60) (hq : ∀ t, t < m → M c (a + t) = q t) (hf : ffO q m = none) : AF y_Tx_fill c_Tx_fill 5 none 4 [vR r, vI (i3 a), vI (i3 m), vR 3] (M) (none) (K2 M q (nJ q m) (nD q m (1 + 6 * nJ q m))) := by
  obtain ⟨f1, f2, f3, f4, f5, f6⟩ := ff_none hf
  have hx6 : nJ q m ≤ 6 := chs_le _ 6
  have hy4 : nD q m (1 + 6 * nJ q m) ≤ 4 := chs_le _ 4
  have hc18 := sh_c18 hc
  refine AF.of k_Tx_fill (lo := [some (vR r), some (vI (i3 a)), some (vI (i3 m)), some (vR 3), none]) rfl (Nat.le_of_ble_eq_true rfl) (fun X hX hR => ?_)
  refine v_iconst (pc := 0) (v := 1) hX (by decide) d_Tx_fill_0 ?_
  refine v_istore (pc := 1) (lo' := [some (vR _), some (vI _), some (vI _), some (vR _), some (vI _)]) hX (Nat.le_of_ble_eq_true rfl) rfl d_Tx_fill_1 ?_
  refine v_aload_n (pc := 3) hX rfl d_Tx_fill_3 ?_
  refine v_iconst (pc := 4) (v := 0) hX (by decide) d_Tx_fill_4 ?_
  refine g_putI (pc := 5) hX fl_Tx_32 rfl (finI rfl rfl) rfl rfl rfl d_Tx_fill_5 ?_
  refine v_aload_n (pc := 8) hX rfl d_Tx_fill_8 ?_
  refine v_iconst (pc := 9) (v := 0) hX (by decide) d_Tx_fill_9 ?_
  refine g_putI (pc := 10) hX fl_Tx_38 rfl (finI rfl rfl) rfl rfl rfl d_Tx_fill_10 ?_
  rw [K1_0 (q := q)]
  refine VW.cast (lo' := [some (vR r), some (vI (i3 a)), some (vI (i3 m)), some (vR 3), some (vI (i3 (1 + 6 * 0)))]) (st' := []) (G' := gM (K1 M q 0)) rfl rfl rfl ?_
  refine v_for (X := X) (head := 13) (nJ q m) (fun kk => [some (vR r), some (vI (i3 a)), some (vI (i3 m)), some (vR 3), some (vI (i3 (1 + 6 * kk)))]) (fun kk => K1 M q kk) (fun k hk ih13 => ?_) ?_
  · show VW X 13 [some (vR r), some (vI (i3 a)), some (vI (i3 m)), some (vR 3), some (vI (i3 (1 + 6 * k)))] [] (gM (K1 M q k))
    obtain ⟨g1, g2⟩ := gJ_at hk
    have g3 := dg_lt ((ft6 g2).2 3 (by decide))
    have hsj := sh_jar k (by omega)
    have hq1 : ∀ t, t < m → K1 M q k c (a + t) = q t := fun t ht => by rw [K1_ne (by omega) (by omega) (by omega)]; exact hq t ht
    refine v_aload_n (pc := 13) hX rfl d_Tx_fill_13 ?_
    refine g_getI (pc := 14) hX fl_Tx_32 rfl rfl d_Tx_fill_14 ?_
    rw [K1_2]
    refine v_bipush (pc := 17) (v := 6) hX (by decide) d_Tx_fill_17 ?_
    refine v_icmp_ge (pc := 19) (tgt := 68) hX d_Tx_fill_19 rfl (fun h19 => False.elim (i3_ge_abs (n := 6) (k := k) (by omega) (by decide) h19)) (fun h19 => ?_)
    refine v_aload_n (pc := 22) hX rfl d_Tx_fill_22 ?_
    refine v_iload_n (pc := 23) hX rfl d_Tx_fill_23 ?_
    refine v_iload_n (pc := 24) hX rfl d_Tx_fill_24 ?_
    refine v_iload (pc := 25) hX rfl d_Tx_fill_25 ?_
    refine v_bipush (pc := 27) (v := 59) hX (by decide) d_Tx_fill_27 ?_
    refine f_callS (pc := 29) hX k_Tx_startsWith ks_Tx_startsWith ml_Tx_15 (C_Tx_startsWith hr hn hc ha hq1 (by omega)) rfl rfl rfl (Nat.le_of_ble_eq_true rfl) (Nat.le_of_ble_eq_true rfl) (Nat.le_of_ble_eq_true rfl) d_Tx_fill_29 ?_
    refine f_ifeqB (pc := 32) (tgt := 68) hX d_Tx_fill_32 rfl (fun h32 => False.elim (by rw [g1] at h32; cases h32)) (fun h32 => ?_)
    refine v_aload_n (pc := 35) hX rfl d_Tx_fill_35 ?_
    refine v_iload_n (pc := 36) hX rfl d_Tx_fill_36 ?_
    refine v_iload (pc := 37) hX rfl d_Tx_fill_37 ?_
    refine v_iadd (pc := 39) hX d_Tx_fill_39 ?_
    refine v_aload_n (pc := 40) hX rfl d_Tx_fill_40 ?_
    refine g_getR (pc := 41) hX fl_Tx_41 rfl rfl nf_3_0 d_Tx_fill_41 ?_
    refine v_aload_n (pc := 44) hX rfl d_Tx_fill_44 ?_
    refine g_getI (pc := 45) hX fl_Tx_32 rfl rfl d_Tx_fill_45 ?_
    rw [K1_2]
    refine g_aald (pc := 48) (c := 1) hX (by decide) (by decide) rfl (IX.of (n := 6) (by omega) (by decide)) (nf_jar k (by omega)) d_Tx_fill_48 ?_
    rw [← i3_add]
    refine f_callS0 (pc := 49) hX k_Tx_fillJar ks_Tx_fillJar ml_Tx_45 (C_Tx_fillJar hr hn hc ha hq1 hsj (by omega)) rfl rfl rfl (Nat.le_of_ble_eq_true rfl) (Nat.le_of_ble_eq_true rfl) (Nat.le_of_ble_eq_true rfl) d_Tx_fill_49 ?_
    refine v_aload_n (pc := 52) hX rfl d_Tx_fill_52 ?_
    refine v_dup (pc := 53) hX rfl d_Tx_fill_53 ?_
    refine g_getI (pc := 54) hX fl_Tx_32 rfl rfl d_Tx_fill_54 ?_
    rw [cpF_ne (by omega), K1_2]
    refine v_iconst (pc := 57) (v := 1) hX (by decide) d_Tx_fill_57 ?_
    refine v_iadd (pc := 58) hX d_Tx_fill_58 ?_
    refine g_putI (pc := 59) hX fl_Tx_32 rfl (finI rfl rfl) rfl rfl rfl d_Tx_fill_59 ?_
    rw [K1_s (by omega)]
    refine v_iinc (pc := 62) (lo' := [some (vR _), some (vI _), some (vI _), some (vR _), some (vI _)]) hX rfl rfl d_Tx_fill_62 ?_
    refine v_goto (pc := 65) (tgt := 13) hX d_Tx_fill_65 rfl ?_
    exact VW.cast (by rw [show 1 + 6 * (k + 1) = (1 + 6 * k) + 6 by omega, i3_add _ 6]; rfl) rfl rfl ih13
  · show VW X 13 [some (vR r), some (vI (i3 a)), some (vI (i3 m)), some (vR 3), some (vI (i3 (1 + 6 * (nJ q m))))] [] (gM (K1 M q (nJ q m)))
    refine v_aload_n (pc := 13) hX rfl d_Tx_fill_13 ?_
    refine g_getI (pc := 14) hX fl_Tx_32 rfl rfl d_Tx_fill_14 ?_
    rw [K1_2]
    refine v_bipush (pc := 17) (v := 6) hX (by decide) d_Tx_fill_17 ?_
    refine v_icmp_ge (pc := 19) (tgt := 68) hX d_Tx_fill_19 rfl (fun h19 => ?_) (fun h19 => ?_)
    · refine VW.cast (lo' := [some (vR r), some (vI (i3 a)), some (vI (i3 m)), some (vR 3), some (vI (i3 (1 + 6 * nJ q m + 5 * 0)))]) (st' := []) (G' := gM (K2 M q (nJ q m) 0)) rfl rfl (by rw [K2_0]) ?_
      refine v_for (X := X) (head := 68) (nD q m (1 + 6 * nJ q m)) (fun kk => [some (vR r), some (vI (i3 a)), some (vI (i3 m)), some (vR 3), some (vI (i3 (1 + 6 * nJ q m + 5 * kk)))]) (fun kk => K2 M q (nJ q m) kk) (fun k hk ih68 => ?_) ?_
      · show VW X 68 [some (vR r), some (vI (i3 a)), some (vI (i3 m)), some (vR 3), some (vI (i3 (1 + 6 * nJ q m + 5 * k)))] [] (gM (K2 M q (nJ q m) k))
        obtain ⟨g1, g2⟩ := gD_at hk
        have g3 := dg_lt (ft5 g2 3 (by decide))
        have hsd := sh_dec k (by omega)
        have hq2 : ∀ t, t < m → K2 M q (nJ q m) k c (a + t) = q t := fun t ht => by rw [K2_ne (by omega) (by omega) (by omega) hx6]; exact hq t ht
        refine v_aload_n (pc := 68) hX rfl d_Tx_fill_68 ?_
        refine g_getI (pc := 69) hX fl_Tx_38 rfl rfl d_Tx_fill_69 ?_
        rw [K2_3]
        refine v_iconst (pc := 72) (v := 4) hX (by decide) d_Tx_fill_72 ?_
        refine v_icmp_ge (pc := 73) (tgt := 122) hX d_Tx_fill_73 rfl (fun h73 => False.elim (i3_ge_abs (n := 4) (k := k) (by omega) (by decide) h73)) (fun h73 => ?_)
        refine v_aload_n (pc := 76) hX rfl d_Tx_fill_76 ?_
        refine v_iload_n (pc := 77) hX rfl d_Tx_fill_77 ?_
        refine v_iload_n (pc := 78) hX rfl d_Tx_fill_78 ?_
        refine v_iload (pc := 79) hX rfl d_Tx_fill_79 ?_
        refine v_bipush (pc := 81) (v := 44) hX (by decide) d_Tx_fill_81 ?_
        refine f_callS (pc := 83) hX k_Tx_startsWith ks_Tx_startsWith ml_Tx_15 (C_Tx_startsWith hr hn hc ha hq2 (by omega)) rfl rfl rfl (Nat.le_of_ble_eq_true rfl) (Nat.le_of_ble_eq_true rfl) (Nat.le_of_ble_eq_true rfl) d_Tx_fill_83 ?_
        refine f_ifeqB (pc := 86) (tgt := 122) hX d_Tx_fill_86 rfl (fun h86 => False.elim (by rw [g1] at h86; cases h86)) (fun h86 => ?_)
        refine v_aload_n (pc := 89) hX rfl d_Tx_fill_89 ?_
        refine v_iload_n (pc := 90) hX rfl d_Tx_fill_90 ?_
        refine v_iload (pc := 91) hX rfl d_Tx_fill_91 ?_
        refine v_iadd (pc := 93) hX d_Tx_fill_93 ?_
        refine v_aload_n (pc := 94) hX rfl d_Tx_fill_94 ?_
        refine g_getR (pc := 95) hX fl_Tx_49 rfl rfl nf_3_1 d_Tx_fill_95 ?_
        refine v_aload_n (pc := 98) hX rfl d_Tx_fill_98 ?_
        refine g_getI (pc := 99) hX fl_Tx_38 rfl rfl d_Tx_fill_99 ?_
        rw [K2_3]
        refine g_aald (pc := 102) (c := 0) hX (by decide) (by decide) rfl (IX.of (n := 4) (by omega) (by decide)) (nf_dec k (by omega)) d_Tx_fill_102 ?_
        rw [← i3_add]
        refine f_callS0 (pc := 103) hX k_Tx_fillDecider ks_Tx_fillDecider ml_Tx_53 (C_Tx_fillDecider hr hn hc ha hq2 hsd (by omega)) rfl rfl rfl (Nat.le_of_ble_eq_true rfl) (Nat.le_of_ble_eq_true rfl) (Nat.le_of_ble_eq_true rfl) d_Tx_fill_103 ?_
        refine v_aload_n (pc := 106) hX rfl d_Tx_fill_106 ?_
        refine v_dup (pc := 107) hX rfl d_Tx_fill_107 ?_
        refine g_getI (pc := 108) hX fl_Tx_38 rfl rfl d_Tx_fill_108 ?_
        rw [cpF_ne (by omega), K2_3]
        refine v_iconst (pc := 111) (v := 1) hX (by decide) d_Tx_fill_111 ?_
        refine v_iadd (pc := 112) hX d_Tx_fill_112 ?_
        refine g_putI (pc := 113) hX fl_Tx_38 rfl (finI rfl rfl) rfl rfl rfl d_Tx_fill_113 ?_
        rw [K2_s (by omega)]
        refine v_iinc (pc := 116) (lo' := [some (vR _), some (vI _), some (vI _), some (vR _), some (vI _)]) hX rfl rfl d_Tx_fill_116 ?_
        refine v_goto (pc := 119) (tgt := 68) hX d_Tx_fill_119 rfl ?_
        exact VW.cast (by rw [show 1 + 6 * nJ q m + 5 * (k + 1) = (1 + 6 * nJ q m + 5 * k) + 5 by omega, i3_add _ 5]; rfl) rfl rfl ih68
      · show VW X 68 [some (vR r), some (vI (i3 a)), some (vI (i3 m)), some (vR 3), some (vI (i3 (1 + 6 * nJ q m + 5 * (nD q m (1 + 6 * nJ q m)))))] [] (gM (K2 M q (nJ q m) (nD q m (1 + 6 * nJ q m))))
        refine v_aload_n (pc := 68) hX rfl d_Tx_fill_68 ?_
        refine g_getI (pc := 69) hX fl_Tx_38 rfl rfl d_Tx_fill_69 ?_
        rw [K2_3]
        refine v_iconst (pc := 72) (v := 4) hX (by decide) d_Tx_fill_72 ?_
        refine v_icmp_ge (pc := 73) (tgt := 122) hX d_Tx_fill_73 rfl (fun h73 => ?_) (fun h73 => ?_)
        · exact f_vret (pc := 122) hX hR (rfl) d_Tx_fill_122
        · have hd4 : nD q m (1 + 6 * nJ q m) < 4 := Nat.lt_of_not_le (fun w => h73 ((i3_le (a := 4) (by decide) (by omega)).mpr w))
          have hq2 : ∀ t, t < m → K2 M q (nJ q m) (nD q m (1 + 6 * nJ q m)) c (a + t) = q t := fun t ht => by rw [K2_ne (by omega) (by omega) (by omega) hx6]; exact hq t ht
          refine v_aload_n (pc := 76) hX rfl d_Tx_fill_76 ?_
          refine v_iload_n (pc := 77) hX rfl d_Tx_fill_77 ?_
          refine v_iload_n (pc := 78) hX rfl d_Tx_fill_78 ?_
          refine v_iload (pc := 79) hX rfl d_Tx_fill_79 ?_
          refine v_bipush (pc := 81) (v := 44) hX (by decide) d_Tx_fill_81 ?_
          refine f_callS (pc := 83) hX k_Tx_startsWith ks_Tx_startsWith ml_Tx_15 (C_Tx_startsWith hr hn hc ha hq2 (by omega)) rfl rfl rfl (Nat.le_of_ble_eq_true rfl) (Nat.le_of_ble_eq_true rfl) (Nat.le_of_ble_eq_true rfl) d_Tx_fill_83 ?_
          refine f_ifeqB (pc := 86) (tgt := 122) hX d_Tx_fill_86 rfl (fun h86 => ?_) (fun h86 => False.elim (f5 ⟨hd4, h86⟩))
          exact f_vret (pc := 122) hX hR (rfl) d_Tx_fill_122
    · have hd6 : nJ q m < 6 := Nat.lt_of_not_le (fun w => h19 ((i3_le (a := 6) (by decide) (by omega)).mpr w))
      have hq1 : ∀ t, t < m → K1 M q (nJ q m) c (a + t) = q t := fun t ht => by rw [K1_ne (by omega) (by omega) (by omega)]; exact hq t ht
      refine v_aload_n (pc := 22) hX rfl d_Tx_fill_22 ?_
      refine v_iload_n (pc := 23) hX rfl d_Tx_fill_23 ?_
      refine v_iload_n (pc := 24) hX rfl d_Tx_fill_24 ?_
      refine v_iload (pc := 25) hX rfl d_Tx_fill_25 ?_
      refine v_bipush (pc := 27) (v := 59) hX (by decide) d_Tx_fill_27 ?_
      refine f_callS (pc := 29) hX k_Tx_startsWith ks_Tx_startsWith ml_Tx_15 (C_Tx_startsWith hr hn hc ha hq1 (by omega)) rfl rfl rfl (Nat.le_of_ble_eq_true rfl) (Nat.le_of_ble_eq_true rfl) (Nat.le_of_ble_eq_true rfl) d_Tx_fill_29 ?_
      refine f_ifeqB (pc := 32) (tgt := 68) hX d_Tx_fill_32 rfl (fun h32 => ?_) (fun h32 => False.elim (f3 ⟨hd6, h32⟩))
      refine VW.cast (lo' := [some (vR r), some (vI (i3 a)), some (vI (i3 m)), some (vR 3), some (vI (i3 (1 + 6 * nJ q m + 5 * 0)))]) (st' := []) (G' := gM (K2 M q (nJ q m) 0)) rfl rfl (by rw [K2_0]) ?_
      refine v_for (X := X) (head := 68) (nD q m (1 + 6 * nJ q m)) (fun kk => [some (vR r), some (vI (i3 a)), some (vI (i3 m)), some (vR 3), some (vI (i3 (1 + 6 * nJ q m + 5 * kk)))]) (fun kk => K2 M q (nJ q m) kk) (fun k hk ih68 => ?_) ?_
      · show VW X 68 [some (vR r), some (vI (i3 a)), some (vI (i3 m)), some (vR 3), some (vI (i3 (1 + 6 * nJ q m + 5 * k)))] [] (gM (K2 M q (nJ q m) k))
        obtain ⟨g1, g2⟩ := gD_at hk
        have g3 := dg_lt (ft5 g2 3 (by decide))
        have hsd := sh_dec k (by omega)
        have hq2 : ∀ t, t < m → K2 M q (nJ q m) k c (a + t) = q t := fun t ht => by rw [K2_ne (by omega) (by omega) (by omega) hx6]; exact hq t ht
        refine v_aload_n (pc := 68) hX rfl d_Tx_fill_68 ?_
        refine g_getI (pc := 69) hX fl_Tx_38 rfl rfl d_Tx_fill_69 ?_
        rw [K2_3]
        refine v_iconst (pc := 72) (v := 4) hX (by decide) d_Tx_fill_72 ?_
        refine v_icmp_ge (pc := 73) (tgt := 122) hX d_Tx_fill_73 rfl (fun h73 => False.elim (i3_ge_abs (n := 4) (k := k) (by omega) (by decide) h73)) (fun h73 => ?_)
        refine v_aload_n (pc := 76) hX rfl d_Tx_fill_76 ?_
        refine v_iload_n (pc := 77) hX rfl d_Tx_fill_77 ?_
        refine v_iload_n (pc := 78) hX rfl d_Tx_fill_78 ?_
        refine v_iload (pc := 79) hX rfl d_Tx_fill_79 ?_
        refine v_bipush (pc := 81) (v := 44) hX (by decide) d_Tx_fill_81 ?_
        refine f_callS (pc := 83) hX k_Tx_startsWith ks_Tx_startsWith ml_Tx_15 (C_Tx_startsWith hr hn hc ha hq2 (by omega)) rfl rfl rfl (Nat.le_of_ble_eq_true rfl) (Nat.le_of_ble_eq_true rfl) (Nat.le_of_ble_eq_true rfl) d_Tx_fill_83 ?_
        refine f_ifeqB (pc := 86) (tgt := 122) hX d_Tx_fill_86 rfl (fun h86 => False.elim (by rw [g1] at h86; cases h86)) (fun h86 => ?_)
        refine v_aload_n (pc := 89) hX rfl d_Tx_fill_89 ?_
        refine v_iload_n (pc := 90) hX rfl d_Tx_fill_90 ?_
        refine v_iload (pc := 91) hX rfl d_Tx_fill_91 ?_
        refine v_iadd (pc := 93) hX d_Tx_fill_93 ?_
        refine v_aload_n (pc := 94) hX rfl d_Tx_fill_94 ?_
        refine g_getR (pc := 95) hX fl_Tx_49 rfl rfl nf_3_1 d_Tx_fill_95 ?_
        refine v_aload_n (pc := 98) hX rfl d_Tx_fill_98 ?_
        refine g_getI (pc := 99) hX fl_Tx_38 rfl rfl d_Tx_fill_99 ?_
        rw [K2_3]
        refine g_aald (pc := 102) (c := 0) hX (by decide) (by decide) rfl (IX.of (n := 4) (by omega) (by decide)) (nf_dec k (by omega)) d_Tx_fill_102 ?_
        rw [← i3_add]
        refine f_callS0 (pc := 103) hX k_Tx_fillDecider ks_Tx_fillDecider ml_Tx_53 (C_Tx_fillDecider hr hn hc ha hq2 hsd (by omega)) rfl rfl rfl (Nat.le_of_ble_eq_true rfl) (Nat.le_of_ble_eq_true rfl) (Nat.le_of_ble_eq_true rfl) d_Tx_fill_103 ?_
        refine v_aload_n (pc := 106) hX rfl d_Tx_fill_106 ?_
        refine v_dup (pc := 107) hX rfl d_Tx_fill_107 ?_
        refine g_getI (pc := 108) hX fl_Tx_38 rfl rfl d_Tx_fill_108 ?_
        rw [cpF_ne (by omega), K2_3]
        refine v_iconst (pc := 111) (v := 1) hX (by decide) d_Tx_fill_111 ?_
        refine v_iadd (pc := 112) hX d_Tx_fill_112 ?_
        refine g_putI (pc := 113) hX fl_Tx_38 rfl (finI rfl rfl) rfl rfl rfl d_Tx_fill_113 ?_
        rw [K2_s (by omega)]
        refine v_iinc (pc := 116) (lo' := [some (vR _), some (vI _), some (vI _), some (vR _), some (vI _)]) hX rfl rfl d_Tx_fill_116 ?_
        refine v_goto (pc := 119) (tgt := 68) hX d_Tx_fill_119 rfl ?_
        exact VW.cast (by rw [show 1 + 6 * nJ q m + 5 * (k + 1) = (1 + 6 * nJ q m + 5 * k) + 5 by omega, i3_add _ 5]; rfl) rfl rfl ih68
      · show VW X 68 [some (vR r), some (vI (i3 a)), some (vI (i3 m)), some (vR 3), some (vI (i3 (1 + 6 * nJ q m + 5 * (nD q m (1 + 6 * nJ q m)))))] [] (gM (K2 M q (nJ q m) (nD q m (1 + 6 * nJ q m))))
        refine v_aload_n (pc := 68) hX rfl d_Tx_fill_68 ?_
        refine g_getI (pc := 69) hX fl_Tx_38 rfl rfl d_Tx_fill_69 ?_
        rw [K2_3]
        refine v_iconst (pc := 72) (v := 4) hX (by decide) d_Tx_fill_72 ?_
        refine v_icmp_ge (pc := 73) (tgt := 122) hX d_Tx_fill_73 rfl (fun h73 => ?_) (fun h73 => ?_)
        · exact f_vret (pc := 122) hX hR (rfl) d_Tx_fill_122
        · have hd4 : nD q m (1 + 6 * nJ q m) < 4 := Nat.lt_of_not_le (fun w => h73 ((i3_le (a := 4) (by decide) (by omega)).mpr w))
          have hq2 : ∀ t, t < m → K2 M q (nJ q m) (nD q m (1 + 6 * nJ q m)) c (a + t) = q t := fun t ht => by rw [K2_ne (by omega) (by omega) (by omega) hx6]; exact hq t ht
          refine v_aload_n (pc := 76) hX rfl d_Tx_fill_76 ?_
          refine v_iload_n (pc := 77) hX rfl d_Tx_fill_77 ?_
          refine v_iload_n (pc := 78) hX rfl d_Tx_fill_78 ?_
          refine v_iload (pc := 79) hX rfl d_Tx_fill_79 ?_
          refine v_bipush (pc := 81) (v := 44) hX (by decide) d_Tx_fill_81 ?_
          refine f_callS (pc := 83) hX k_Tx_startsWith ks_Tx_startsWith ml_Tx_15 (C_Tx_startsWith hr hn hc ha hq2 (by omega)) rfl rfl rfl (Nat.le_of_ble_eq_true rfl) (Nat.le_of_ble_eq_true rfl) (Nat.le_of_ble_eq_true rfl) d_Tx_fill_83 ?_
          refine f_ifeqB (pc := 86) (tgt := 122) hX d_Tx_fill_86 rfl (fun h86 => ?_) (fun h86 => False.elim (f5 ⟨hd4, h86⟩))
          exact f_vret (pc := 122) hX hR (rfl) d_Tx_fill_122
