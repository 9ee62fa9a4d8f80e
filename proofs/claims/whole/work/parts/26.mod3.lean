/-! The model: readings, odds, parts. -/
theorem d_Mo_reading_0 : decode c_Mo_reading 0 = .ok (.aload_n 0, 1) := by decide +kernel
theorem d_Mo_reading_1 : decode c_Mo_reading 1 = .ok (.iload_n 1, 1) := by decide +kernel
theorem d_Mo_reading_2 : decode c_Mo_reading 2 = .ok (.invokevirtual 170, 3) := by decide +kernel
theorem d_Mo_reading_5 : decode c_Mo_reading 5 = .ok (.ifCond .eq 5, 3) := by decide +kernel
theorem d_Mo_reading_8 : decode c_Mo_reading 8 = .ok (.iconst (-1), 1) := by decide +kernel
theorem d_Mo_reading_9 : decode c_Mo_reading 9 = .ok (.ireturn, 1) := by decide +kernel
theorem d_Mo_reading_10 : decode c_Mo_reading 10 = .ok (.iload_n 2, 1) := by decide +kernel
theorem d_Mo_reading_11 : decode c_Mo_reading 11 = .ok (.i2l, 1) := by decide +kernel
theorem d_Mo_reading_12 : decode c_Mo_reading 12 = .ok (.lconst 0, 1) := by decide +kernel
theorem d_Mo_reading_13 : decode c_Mo_reading 13 = .ok (.ldc2_w 118, 3) := by decide +kernel
theorem d_Mo_reading_16 : decode c_Mo_reading 16 = .ok (.invokestatic 104, 3) := by decide +kernel
theorem d_Mo_reading_19 : decode c_Mo_reading 19 = .ok (.ifCond .eq 15, 3) := by decide +kernel
theorem d_Mo_reading_22 : decode c_Mo_reading 22 = .ok (.iload_n 3, 1) := by decide +kernel
theorem d_Mo_reading_23 : decode c_Mo_reading 23 = .ok (.i2l, 1) := by decide +kernel
theorem d_Mo_reading_24 : decode c_Mo_reading 24 = .ok (.lconst 0, 1) := by decide +kernel
theorem d_Mo_reading_25 : decode c_Mo_reading 25 = .ok (.ldc2_w 118, 3) := by decide +kernel
theorem d_Mo_reading_28 : decode c_Mo_reading 28 = .ok (.invokestatic 104, 3) := by decide +kernel
theorem d_Mo_reading_31 : decode c_Mo_reading 31 = .ok (.ifCond .ne 6, 3) := by decide +kernel
theorem d_Mo_reading_34 : decode c_Mo_reading 34 = .ok (.bipush (-2), 2) := by decide +kernel
theorem d_Mo_reading_36 : decode c_Mo_reading 36 = .ok (.ireturn, 1) := by decide +kernel
theorem d_Mo_reading_37 : decode c_Mo_reading 37 = .ok (.aload_n 0, 1) := by decide +kernel
theorem d_Mo_reading_38 : decode c_Mo_reading 38 = .ok (.getfield 161, 3) := by decide +kernel
theorem d_Mo_reading_41 : decode c_Mo_reading 41 = .ok (.bipush 8, 2) := by decide +kernel
theorem d_Mo_reading_43 : decode c_Mo_reading 43 = .ok (.if_icmp .ne 6, 3) := by decide +kernel
theorem d_Mo_reading_46 : decode c_Mo_reading 46 = .ok (.bipush (-4), 2) := by decide +kernel
theorem d_Mo_reading_48 : decode c_Mo_reading 48 = .ok (.ireturn, 1) := by decide +kernel
theorem d_Mo_reading_49 : decode c_Mo_reading 49 = .ok (.aload_n 0, 1) := by decide +kernel
theorem d_Mo_reading_50 : decode c_Mo_reading 50 = .ok (.getfield 70, 3) := by decide +kernel
theorem d_Mo_reading_53 : decode c_Mo_reading 53 = .ok (.aload_n 0, 1) := by decide +kernel
theorem d_Mo_reading_54 : decode c_Mo_reading 54 = .ok (.getfield 161, 3) := by decide +kernel
theorem d_Mo_reading_57 : decode c_Mo_reading 57 = .ok (.iload_n 1, 1) := by decide +kernel
theorem d_Mo_reading_58 : decode c_Mo_reading 58 = .ok (.iastore, 1) := by decide +kernel
theorem d_Mo_reading_59 : decode c_Mo_reading 59 = .ok (.aload_n 0, 1) := by decide +kernel
theorem d_Mo_reading_60 : decode c_Mo_reading 60 = .ok (.getfield 73, 3) := by decide +kernel
theorem d_Mo_reading_63 : decode c_Mo_reading 63 = .ok (.aload_n 0, 1) := by decide +kernel
theorem d_Mo_reading_64 : decode c_Mo_reading 64 = .ok (.getfield 161, 3) := by decide +kernel
theorem d_Mo_reading_67 : decode c_Mo_reading 67 = .ok (.iload_n 2, 1) := by decide +kernel
theorem d_Mo_reading_68 : decode c_Mo_reading 68 = .ok (.iastore, 1) := by decide +kernel
theorem d_Mo_reading_69 : decode c_Mo_reading 69 = .ok (.aload_n 0, 1) := by decide +kernel
theorem d_Mo_reading_70 : decode c_Mo_reading 70 = .ok (.getfield 76, 3) := by decide +kernel
theorem d_Mo_reading_73 : decode c_Mo_reading 73 = .ok (.aload_n 0, 1) := by decide +kernel
theorem d_Mo_reading_74 : decode c_Mo_reading 74 = .ok (.getfield 161, 3) := by decide +kernel
theorem d_Mo_reading_77 : decode c_Mo_reading 77 = .ok (.iload_n 3, 1) := by decide +kernel
theorem d_Mo_reading_78 : decode c_Mo_reading 78 = .ok (.iastore, 1) := by decide +kernel
theorem d_Mo_reading_79 : decode c_Mo_reading 79 = .ok (.aload_n 0, 1) := by decide +kernel
theorem d_Mo_reading_80 : decode c_Mo_reading 80 = .ok (.dup, 1) := by decide +kernel
theorem d_Mo_reading_81 : decode c_Mo_reading 81 = .ok (.getfield 161, 3) := by decide +kernel
theorem d_Mo_reading_84 : decode c_Mo_reading 84 = .ok (.iconst 1, 1) := by decide +kernel
theorem d_Mo_reading_85 : decode c_Mo_reading 85 = .ok (.iadd, 1) := by decide +kernel
theorem d_Mo_reading_86 : decode c_Mo_reading 86 = .ok (.putfield 161, 3) := by decide +kernel
theorem d_Mo_reading_89 : decode c_Mo_reading 89 = .ok (.aload_n 0, 1) := by decide +kernel
theorem d_Mo_reading_90 : decode c_Mo_reading 90 = .ok (.getfield 161, 3) := by decide +kernel
theorem d_Mo_reading_93 : decode c_Mo_reading 93 = .ok (.iconst 1, 1) := by decide +kernel
theorem d_Mo_reading_94 : decode c_Mo_reading 94 = .ok (.isub, 1) := by decide +kernel
theorem d_Mo_reading_95 : decode c_Mo_reading 95 = .ok (.ireturn, 1) := by decide +kernel
theorem C_Mo_reading_out {M : MM} {n : Nat} {J : JT} {x : Int32} (hJ : MJ M n J) (hx : rg x 0 ((n : Int) - 1) = false) {u v : Int32} : AF y_Mo_reading c_Mo_reading 4 (some .int) 3 [vR 36, vI x, vI u, vI v] (M) (some (vI (-1))) (M) := by
  refine AF.of k_Mo_reading (lo := [some (vR 36), some (vI x), some (vI u), some (vI v)]) rfl (Nat.le_of_ble_eq_true rfl) (fun X hX hR => ?_)
  refine v_aload_n (pc := 0) hX rfl d_Mo_reading_0 ?_
  refine v_iload_n (pc := 1) hX rfl d_Mo_reading_1 ?_
  refine f_callV (pc := 2) hX k_Mo_noJar ki_Mo_noJar kv_Mo_noJar ml_Mo_170 (C_Mo_noJar hJ.1 hJ.2.1) rfl rfl rfl rfl rfl (Nat.le_of_ble_eq_true rfl) (Nat.le_of_ble_eq_true rfl) (Nat.le_of_ble_eq_true rfl) d_Mo_reading_2 ?_
  rw [hx]
  refine f_ifeqB (pc := 5) (tgt := 10) hX d_Mo_reading_5 rfl (fun h5 => False.elim (absurd h5 (by decide))) (fun h5 => ?_)
  refine v_iconst (pc := 8) (v := (-1)) hX (by decide) d_Mo_reading_8 ?_
  exact f_iret (pc := 9) hX hR (rfl) (rfl) d_Mo_reading_9
theorem C_Mo_reading_bad {M : MM} {n j : Nat} {J : JT} (hJ : MJ M n J) (hj : j < n) {u v : Int32} (hb : (rg u 0 9 && rg v 0 9) = false) : AF y_Mo_reading c_Mo_reading 4 (some .int) 3 [vR 36, vI (i3 j), vI u, vI v] (M) (some (vI (-2))) (M) := by
  have h6 := hJ.1
  refine AF.of k_Mo_reading (lo := [some (vR 36), some (vI (i3 j)), some (vI u), some (vI v)]) rfl (Nat.le_of_ble_eq_true rfl) (fun X hX hR => ?_)
  refine v_aload_n (pc := 0) hX rfl d_Mo_reading_0 ?_
  refine v_iload_n (pc := 1) hX rfl d_Mo_reading_1 ?_
  refine f_callV (pc := 2) hX k_Mo_noJar ki_Mo_noJar kv_Mo_noJar ml_Mo_170 (C_Mo_noJar hJ.1 hJ.2.1) rfl rfl rfl rfl rfl (Nat.le_of_ble_eq_true rfl) (Nat.le_of_ble_eq_true rfl) (Nat.le_of_ble_eq_true rfl) d_Mo_reading_2 ?_
  rw [rg_i3 hj (by omega)]
  refine f_ifeqB (pc := 5) (tgt := 10) hX d_Mo_reading_5 rfl (fun h5 => ?_) (fun h5 => False.elim (absurd h5 (by decide)))
  refine v_iload_n (pc := 10) hX rfl d_Mo_reading_10 ?_
  refine v_i2l (pc := 11) hX d_Mo_reading_11 ?_
  refine v_lconst (pc := 12) (v := 0) hX (by decide) d_Mo_reading_12 ?_
  refine v_ldc2_w (pc := 13) hX kl_Mo_118 d_Mo_reading_13 ?_
  refine f_callS (pc := 16) hX k_Mo_in ks_Mo_in ml_Mo_104 (C_Mo_in) rfl rfl rfl (Nat.le_of_ble_eq_true rfl) (Nat.le_of_ble_eq_true rfl) (Nat.le_of_ble_eq_true rfl) d_Mo_reading_16 ?_
  rw [rL_rg (L := 0) (H := 9) rfl rfl]
  refine f_ifeqB (pc := 19) (tgt := 34) hX d_Mo_reading_19 rfl (fun h19 => ?_) (fun h19 => ?_)
  · refine v_bipush (pc := 34) (v := (-2)) hX (by decide) d_Mo_reading_34 ?_
    exact f_iret (pc := 36) hX hR (rfl) (rfl) d_Mo_reading_36
  · refine v_iload_n (pc := 22) hX rfl d_Mo_reading_22 ?_
    refine v_i2l (pc := 23) hX d_Mo_reading_23 ?_
    refine v_lconst (pc := 24) (v := 0) hX (by decide) d_Mo_reading_24 ?_
    refine v_ldc2_w (pc := 25) hX kl_Mo_118 d_Mo_reading_25 ?_
    refine f_callS (pc := 28) hX k_Mo_in ks_Mo_in ml_Mo_104 (C_Mo_in) rfl rfl rfl (Nat.le_of_ble_eq_true rfl) (Nat.le_of_ble_eq_true rfl) (Nat.le_of_ble_eq_true rfl) d_Mo_reading_28 ?_
    rw [rL_rg (L := 0) (H := 9) rfl rfl]
    refine f_ifneB (pc := 31) (tgt := 37) hX d_Mo_reading_31 rfl (fun h31 => False.elim (by rw [h19, h31] at hb; cases hb)) (fun h31 => ?_)
    refine v_bipush (pc := 34) (v := (-2)) hX (by decide) d_Mo_reading_34 ?_
    exact f_iret (pc := 36) hX hR (rfl) (rfl) d_Mo_reading_36
theorem C_Mo_reading_full {M : MM} {n j : Nat} {J : JT} (hJ : MJ M n J) (hj : j < n) {u v : Int32} (hu : rg u 0 9 = true) (hv : rg v 0 9 = true) (hM : M 36 27 = i3 8) : AF y_Mo_reading c_Mo_reading 4 (some .int) 3 [vR 36, vI (i3 j), vI u, vI v] (M) (some (vI (-4))) (M) := by
  have h6 := hJ.1
  refine AF.of k_Mo_reading (lo := [some (vR 36), some (vI (i3 j)), some (vI u), some (vI v)]) rfl (Nat.le_of_ble_eq_true rfl) (fun X hX hR => ?_)
  refine v_aload_n (pc := 0) hX rfl d_Mo_reading_0 ?_
  refine v_iload_n (pc := 1) hX rfl d_Mo_reading_1 ?_
  refine f_callV (pc := 2) hX k_Mo_noJar ki_Mo_noJar kv_Mo_noJar ml_Mo_170 (C_Mo_noJar hJ.1 hJ.2.1) rfl rfl rfl rfl rfl (Nat.le_of_ble_eq_true rfl) (Nat.le_of_ble_eq_true rfl) (Nat.le_of_ble_eq_true rfl) d_Mo_reading_2 ?_
  rw [rg_i3 hj (by omega)]
  refine f_ifeqB (pc := 5) (tgt := 10) hX d_Mo_reading_5 rfl (fun h5 => ?_) (fun h5 => False.elim (absurd h5 (by decide)))
  refine v_iload_n (pc := 10) hX rfl d_Mo_reading_10 ?_
  refine v_i2l (pc := 11) hX d_Mo_reading_11 ?_
  refine v_lconst (pc := 12) (v := 0) hX (by decide) d_Mo_reading_12 ?_
  refine v_ldc2_w (pc := 13) hX kl_Mo_118 d_Mo_reading_13 ?_
  refine f_callS (pc := 16) hX k_Mo_in ks_Mo_in ml_Mo_104 (C_Mo_in) rfl rfl rfl (Nat.le_of_ble_eq_true rfl) (Nat.le_of_ble_eq_true rfl) (Nat.le_of_ble_eq_true rfl) d_Mo_reading_16 ?_
  rw [rL_rg (L := 0) (H := 9) rfl rfl]
  refine f_ifeqB (pc := 19) (tgt := 34) hX d_Mo_reading_19 rfl (fun h19 => False.elim (by rw [hu] at h19; cases h19)) (fun h19 => ?_)
  refine v_iload_n (pc := 22) hX rfl d_Mo_reading_22 ?_
  refine v_i2l (pc := 23) hX d_Mo_reading_23 ?_
  refine v_lconst (pc := 24) (v := 0) hX (by decide) d_Mo_reading_24 ?_
  refine v_ldc2_w (pc := 25) hX kl_Mo_118 d_Mo_reading_25 ?_
  refine f_callS (pc := 28) hX k_Mo_in ks_Mo_in ml_Mo_104 (C_Mo_in) rfl rfl rfl (Nat.le_of_ble_eq_true rfl) (Nat.le_of_ble_eq_true rfl) (Nat.le_of_ble_eq_true rfl) d_Mo_reading_28 ?_
  rw [rL_rg (L := 0) (H := 9) rfl rfl]
  refine f_ifneB (pc := 31) (tgt := 37) hX d_Mo_reading_31 rfl (fun h31 => ?_) (fun h31 => False.elim (by rw [hv] at h31; cases h31))
  refine v_aload_n (pc := 37) hX rfl d_Mo_reading_37 ?_
  refine g_getI (pc := 38) hX fl_Mo_161 rfl rfl d_Mo_reading_38 ?_
  refine v_bipush (pc := 41) (v := 8) hX (by decide) d_Mo_reading_41 ?_
  refine v_icmp_ne (pc := 43) (tgt := 49) hX d_Mo_reading_43 rfl (fun h43 => False.elim (h43 (by rw [hM]; rfl))) (fun h43 => ?_)
  refine v_bipush (pc := 46) (v := (-4)) hX (by decide) d_Mo_reading_46 ?_
  exact f_iret (pc := 48) hX hR (rfl) (rfl) d_Mo_reading_48
theorem C_Mo_reading_ok {M : MM} {n j : Nat} {J : JT} (hJ : MJ M n J) (hj : j < n) {u v : Int32} {rc : Nat} (hu : rg u 0 9 = true) (hv : rg v 0 9 = true) (hr : rc < 8) (hM : M 36 27 = i3 rc) : AF y_Mo_reading c_Mo_reading 4 (some .int) 3 [vR 36, vI (i3 j), vI u, vI v] (M) (some (vI (i3 rc))) (upM (upM (upM (upM M 57 rc (i3 j)) 58 rc u) 59 rc v) 36 27 (i3 (rc + 1))) := by
  have h6 := hJ.1
  refine AF.of k_Mo_reading (lo := [some (vR 36), some (vI (i3 j)), some (vI u), some (vI v)]) rfl (Nat.le_of_ble_eq_true rfl) (fun X hX hR => ?_)
  refine v_aload_n (pc := 0) hX rfl d_Mo_reading_0 ?_
  refine v_iload_n (pc := 1) hX rfl d_Mo_reading_1 ?_
  refine f_callV (pc := 2) hX k_Mo_noJar ki_Mo_noJar kv_Mo_noJar ml_Mo_170 (C_Mo_noJar hJ.1 hJ.2.1) rfl rfl rfl rfl rfl (Nat.le_of_ble_eq_true rfl) (Nat.le_of_ble_eq_true rfl) (Nat.le_of_ble_eq_true rfl) d_Mo_reading_2 ?_
  rw [rg_i3 hj (by omega)]
  refine f_ifeqB (pc := 5) (tgt := 10) hX d_Mo_reading_5 rfl (fun h5 => ?_) (fun h5 => False.elim (absurd h5 (by decide)))
  refine v_iload_n (pc := 10) hX rfl d_Mo_reading_10 ?_
  refine v_i2l (pc := 11) hX d_Mo_reading_11 ?_
  refine v_lconst (pc := 12) (v := 0) hX (by decide) d_Mo_reading_12 ?_
  refine v_ldc2_w (pc := 13) hX kl_Mo_118 d_Mo_reading_13 ?_
  refine f_callS (pc := 16) hX k_Mo_in ks_Mo_in ml_Mo_104 (C_Mo_in) rfl rfl rfl (Nat.le_of_ble_eq_true rfl) (Nat.le_of_ble_eq_true rfl) (Nat.le_of_ble_eq_true rfl) d_Mo_reading_16 ?_
  rw [rL_rg (L := 0) (H := 9) rfl rfl]
  refine f_ifeqB (pc := 19) (tgt := 34) hX d_Mo_reading_19 rfl (fun h19 => False.elim (by rw [hu] at h19; cases h19)) (fun h19 => ?_)
  refine v_iload_n (pc := 22) hX rfl d_Mo_reading_22 ?_
  refine v_i2l (pc := 23) hX d_Mo_reading_23 ?_
  refine v_lconst (pc := 24) (v := 0) hX (by decide) d_Mo_reading_24 ?_
  refine v_ldc2_w (pc := 25) hX kl_Mo_118 d_Mo_reading_25 ?_
  refine f_callS (pc := 28) hX k_Mo_in ks_Mo_in ml_Mo_104 (C_Mo_in) rfl rfl rfl (Nat.le_of_ble_eq_true rfl) (Nat.le_of_ble_eq_true rfl) (Nat.le_of_ble_eq_true rfl) d_Mo_reading_28 ?_
  rw [rL_rg (L := 0) (H := 9) rfl rfl]
  refine f_ifneB (pc := 31) (tgt := 37) hX d_Mo_reading_31 rfl (fun h31 => ?_) (fun h31 => False.elim (by rw [hv] at h31; cases h31))
  refine v_aload_n (pc := 37) hX rfl d_Mo_reading_37 ?_
  refine g_getI (pc := 38) hX fl_Mo_161 rfl rfl d_Mo_reading_38 ?_
  refine v_bipush (pc := 41) (v := 8) hX (by decide) d_Mo_reading_41 ?_
  refine v_icmp_ne (pc := 43) (tgt := 49) hX d_Mo_reading_43 rfl (fun h43 => ?_) (fun h43 => False.elim (by rw [hM] at h43; have := (i3_inj (a := rc) (b := 8) (by omega) (by decide)).mp h43; omega))
  refine v_aload_n (pc := 49) hX rfl d_Mo_reading_49 ?_
  refine g_getR (pc := 50) hX fl_Mo_70 rfl rfl nf_36_28 d_Mo_reading_50 ?_
  refine v_aload_n (pc := 53) hX rfl d_Mo_reading_53 ?_
  refine g_getI (pc := 54) hX fl_Mo_161 rfl rfl d_Mo_reading_54 ?_
  rw [hM]
  refine v_iload_n (pc := 57) hX rfl d_Mo_reading_57 ?_
  refine g_iast (pc := 58) hX rfl (IX.of (n := 8) (by omega) (by decide)) d_Mo_reading_58 ?_
  refine v_aload_n (pc := 59) hX rfl d_Mo_reading_59 ?_
  refine g_getR (pc := 60) hX fl_Mo_73 rfl rfl nf_36_29 d_Mo_reading_60 ?_
  refine v_aload_n (pc := 63) hX rfl d_Mo_reading_63 ?_
  refine g_getI (pc := 64) hX fl_Mo_161 rfl rfl d_Mo_reading_64 ?_
  rw [upM_ne (by omega), hM]
  refine v_iload_n (pc := 67) hX rfl d_Mo_reading_67 ?_
  refine g_iast (pc := 68) hX rfl (IX.of (n := 8) (by omega) (by decide)) d_Mo_reading_68 ?_
  refine v_aload_n (pc := 69) hX rfl d_Mo_reading_69 ?_
  refine g_getR (pc := 70) hX fl_Mo_76 rfl rfl nf_36_30 d_Mo_reading_70 ?_
  refine v_aload_n (pc := 73) hX rfl d_Mo_reading_73 ?_
  refine g_getI (pc := 74) hX fl_Mo_161 rfl rfl d_Mo_reading_74 ?_
  rw [upM_ne (by omega), upM_ne (by omega), hM]
  refine v_iload_n (pc := 77) hX rfl d_Mo_reading_77 ?_
  refine g_iast (pc := 78) hX rfl (IX.of (n := 8) (by omega) (by decide)) d_Mo_reading_78 ?_
  refine v_aload_n (pc := 79) hX rfl d_Mo_reading_79 ?_
  refine v_dup (pc := 80) hX rfl d_Mo_reading_80 ?_
  refine g_getI (pc := 81) hX fl_Mo_161 rfl rfl d_Mo_reading_81 ?_
  rw [upM_ne (by omega), upM_ne (by omega), upM_ne (by omega), hM]
  refine v_iconst (pc := 84) (v := 1) hX (by decide) d_Mo_reading_84 ?_
  refine v_iadd (pc := 85) hX d_Mo_reading_85 ?_
  refine g_putI (pc := 86) hX fl_Mo_161 rfl (finI rfl rfl) rfl rfl rfl d_Mo_reading_86 ?_
  refine v_aload_n (pc := 89) hX rfl d_Mo_reading_89 ?_
  refine g_getI (pc := 90) hX fl_Mo_161 rfl rfl d_Mo_reading_90 ?_
  refine v_iconst (pc := 93) (v := 1) hX (by decide) d_Mo_reading_93 ?_
  refine v_isub (pc := 94) hX d_Mo_reading_94 ?_
  exact f_iret (pc := 95) hX hR (by rw [upM_same, Int32.add_sub_cancel]) (by rw [i3_succ]) d_Mo_reading_95
theorem d_Mo_back_0 : decode c_Mo_back 0 = .ok (.iload_n 1, 1) := by decide +kernel
theorem d_Mo_back_1 : decode c_Mo_back 1 = .ok (.i2l, 1) := by decide +kernel
theorem d_Mo_back_2 : decode c_Mo_back 2 = .ok (.lconst 0, 1) := by decide +kernel
theorem d_Mo_back_3 : decode c_Mo_back 3 = .ok (.aload_n 0, 1) := by decide +kernel
theorem d_Mo_back_4 : decode c_Mo_back 4 = .ok (.getfield 161, 3) := by decide +kernel
theorem d_Mo_back_7 : decode c_Mo_back 7 = .ok (.i2l, 1) := by decide +kernel
theorem d_Mo_back_8 : decode c_Mo_back 8 = .ok (.invokestatic 104, 3) := by decide +kernel
theorem d_Mo_back_11 : decode c_Mo_back 11 = .ok (.ifCond .ne 6, 3) := by decide +kernel
theorem d_Mo_back_14 : decode c_Mo_back 14 = .ok (.bipush (-2), 2) := by decide +kernel
theorem d_Mo_back_16 : decode c_Mo_back 16 = .ok (.ireturn, 1) := by decide +kernel
theorem d_Mo_back_17 : decode c_Mo_back 17 = .ok (.aload_n 0, 1) := by decide +kernel
theorem d_Mo_back_18 : decode c_Mo_back 18 = .ok (.dup, 1) := by decide +kernel
theorem d_Mo_back_19 : decode c_Mo_back 19 = .ok (.getfield 161, 3) := by decide +kernel
theorem d_Mo_back_22 : decode c_Mo_back 22 = .ok (.iload_n 1, 1) := by decide +kernel
theorem d_Mo_back_23 : decode c_Mo_back 23 = .ok (.isub, 1) := by decide +kernel
theorem d_Mo_back_24 : decode c_Mo_back 24 = .ok (.putfield 161, 3) := by decide +kernel
theorem d_Mo_back_27 : decode c_Mo_back 27 = .ok (.aload_n 0, 1) := by decide +kernel
theorem d_Mo_back_28 : decode c_Mo_back 28 = .ok (.getfield 161, 3) := by decide +kernel
theorem d_Mo_back_31 : decode c_Mo_back 31 = .ok (.ireturn, 1) := by decide +kernel
theorem C_Mo_back_bad {M : MM} {rc : Nat} {x : Int32} (h8 : rc ≤ 8) (hM : M 36 27 = i3 rc) (hx : rg x 0 rc = false) : AF y_Mo_back c_Mo_back 2 (some .int) 2 [vR 36, vI x] (M) (some (vI (-2))) (M) := by
  refine AF.of k_Mo_back (lo := [some (vR 36), some (vI x)]) rfl (Nat.le_of_ble_eq_true rfl) (fun X hX hR => ?_)
  refine v_iload_n (pc := 0) hX rfl d_Mo_back_0 ?_
  refine v_i2l (pc := 1) hX d_Mo_back_1 ?_
  refine v_lconst (pc := 2) (v := 0) hX (by decide) d_Mo_back_2 ?_
  refine v_aload_n (pc := 3) hX rfl d_Mo_back_3 ?_
  refine g_getI (pc := 4) hX fl_Mo_161 rfl rfl d_Mo_back_4 ?_
  rw [hM]
  refine v_i2l (pc := 7) hX d_Mo_back_7 ?_
  refine f_callS (pc := 8) hX k_Mo_in ks_Mo_in ml_Mo_104 (C_Mo_in) rfl rfl rfl (Nat.le_of_ble_eq_true rfl) (Nat.le_of_ble_eq_true rfl) (Nat.le_of_ble_eq_true rfl) d_Mo_back_8 ?_
  rw [rL_rg (L := 0) (H := (rc : Int)) rfl (by rw [Int32.toInt_toInt64, i3_int (by omega)])]
  refine f_ifneB (pc := 11) (tgt := 17) hX d_Mo_back_11 rfl (fun h11 => False.elim (by rw [hx] at h11; cases h11)) (fun h11 => ?_)
  refine v_bipush (pc := 14) (v := (-2)) hX (by decide) d_Mo_back_14 ?_
  exact f_iret (pc := 16) hX hR (rfl) (rfl) d_Mo_back_16
theorem C_Mo_back_ok {M : MM} {rc k : Nat} (h8 : rc ≤ 8) (hM : M 36 27 = i3 rc) (hk : k ≤ rc) : AF y_Mo_back c_Mo_back 2 (some .int) 2 [vR 36, vI (i3 k)] (M) (some (vI (i3 (rc - k)))) (upM M 36 27 (i3 (rc - k))) := by
  refine AF.of k_Mo_back (lo := [some (vR 36), some (vI (i3 k))]) rfl (Nat.le_of_ble_eq_true rfl) (fun X hX hR => ?_)
  refine v_iload_n (pc := 0) hX rfl d_Mo_back_0 ?_
  refine v_i2l (pc := 1) hX d_Mo_back_1 ?_
  refine v_lconst (pc := 2) (v := 0) hX (by decide) d_Mo_back_2 ?_
  refine v_aload_n (pc := 3) hX rfl d_Mo_back_3 ?_
  refine g_getI (pc := 4) hX fl_Mo_161 rfl rfl d_Mo_back_4 ?_
  rw [hM]
  refine v_i2l (pc := 7) hX d_Mo_back_7 ?_
  refine f_callS (pc := 8) hX k_Mo_in ks_Mo_in ml_Mo_104 (C_Mo_in) rfl rfl rfl (Nat.le_of_ble_eq_true rfl) (Nat.le_of_ble_eq_true rfl) (Nat.le_of_ble_eq_true rfl) d_Mo_back_8 ?_
  rw [rL_rg (L := 0) (H := (rc : Int)) rfl (by rw [Int32.toInt_toInt64, i3_int (by omega)])]
  refine f_ifneB (pc := 11) (tgt := 17) hX d_Mo_back_11 rfl (fun h11 => ?_) (fun h11 => False.elim (by rw [rg_true.mpr (show (0 : Int) ≤ (i3 k).toInt ∧ (i3 k).toInt ≤ (rc : Int) by rw [i3_int (by omega)]; omega)] at h11; cases h11))
  refine v_aload_n (pc := 17) hX rfl d_Mo_back_17 ?_
  refine v_dup (pc := 18) hX rfl d_Mo_back_18 ?_
  refine g_getI (pc := 19) hX fl_Mo_161 rfl rfl d_Mo_back_19 ?_
  rw [hM]
  refine v_iload_n (pc := 22) hX rfl d_Mo_back_22 ?_
  refine v_isub (pc := 23) hX d_Mo_back_23 ?_
  rw [i3_subn hk]
  refine g_putI (pc := 24) hX fl_Mo_161 rfl (finI rfl rfl) rfl rfl rfl d_Mo_back_24 ?_
  refine v_aload_n (pc := 27) hX rfl d_Mo_back_27 ?_
  refine g_getI (pc := 28) hX fl_Mo_161 rfl rfl d_Mo_back_28 ?_
  exact f_iret (pc := 31) hX hR (upM_same) (rfl) d_Mo_back_31
theorem d_Mo_areSo_0 : decode c_Mo_areSo 0 = .ok (.iconst 1, 1) := by decide +kernel
theorem d_Mo_areSo_1 : decode c_Mo_areSo 1 = .ok (.istore_n 1, 1) := by decide +kernel
theorem d_Mo_areSo_2 : decode c_Mo_areSo 2 = .ok (.iconst 0, 1) := by decide +kernel
theorem d_Mo_areSo_3 : decode c_Mo_areSo 3 = .ok (.istore_n 2, 1) := by decide +kernel
theorem d_Mo_areSo_4 : decode c_Mo_areSo 4 = .ok (.iload_n 2, 1) := by decide +kernel
theorem d_Mo_areSo_5 : decode c_Mo_areSo 5 = .ok (.aload_n 0, 1) := by decide +kernel
theorem d_Mo_areSo_6 : decode c_Mo_areSo 6 = .ok (.getfield 161, 3) := by decide +kernel
theorem d_Mo_areSo_9 : decode c_Mo_areSo 9 = .ok (.if_icmp .ge 44, 3) := by decide +kernel
theorem d_Mo_areSo_12 : decode c_Mo_areSo 12 = .ok (.iload_n 1, 1) := by decide +kernel
theorem d_Mo_areSo_13 : decode c_Mo_areSo 13 = .ok (.ifCond .eq 32, 3) := by decide +kernel
theorem d_Mo_areSo_16 : decode c_Mo_areSo 16 = .ok (.aload_n 0, 1) := by decide +kernel
theorem d_Mo_areSo_17 : decode c_Mo_areSo 17 = .ok (.aload_n 0, 1) := by decide +kernel
theorem d_Mo_areSo_18 : decode c_Mo_areSo 18 = .ok (.getfield 70, 3) := by decide +kernel
theorem d_Mo_areSo_21 : decode c_Mo_areSo 21 = .ok (.iload_n 2, 1) := by decide +kernel
theorem d_Mo_areSo_22 : decode c_Mo_areSo 22 = .ok (.iaload, 1) := by decide +kernel
theorem d_Mo_areSo_23 : decode c_Mo_areSo 23 = .ok (.aload_n 0, 1) := by decide +kernel
theorem d_Mo_areSo_24 : decode c_Mo_areSo 24 = .ok (.getfield 73, 3) := by decide +kernel
theorem d_Mo_areSo_27 : decode c_Mo_areSo 27 = .ok (.iload_n 2, 1) := by decide +kernel
theorem d_Mo_areSo_28 : decode c_Mo_areSo 28 = .ok (.iaload, 1) := by decide +kernel
theorem d_Mo_areSo_29 : decode c_Mo_areSo 29 = .ok (.invokevirtual 167, 3) := by decide +kernel
theorem d_Mo_areSo_32 : decode c_Mo_areSo 32 = .ok (.aload_n 0, 1) := by decide +kernel
theorem d_Mo_areSo_33 : decode c_Mo_areSo 33 = .ok (.getfield 76, 3) := by decide +kernel
theorem d_Mo_areSo_36 : decode c_Mo_areSo 36 = .ok (.iload_n 2, 1) := by decide +kernel
theorem d_Mo_areSo_37 : decode c_Mo_areSo 37 = .ok (.iaload, 1) := by decide +kernel
theorem d_Mo_areSo_38 : decode c_Mo_areSo 38 = .ok (.if_icmp .ne 7, 3) := by decide +kernel
theorem d_Mo_areSo_41 : decode c_Mo_areSo 41 = .ok (.iconst 1, 1) := by decide +kernel
theorem d_Mo_areSo_42 : decode c_Mo_areSo 42 = .ok (.goto 4, 3) := by decide +kernel
theorem d_Mo_areSo_45 : decode c_Mo_areSo 45 = .ok (.iconst 0, 1) := by decide +kernel
theorem d_Mo_areSo_46 : decode c_Mo_areSo 46 = .ok (.istore_n 1, 1) := by decide +kernel
theorem d_Mo_areSo_47 : decode c_Mo_areSo 47 = .ok (.iinc 2 1, 3) := by decide +kernel
theorem d_Mo_areSo_50 : decode c_Mo_areSo 50 = .ok (.goto (-46), 3) := by decide +kernel
theorem d_Mo_areSo_53 : decode c_Mo_areSo 53 = .ok (.iload_n 1, 1) := by decide +kernel
theorem d_Mo_areSo_54 : decode c_Mo_areSo 54 = .ok (.ireturn, 1) := by decide +kernel
theorem C_Mo_areSo {M : MM} {n rc : Nat} {J : JT} {rj : Nat → Nat} {rt : JT} (hJ : MJ M n J) (hR0 : MR M n rc rj rt) : AF y_Mo_areSo c_Mo_areSo 3 (some .boolean) 3 [vR 36] (M) (some (vI (bI (soB J rc rj rt)))) (M) := by
  have h6 := hJ.1
  have hM := hJ.2.1
  have hc8 := hR0.1
  have hc3 := hR0.2.1
  refine AF.of k_Mo_areSo (lo := [some (vR 36), none, none]) rfl (Nat.le_of_ble_eq_true rfl) (fun X hX hR => ?_)
  refine v_iconst (pc := 0) (v := 1) hX (by decide) d_Mo_areSo_0 ?_
  refine v_istore_n (pc := 1) (lo' := [some (vR _), some (vI _), none]) hX (Nat.le_of_ble_eq_true rfl) rfl d_Mo_areSo_1 ?_
  refine v_iconst (pc := 2) (v := 0) hX (by decide) d_Mo_areSo_2 ?_
  refine v_istore_n (pc := 3) (lo' := [some (vR _), some (vI _), some (vI _)]) hX (Nat.le_of_ble_eq_true rfl) rfl d_Mo_areSo_3 ?_
  refine VW.cast (lo' := [some (vR 36), some (vI (bI (allB (fun x => decide (mk J (rj x) (rt x 0) = rt x 1)) 0))), some (vI (i3 0))]) (st' := []) (G' := gM (M)) rfl rfl rfl ?_
  refine v_for (X := X) (head := 4) (rc) (fun kk => [some (vR 36), some (vI (bI (allB (fun x => decide (mk J (rj x) (rt x 0) = rt x 1)) kk))), some (vI (i3 kk))]) (fun kk => M) (fun k hk ih4 => ?_) ?_
  · show VW X 4 [some (vR 36), some (vI (bI (allB (fun x => decide (mk J (rj x) (rt x 0) = rt x 1)) k))), some (vI (i3 k))] [] (gM (M))
    obtain ⟨hx1, hx2, hx3, hx4⟩ := hR0.2.2.1 k hk
    have hx5 := hR0.2.2.2 k hk
    refine v_iload_n (pc := 4) hX rfl d_Mo_areSo_4 ?_
    refine v_aload_n (pc := 5) hX rfl d_Mo_areSo_5 ?_
    refine g_getI (pc := 6) hX fl_Mo_161 rfl rfl d_Mo_areSo_6 ?_
    refine v_icmp_ge (pc := 9) (tgt := 53) hX d_Mo_areSo_9 rfl (fun h9 => False.elim (i3_ge_abs hk (by omega) (by rw [← hc3]; exact h9))) (fun h9 => ?_)
    refine v_iload_n (pc := 12) hX rfl d_Mo_areSo_12 ?_
    refine f_ifeqB (pc := 13) (tgt := 45) hX d_Mo_areSo_13 rfl (fun h13 => ?_) (fun h13 => ?_)
    · have e : allB (fun x => decide (mk J (rj x) (rt x 0) = rt x 1)) (k + 1) = false := allB_f h13
      refine v_iconst (pc := 45) (v := 0) hX (by decide) d_Mo_areSo_45 ?_
      refine v_istore_n (pc := 46) (lo' := [some (vR _), some (vI _), some (vI _)]) hX (Nat.le_of_ble_eq_true rfl) rfl d_Mo_areSo_46 ?_
      refine v_iinc (pc := 47) (lo' := [some (vR _), some (vI _), some (vI _)]) hX rfl rfl d_Mo_areSo_47 ?_
      refine v_goto (pc := 50) (tgt := 4) hX d_Mo_areSo_50 rfl ?_
      exact VW.cast (by rw [e, i3_succ]; rfl) rfl rfl ih4
    · refine v_aload_n (pc := 16) hX rfl d_Mo_areSo_16 ?_
      refine v_aload_n (pc := 17) hX rfl d_Mo_areSo_17 ?_
      refine g_getR (pc := 18) hX fl_Mo_70 rfl rfl nf_36_28 d_Mo_areSo_18 ?_
      refine v_iload_n (pc := 21) hX rfl d_Mo_areSo_21 ?_
      refine g_iald (pc := 22) hX rfl (IX.of (n := 8) (by omega) (by decide)) d_Mo_areSo_22 ?_
      rw [hx2]
      refine v_aload_n (pc := 23) hX rfl d_Mo_areSo_23 ?_
      refine g_getR (pc := 24) hX fl_Mo_73 rfl rfl nf_36_29 d_Mo_areSo_24 ?_
      refine v_iload_n (pc := 27) hX rfl d_Mo_areSo_27 ?_
      refine g_iald (pc := 28) hX rfl (IX.of (n := 8) (by omega) (by decide)) d_Mo_areSo_28 ?_
      rw [hx3]
      refine f_callV (pc := 29) hX k_Mo_markOf ki_Mo_markOf kv_Mo_markOf ml_Mo_167 (C_Mo_markOf hJ hx1 hx5) rfl rfl rfl rfl rfl (Nat.le_of_ble_eq_true rfl) (Nat.le_of_ble_eq_true rfl) (Nat.le_of_ble_eq_true rfl) d_Mo_areSo_29 ?_
      refine v_aload_n (pc := 32) hX rfl d_Mo_areSo_32 ?_
      refine g_getR (pc := 33) hX fl_Mo_76 rfl rfl nf_36_30 d_Mo_areSo_33 ?_
      refine v_iload_n (pc := 36) hX rfl d_Mo_areSo_36 ?_
      refine g_iald (pc := 37) hX rfl (IX.of (n := 8) (by omega) (by decide)) d_Mo_areSo_37 ?_
      rw [hx4]
      refine v_icmp_ne (pc := 38) (tgt := 45) hX d_Mo_areSo_38 rfl (fun h38 => ?_) (fun h38 => ?_)
      · have e : allB (fun x => decide (mk J (rj x) (rt x 0) = rt x 1)) (k + 1) = false := allB_f2 (decide_eq_false h38)
        refine v_iconst (pc := 45) (v := 0) hX (by decide) d_Mo_areSo_45 ?_
        refine v_istore_n (pc := 46) (lo' := [some (vR _), some (vI _), some (vI _)]) hX (Nat.le_of_ble_eq_true rfl) rfl d_Mo_areSo_46 ?_
        refine v_iinc (pc := 47) (lo' := [some (vR _), some (vI _), some (vI _)]) hX rfl rfl d_Mo_areSo_47 ?_
        refine v_goto (pc := 50) (tgt := 4) hX d_Mo_areSo_50 rfl ?_
        exact VW.cast (by rw [e, i3_succ]; rfl) rfl rfl ih4
      · have e : allB (fun x => decide (mk J (rj x) (rt x 0) = rt x 1)) (k + 1) = true := allB_s h13 (decide_eq_true (by simpa using h38))
        refine v_iconst (pc := 41) (v := 1) hX (by decide) d_Mo_areSo_41 ?_
        refine v_goto (pc := 42) (tgt := 46) hX d_Mo_areSo_42 rfl ?_
        refine v_istore_n (pc := 46) (lo' := [some (vR _), some (vI _), some (vI _)]) hX (Nat.le_of_ble_eq_true rfl) rfl d_Mo_areSo_46 ?_
        refine v_iinc (pc := 47) (lo' := [some (vR _), some (vI _), some (vI _)]) hX rfl rfl d_Mo_areSo_47 ?_
        refine v_goto (pc := 50) (tgt := 4) hX d_Mo_areSo_50 rfl ?_
        exact VW.cast (by rw [e, i3_succ]; rfl) rfl rfl ih4
  · show VW X 4 [some (vR 36), some (vI (bI (allB (fun x => decide (mk J (rj x) (rt x 0) = rt x 1)) (rc)))), some (vI (i3 (rc)))] [] (gM (M))
    refine v_iload_n (pc := 4) hX rfl d_Mo_areSo_4 ?_
    refine v_aload_n (pc := 5) hX rfl d_Mo_areSo_5 ?_
    refine g_getI (pc := 6) hX fl_Mo_161 rfl rfl d_Mo_areSo_6 ?_
    refine v_icmp_ge (pc := 9) (tgt := 53) hX d_Mo_areSo_9 rfl (fun h9 => ?_) (fun h9 => False.elim (absurd (by rw [hc3]; exact Int32.le_refl _) h9))
    refine v_iload_n (pc := 53) hX rfl d_Mo_areSo_53 ?_
    exact f_zret (pc := 54) hX hR (rfl) (rfl) d_Mo_areSo_54
theorem MR.eq {M M' : MM} {n rc : Nat} {rj : Nat → Nat} {rt : JT} (h : MR M n rc rj rt) (h0 : M' 36 27 = M 36 27) (he : ∀ a, 57 ≤ a → a < 60 → ∀ i, M' a i = M a i) : MR M' n rc rj rt := by
  obtain ⟨h1, h2, h3, h4⟩ := h
  refine ⟨h1, by rw [h0]; exact h2, fun x hx => ?_, h4⟩
  obtain ⟨g1, g2, g3, g4⟩ := h3 x hx
  exact ⟨g1, by rw [he 57 (by decide) (by decide)]; exact g2, by rw [he 58 (by decide) (by decide)]; exact g3, by rw [he 59 (by decide) (by decide)]; exact g4⟩
def qM (M : MM) (a j k : Nat) : MM := if k = 0 then M else upM M a j (i3 (k - 1))
theorem qM_up {M : MM} {a j k : Nat} {x : Int32} : upM (qM M a j k) a j x = upM M a j x := by
  unfold qM
  split
  · rfl
  · exact upM_up
theorem qM_s {M : MM} {a j k : Nat} : qM M a j (k + 1) = upM M a j (i3 k) := by
  unfold qM
  rw [if_neg (Nat.succ_ne_zero k)]; rfl
theorem d_Mo_sures_0 : decode c_Mo_sures 0 = .ok (.aload_n 0, 1) := by decide +kernel
theorem d_Mo_sures_1 : decode c_Mo_sures 1 = .ok (.iload_n 1, 1) := by decide +kernel
theorem d_Mo_sures_2 : decode c_Mo_sures 2 = .ok (.invokevirtual 170, 3) := by decide +kernel
theorem d_Mo_sures_5 : decode c_Mo_sures 5 = .ok (.ifCond .eq 5, 3) := by decide +kernel
theorem d_Mo_sures_8 : decode c_Mo_sures 8 = .ok (.iconst (-1), 1) := by decide +kernel
theorem d_Mo_sures_9 : decode c_Mo_sures 9 = .ok (.ireturn, 1) := by decide +kernel
theorem d_Mo_sures_10 : decode c_Mo_sures 10 = .ok (.aload_n 0, 1) := by decide +kernel
theorem d_Mo_sures_11 : decode c_Mo_sures 11 = .ok (.getfield 13, 3) := by decide +kernel
theorem d_Mo_sures_14 : decode c_Mo_sures 14 = .ok (.iload_n 1, 1) := by decide +kernel
theorem d_Mo_sures_15 : decode c_Mo_sures 15 = .ok (.iaload, 1) := by decide +kernel
theorem d_Mo_sures_16 : decode c_Mo_sures 16 = .ok (.istore_n 2, 1) := by decide +kernel
theorem d_Mo_sures_17 : decode c_Mo_sures 17 = .ok (.iconst 0, 1) := by decide +kernel
theorem d_Mo_sures_18 : decode c_Mo_sures 18 = .ok (.istore_n 3, 1) := by decide +kernel
theorem d_Mo_sures_19 : decode c_Mo_sures 19 = .ok (.iconst 0, 1) := by decide +kernel
theorem d_Mo_sures_20 : decode c_Mo_sures 20 = .ok (.istore 4, 2) := by decide +kernel
theorem d_Mo_sures_22 : decode c_Mo_sures 22 = .ok (.iload 4, 2) := by decide +kernel
theorem d_Mo_sures_24 : decode c_Mo_sures 24 = .ok (.bipush 10, 2) := by decide +kernel
theorem d_Mo_sures_26 : decode c_Mo_sures 26 = .ok (.if_icmp .ge 35, 3) := by decide +kernel
theorem d_Mo_sures_29 : decode c_Mo_sures 29 = .ok (.aload_n 0, 1) := by decide +kernel
theorem d_Mo_sures_30 : decode c_Mo_sures 30 = .ok (.getfield 13, 3) := by decide +kernel
theorem d_Mo_sures_33 : decode c_Mo_sures 33 = .ok (.iload_n 1, 1) := by decide +kernel
theorem d_Mo_sures_34 : decode c_Mo_sures 34 = .ok (.iload 4, 2) := by decide +kernel
theorem d_Mo_sures_36 : decode c_Mo_sures 36 = .ok (.iastore, 1) := by decide +kernel
theorem d_Mo_sures_37 : decode c_Mo_sures 37 = .ok (.iload_n 3, 1) := by decide +kernel
theorem d_Mo_sures_38 : decode c_Mo_sures 38 = .ok (.aload_n 0, 1) := by decide +kernel
theorem d_Mo_sures_39 : decode c_Mo_sures 39 = .ok (.invokevirtual 249, 3) := by decide +kernel
theorem d_Mo_sures_42 : decode c_Mo_sures 42 = .ok (.ifCond .eq 10, 3) := by decide +kernel
theorem d_Mo_sures_45 : decode c_Mo_sures 45 = .ok (.iconst 1, 1) := by decide +kernel
theorem d_Mo_sures_46 : decode c_Mo_sures 46 = .ok (.iload 4, 2) := by decide +kernel
theorem d_Mo_sures_48 : decode c_Mo_sures 48 = .ok (.ishl, 1) := by decide +kernel
theorem d_Mo_sures_49 : decode c_Mo_sures 49 = .ok (.goto 4, 3) := by decide +kernel
theorem d_Mo_sures_52 : decode c_Mo_sures 52 = .ok (.iconst 0, 1) := by decide +kernel
theorem d_Mo_sures_53 : decode c_Mo_sures 53 = .ok (.ior, 1) := by decide +kernel
theorem d_Mo_sures_54 : decode c_Mo_sures 54 = .ok (.istore_n 3, 1) := by decide +kernel
theorem d_Mo_sures_55 : decode c_Mo_sures 55 = .ok (.iinc 4 1, 3) := by decide +kernel
theorem d_Mo_sures_58 : decode c_Mo_sures 58 = .ok (.goto (-36), 3) := by decide +kernel
theorem d_Mo_sures_61 : decode c_Mo_sures 61 = .ok (.aload_n 0, 1) := by decide +kernel
theorem d_Mo_sures_62 : decode c_Mo_sures 62 = .ok (.getfield 13, 3) := by decide +kernel
theorem d_Mo_sures_65 : decode c_Mo_sures 65 = .ok (.iload_n 1, 1) := by decide +kernel
theorem d_Mo_sures_66 : decode c_Mo_sures 66 = .ok (.iload_n 2, 1) := by decide +kernel
theorem d_Mo_sures_67 : decode c_Mo_sures 67 = .ok (.iastore, 1) := by decide +kernel
theorem d_Mo_sures_68 : decode c_Mo_sures 68 = .ok (.iload_n 3, 1) := by decide +kernel
theorem d_Mo_sures_69 : decode c_Mo_sures 69 = .ok (.ireturn, 1) := by decide +kernel
theorem C_Mo_sures_out {M : MM} {n : Nat} {J : JT} {x : Int32} (hJ : MJ M n J) (hx : rg x 0 ((n : Int) - 1) = false) : AF y_Mo_sures c_Mo_sures 5 (some .int) 4 [vR 36, vI x] (M) (some (vI (-1))) (M) := by
  refine AF.of k_Mo_sures (lo := [some (vR 36), some (vI x), none, none, none]) rfl (Nat.le_of_ble_eq_true rfl) (fun X hX hR => ?_)
  refine v_aload_n (pc := 0) hX rfl d_Mo_sures_0 ?_
  refine v_iload_n (pc := 1) hX rfl d_Mo_sures_1 ?_
  refine f_callV (pc := 2) hX k_Mo_noJar ki_Mo_noJar kv_Mo_noJar ml_Mo_170 (C_Mo_noJar hJ.1 hJ.2.1) rfl rfl rfl rfl rfl (Nat.le_of_ble_eq_true rfl) (Nat.le_of_ble_eq_true rfl) (Nat.le_of_ble_eq_true rfl) d_Mo_sures_2 ?_
  rw [hx]
  refine f_ifeqB (pc := 5) (tgt := 10) hX d_Mo_sures_5 rfl (fun h5 => False.elim (absurd h5 (by decide))) (fun h5 => ?_)
  refine v_iconst (pc := 8) (v := (-1)) hX (by decide) d_Mo_sures_8 ?_
  exact f_iret (pc := 9) hX hR (rfl) (rfl) d_Mo_sures_9
theorem C_Mo_sures_in {M : MM} {n j rc : Nat} {J : JT} {rj : Nat → Nat} {rt : JT} (hJ : MJ M n J) (hR0 : MR M n rc rj rt) (hj : j < n) : AF y_Mo_sures c_Mo_sures 5 (some .int) 4 [vR 36, vI (i3 j)] (M) (some (vI (i3 (gjN (fun v => soB (upM J j 1 (i3 v)) rc rj rt) 10)))) (M) := by
  have h6 := hJ.1
  have hMJ : M 38 j = J j 1 := hJ.2.2.1 j hj 1 (by decide)
  refine AF.of k_Mo_sures (lo := [some (vR 36), some (vI (i3 j)), none, none, none]) rfl (Nat.le_of_ble_eq_true rfl) (fun X hX hR => ?_)
  refine v_aload_n (pc := 0) hX rfl d_Mo_sures_0 ?_
  refine v_iload_n (pc := 1) hX rfl d_Mo_sures_1 ?_
  refine f_callV (pc := 2) hX k_Mo_noJar ki_Mo_noJar kv_Mo_noJar ml_Mo_170 (C_Mo_noJar hJ.1 hJ.2.1) rfl rfl rfl rfl rfl (Nat.le_of_ble_eq_true rfl) (Nat.le_of_ble_eq_true rfl) (Nat.le_of_ble_eq_true rfl) d_Mo_sures_2 ?_
  rw [rg_i3 hj (by omega)]
  refine f_ifeqB (pc := 5) (tgt := 10) hX d_Mo_sures_5 rfl (fun h5 => ?_) (fun h5 => False.elim (absurd h5 (by decide)))
  refine v_aload_n (pc := 10) hX rfl d_Mo_sures_10 ?_
  refine g_getR (pc := 11) hX fl_Mo_13 rfl rfl nf_36_3 d_Mo_sures_11 ?_
  refine v_iload_n (pc := 14) hX rfl d_Mo_sures_14 ?_
  refine g_iald (pc := 15) hX rfl (IX.of (n := 6) (by omega) (by decide)) d_Mo_sures_15 ?_
  rw [hMJ]
  refine v_istore_n (pc := 16) (lo' := [some (vR _), some (vI _), some (vI _), none, none]) hX (Nat.le_of_ble_eq_true rfl) rfl d_Mo_sures_16 ?_
  refine v_iconst (pc := 17) (v := 0) hX (by decide) d_Mo_sures_17 ?_
  refine v_istore_n (pc := 18) (lo' := [some (vR _), some (vI _), some (vI _), some (vI _), none]) hX (Nat.le_of_ble_eq_true rfl) rfl d_Mo_sures_18 ?_
  refine v_iconst (pc := 19) (v := 0) hX (by decide) d_Mo_sures_19 ?_
  refine v_istore (pc := 20) (lo' := [some (vR _), some (vI _), some (vI _), some (vI _), some (vI _)]) hX (Nat.le_of_ble_eq_true rfl) rfl d_Mo_sures_20 ?_
  refine VW.cast (lo' := [some (vR 36), some (vI (i3 j)), some (vI (J j 1)), some (vI (i3 (gjN (fun v => soB (upM J j 1 (i3 v)) rc rj rt) 0))), some (vI (i3 0))]) (st' := []) (G' := gM (qM M 38 j 0)) rfl rfl rfl ?_
  refine v_for (X := X) (head := 22) (10) (fun kk => [some (vR 36), some (vI (i3 j)), some (vI (J j 1)), some (vI (i3 (gjN (fun v => soB (upM J j 1 (i3 v)) rc rj rt) kk))), some (vI (i3 kk))]) (fun kk => qM M 38 j kk) (fun k hk ih22 => ?_) ?_
  · show VW X 22 [some (vR 36), some (vI (i3 j)), some (vI (J j 1)), some (vI (i3 (gjN (fun v => soB (upM J j 1 (i3 v)) rc rj rt) k))), some (vI (i3 k))] [] (gM (qM M 38 j k))
    have hb := shl_i3b k (by omega)
    have hl := gjN_lt (fun v => soB (upM J j 1 (i3 v)) rc rj rt) k
    refine v_iload (pc := 22) hX rfl d_Mo_sures_22 ?_
    refine v_bipush (pc := 24) (v := 10) hX (by decide) d_Mo_sures_24 ?_
    refine v_icmp_ge (pc := 26) (tgt := 61) hX d_Mo_sures_26 rfl (fun h26 => False.elim (i3_ge_abs hk (by decide) h26)) (fun h26 => ?_)
    refine v_aload_n (pc := 29) hX rfl d_Mo_sures_29 ?_
    refine g_getR (pc := 30) hX fl_Mo_13 rfl rfl nf_36_3 d_Mo_sures_30 ?_
    refine v_iload_n (pc := 33) hX rfl d_Mo_sures_33 ?_
    refine v_iload (pc := 34) hX rfl d_Mo_sures_34 ?_
    refine g_iast (pc := 36) hX rfl (IX.of (n := 6) (by omega) (by decide)) d_Mo_sures_36 ?_
    rw [qM_up]
    refine v_iload_n (pc := 37) hX rfl d_Mo_sures_37 ?_
    refine v_aload_n (pc := 38) hX rfl d_Mo_sures_38 ?_
    refine f_callV (pc := 39) hX k_Mo_areSo ki_Mo_areSo kv_Mo_areSo ml_Mo_249 (C_Mo_areSo (hJ.set (k := 1) (by decide) (fun w => absurd w (by decide))) (hR0.eq (upM_ne (by omega)) (fun a h1 h2 i => upM_ne (by omega)))) rfl rfl rfl rfl rfl (Nat.le_of_ble_eq_true rfl) (Nat.le_of_ble_eq_true rfl) (Nat.le_of_ble_eq_true rfl) d_Mo_sures_39 ?_
    refine f_ifeqB (pc := 42) (tgt := 52) hX d_Mo_sures_42 rfl (fun h42 => ?_) (fun h42 => ?_)
    · have e : gjN (fun v => soB (upM J j 1 (i3 v)) rc rj rt) (k + 1) = gjN (fun v => soB (upM J j 1 (i3 v)) rc rj rt) k := by simp [gjN, h42]
      refine v_iconst (pc := 52) (v := 0) hX (by decide) d_Mo_sures_52 ?_
      refine v_ior (pc := 53) hX d_Mo_sures_53 ?_
      refine v_istore_n (pc := 54) (lo' := [some (vR _), some (vI _), some (vI _), some (vI _), some (vI _)]) hX (Nat.le_of_ble_eq_true rfl) rfl d_Mo_sures_54 ?_
      refine v_iinc (pc := 55) (lo' := [some (vR _), some (vI _), some (vI _), some (vI _), some (vI _)]) hX rfl rfl d_Mo_sures_55 ?_
      refine v_goto (pc := 58) (tgt := 22) hX d_Mo_sures_58 rfl ?_
      exact VW.cast (by first | (rw [e, i3_succ, hb, or_i3b k (by omega) _ hl]; rfl) | (rw [e, i3_succ, or_0]; rfl)) rfl (by rw [qM_s]) ih22
    · have e : gjN (fun v => soB (upM J j 1 (i3 v)) rc rj rt) (k + 1) = gjN (fun v => soB (upM J j 1 (i3 v)) rc rj rt) k + 2 ^ k := by simp [gjN, h42]
      refine v_iconst (pc := 45) (v := 1) hX (by decide) d_Mo_sures_45 ?_
      refine v_iload (pc := 46) hX rfl d_Mo_sures_46 ?_
      refine v_ishl (pc := 48) hX d_Mo_sures_48 ?_
      refine v_goto (pc := 49) (tgt := 53) hX d_Mo_sures_49 rfl ?_
      refine v_ior (pc := 53) hX d_Mo_sures_53 ?_
      refine v_istore_n (pc := 54) (lo' := [some (vR _), some (vI _), some (vI _), some (vI _), some (vI _)]) hX (Nat.le_of_ble_eq_true rfl) rfl d_Mo_sures_54 ?_
      refine v_iinc (pc := 55) (lo' := [some (vR _), some (vI _), some (vI _), some (vI _), some (vI _)]) hX rfl rfl d_Mo_sures_55 ?_
      refine v_goto (pc := 58) (tgt := 22) hX d_Mo_sures_58 rfl ?_
      exact VW.cast (by first | (rw [e, i3_succ, hb, or_i3b k (by omega) _ hl]; rfl) | (rw [e, i3_succ, or_0]; rfl)) rfl (by rw [qM_s]) ih22
  · show VW X 22 [some (vR 36), some (vI (i3 j)), some (vI (J j 1)), some (vI (i3 (gjN (fun v => soB (upM J j 1 (i3 v)) rc rj rt) (10)))), some (vI (i3 (10)))] [] (gM (qM M 38 j (10)))
    refine v_iload (pc := 22) hX rfl d_Mo_sures_22 ?_
    refine v_bipush (pc := 24) (v := 10) hX (by decide) d_Mo_sures_24 ?_
    refine v_icmp_ge (pc := 26) (tgt := 61) hX d_Mo_sures_26 rfl (fun h26 => ?_) (fun h26 => False.elim (by revert h26; decide))
    refine v_aload_n (pc := 61) hX rfl d_Mo_sures_61 ?_
    refine g_getR (pc := 62) hX fl_Mo_13 rfl rfl nf_36_3 d_Mo_sures_62 ?_
    refine v_iload_n (pc := 65) hX rfl d_Mo_sures_65 ?_
    refine v_iload_n (pc := 66) hX rfl d_Mo_sures_66 ?_
    refine g_iast (pc := 67) hX rfl (IX.of (n := 6) (by omega) (by decide)) d_Mo_sures_67 ?_
    rw [qM_up, upM_back2 hMJ]
    refine v_iload_n (pc := 68) hX rfl d_Mo_sures_68 ?_
    exact f_iret (pc := 69) hX hR (rfl) (rfl) d_Mo_sures_69
theorem d_Mo_fades_0 : decode c_Mo_fades 0 = .ok (.aload_n 0, 1) := by decide +kernel
theorem d_Mo_fades_1 : decode c_Mo_fades 1 = .ok (.iload_n 1, 1) := by decide +kernel
theorem d_Mo_fades_2 : decode c_Mo_fades 2 = .ok (.invokevirtual 170, 3) := by decide +kernel
theorem d_Mo_fades_5 : decode c_Mo_fades 5 = .ok (.ifCond .eq 5, 3) := by decide +kernel
theorem d_Mo_fades_8 : decode c_Mo_fades 8 = .ok (.iconst (-1), 1) := by decide +kernel
theorem d_Mo_fades_9 : decode c_Mo_fades 9 = .ok (.ireturn, 1) := by decide +kernel
theorem d_Mo_fades_10 : decode c_Mo_fades 10 = .ok (.aload_n 0, 1) := by decide +kernel
theorem d_Mo_fades_11 : decode c_Mo_fades 11 = .ok (.getfield 16, 3) := by decide +kernel
theorem d_Mo_fades_14 : decode c_Mo_fades 14 = .ok (.iload_n 1, 1) := by decide +kernel
theorem d_Mo_fades_15 : decode c_Mo_fades 15 = .ok (.iaload, 1) := by decide +kernel
theorem d_Mo_fades_16 : decode c_Mo_fades 16 = .ok (.istore_n 2, 1) := by decide +kernel
theorem d_Mo_fades_17 : decode c_Mo_fades 17 = .ok (.iconst 0, 1) := by decide +kernel
theorem d_Mo_fades_18 : decode c_Mo_fades 18 = .ok (.istore_n 3, 1) := by decide +kernel
theorem d_Mo_fades_19 : decode c_Mo_fades 19 = .ok (.iconst 0, 1) := by decide +kernel
theorem d_Mo_fades_20 : decode c_Mo_fades 20 = .ok (.istore 4, 2) := by decide +kernel
theorem d_Mo_fades_22 : decode c_Mo_fades 22 = .ok (.iload 4, 2) := by decide +kernel
theorem d_Mo_fades_24 : decode c_Mo_fades 24 = .ok (.bipush 10, 2) := by decide +kernel
theorem d_Mo_fades_26 : decode c_Mo_fades 26 = .ok (.if_icmp .ge 35, 3) := by decide +kernel
theorem d_Mo_fades_29 : decode c_Mo_fades 29 = .ok (.aload_n 0, 1) := by decide +kernel
theorem d_Mo_fades_30 : decode c_Mo_fades 30 = .ok (.getfield 16, 3) := by decide +kernel
theorem d_Mo_fades_33 : decode c_Mo_fades 33 = .ok (.iload_n 1, 1) := by decide +kernel
theorem d_Mo_fades_34 : decode c_Mo_fades 34 = .ok (.iload 4, 2) := by decide +kernel
theorem d_Mo_fades_36 : decode c_Mo_fades 36 = .ok (.iastore, 1) := by decide +kernel
theorem d_Mo_fades_37 : decode c_Mo_fades 37 = .ok (.iload_n 3, 1) := by decide +kernel
theorem d_Mo_fades_38 : decode c_Mo_fades 38 = .ok (.aload_n 0, 1) := by decide +kernel
theorem d_Mo_fades_39 : decode c_Mo_fades 39 = .ok (.invokevirtual 249, 3) := by decide +kernel
theorem d_Mo_fades_42 : decode c_Mo_fades 42 = .ok (.ifCond .eq 10, 3) := by decide +kernel
theorem d_Mo_fades_45 : decode c_Mo_fades 45 = .ok (.iconst 1, 1) := by decide +kernel
theorem d_Mo_fades_46 : decode c_Mo_fades 46 = .ok (.iload 4, 2) := by decide +kernel
theorem d_Mo_fades_48 : decode c_Mo_fades 48 = .ok (.ishl, 1) := by decide +kernel
theorem d_Mo_fades_49 : decode c_Mo_fades 49 = .ok (.goto 4, 3) := by decide +kernel
theorem d_Mo_fades_52 : decode c_Mo_fades 52 = .ok (.iconst 0, 1) := by decide +kernel
theorem d_Mo_fades_53 : decode c_Mo_fades 53 = .ok (.ior, 1) := by decide +kernel
theorem d_Mo_fades_54 : decode c_Mo_fades 54 = .ok (.istore_n 3, 1) := by decide +kernel
theorem d_Mo_fades_55 : decode c_Mo_fades 55 = .ok (.iinc 4 1, 3) := by decide +kernel
theorem d_Mo_fades_58 : decode c_Mo_fades 58 = .ok (.goto (-36), 3) := by decide +kernel
theorem d_Mo_fades_61 : decode c_Mo_fades 61 = .ok (.aload_n 0, 1) := by decide +kernel
theorem d_Mo_fades_62 : decode c_Mo_fades 62 = .ok (.getfield 16, 3) := by decide +kernel
theorem d_Mo_fades_65 : decode c_Mo_fades 65 = .ok (.iload_n 1, 1) := by decide +kernel
theorem d_Mo_fades_66 : decode c_Mo_fades 66 = .ok (.iload_n 2, 1) := by decide +kernel
theorem d_Mo_fades_67 : decode c_Mo_fades 67 = .ok (.iastore, 1) := by decide +kernel
theorem d_Mo_fades_68 : decode c_Mo_fades 68 = .ok (.iload_n 3, 1) := by decide +kernel
theorem d_Mo_fades_69 : decode c_Mo_fades 69 = .ok (.ireturn, 1) := by decide +kernel
theorem C_Mo_fades_out {M : MM} {n : Nat} {J : JT} {x : Int32} (hJ : MJ M n J) (hx : rg x 0 ((n : Int) - 1) = false) : AF y_Mo_fades c_Mo_fades 5 (some .int) 4 [vR 36, vI x] (M) (some (vI (-1))) (M) := by
  refine AF.of k_Mo_fades (lo := [some (vR 36), some (vI x), none, none, none]) rfl (Nat.le_of_ble_eq_true rfl) (fun X hX hR => ?_)
  refine v_aload_n (pc := 0) hX rfl d_Mo_fades_0 ?_
  refine v_iload_n (pc := 1) hX rfl d_Mo_fades_1 ?_
  refine f_callV (pc := 2) hX k_Mo_noJar ki_Mo_noJar kv_Mo_noJar ml_Mo_170 (C_Mo_noJar hJ.1 hJ.2.1) rfl rfl rfl rfl rfl (Nat.le_of_ble_eq_true rfl) (Nat.le_of_ble_eq_true rfl) (Nat.le_of_ble_eq_true rfl) d_Mo_fades_2 ?_
  rw [hx]
  refine f_ifeqB (pc := 5) (tgt := 10) hX d_Mo_fades_5 rfl (fun h5 => False.elim (absurd h5 (by decide))) (fun h5 => ?_)
  refine v_iconst (pc := 8) (v := (-1)) hX (by decide) d_Mo_fades_8 ?_
  exact f_iret (pc := 9) hX hR (rfl) (rfl) d_Mo_fades_9
theorem C_Mo_fades_in {M : MM} {n j rc : Nat} {J : JT} {rj : Nat → Nat} {rt : JT} (hJ : MJ M n J) (hR0 : MR M n rc rj rt) (hj : j < n) : AF y_Mo_fades c_Mo_fades 5 (some .int) 4 [vR 36, vI (i3 j)] (M) (some (vI (i3 (gjN (fun v => soB (upM J j 2 (i3 v)) rc rj rt) 10)))) (M) := by
  have h6 := hJ.1
  have hMJ : M 39 j = J j 2 := hJ.2.2.1 j hj 2 (by decide)
  refine AF.of k_Mo_fades (lo := [some (vR 36), some (vI (i3 j)), none, none, none]) rfl (Nat.le_of_ble_eq_true rfl) (fun X hX hR => ?_)
  refine v_aload_n (pc := 0) hX rfl d_Mo_fades_0 ?_
  refine v_iload_n (pc := 1) hX rfl d_Mo_fades_1 ?_
  refine f_callV (pc := 2) hX k_Mo_noJar ki_Mo_noJar kv_Mo_noJar ml_Mo_170 (C_Mo_noJar hJ.1 hJ.2.1) rfl rfl rfl rfl rfl (Nat.le_of_ble_eq_true rfl) (Nat.le_of_ble_eq_true rfl) (Nat.le_of_ble_eq_true rfl) d_Mo_fades_2 ?_
  rw [rg_i3 hj (by omega)]
  refine f_ifeqB (pc := 5) (tgt := 10) hX d_Mo_fades_5 rfl (fun h5 => ?_) (fun h5 => False.elim (absurd h5 (by decide)))
  refine v_aload_n (pc := 10) hX rfl d_Mo_fades_10 ?_
  refine g_getR (pc := 11) hX fl_Mo_16 rfl rfl nf_36_4 d_Mo_fades_11 ?_
  refine v_iload_n (pc := 14) hX rfl d_Mo_fades_14 ?_
  refine g_iald (pc := 15) hX rfl (IX.of (n := 6) (by omega) (by decide)) d_Mo_fades_15 ?_
  rw [hMJ]
  refine v_istore_n (pc := 16) (lo' := [some (vR _), some (vI _), some (vI _), none, none]) hX (Nat.le_of_ble_eq_true rfl) rfl d_Mo_fades_16 ?_
  refine v_iconst (pc := 17) (v := 0) hX (by decide) d_Mo_fades_17 ?_
  refine v_istore_n (pc := 18) (lo' := [some (vR _), some (vI _), some (vI _), some (vI _), none]) hX (Nat.le_of_ble_eq_true rfl) rfl d_Mo_fades_18 ?_
  refine v_iconst (pc := 19) (v := 0) hX (by decide) d_Mo_fades_19 ?_
  refine v_istore (pc := 20) (lo' := [some (vR _), some (vI _), some (vI _), some (vI _), some (vI _)]) hX (Nat.le_of_ble_eq_true rfl) rfl d_Mo_fades_20 ?_
  refine VW.cast (lo' := [some (vR 36), some (vI (i3 j)), some (vI (J j 2)), some (vI (i3 (gjN (fun v => soB (upM J j 2 (i3 v)) rc rj rt) 0))), some (vI (i3 0))]) (st' := []) (G' := gM (qM M 39 j 0)) rfl rfl rfl ?_
  refine v_for (X := X) (head := 22) (10) (fun kk => [some (vR 36), some (vI (i3 j)), some (vI (J j 2)), some (vI (i3 (gjN (fun v => soB (upM J j 2 (i3 v)) rc rj rt) kk))), some (vI (i3 kk))]) (fun kk => qM M 39 j kk) (fun k hk ih22 => ?_) ?_
  · show VW X 22 [some (vR 36), some (vI (i3 j)), some (vI (J j 2)), some (vI (i3 (gjN (fun v => soB (upM J j 2 (i3 v)) rc rj rt) k))), some (vI (i3 k))] [] (gM (qM M 39 j k))
    have hb := shl_i3b k (by omega)
    have hl := gjN_lt (fun v => soB (upM J j 2 (i3 v)) rc rj rt) k
    refine v_iload (pc := 22) hX rfl d_Mo_fades_22 ?_
    refine v_bipush (pc := 24) (v := 10) hX (by decide) d_Mo_fades_24 ?_
    refine v_icmp_ge (pc := 26) (tgt := 61) hX d_Mo_fades_26 rfl (fun h26 => False.elim (i3_ge_abs hk (by decide) h26)) (fun h26 => ?_)
    refine v_aload_n (pc := 29) hX rfl d_Mo_fades_29 ?_
    refine g_getR (pc := 30) hX fl_Mo_16 rfl rfl nf_36_4 d_Mo_fades_30 ?_
    refine v_iload_n (pc := 33) hX rfl d_Mo_fades_33 ?_
    refine v_iload (pc := 34) hX rfl d_Mo_fades_34 ?_
    refine g_iast (pc := 36) hX rfl (IX.of (n := 6) (by omega) (by decide)) d_Mo_fades_36 ?_
    rw [qM_up]
    refine v_iload_n (pc := 37) hX rfl d_Mo_fades_37 ?_
    refine v_aload_n (pc := 38) hX rfl d_Mo_fades_38 ?_
    refine f_callV (pc := 39) hX k_Mo_areSo ki_Mo_areSo kv_Mo_areSo ml_Mo_249 (C_Mo_areSo (hJ.set (k := 2) (by decide) (fun w => absurd w (by decide))) (hR0.eq (upM_ne (by omega)) (fun a h1 h2 i => upM_ne (by omega)))) rfl rfl rfl rfl rfl (Nat.le_of_ble_eq_true rfl) (Nat.le_of_ble_eq_true rfl) (Nat.le_of_ble_eq_true rfl) d_Mo_fades_39 ?_
    refine f_ifeqB (pc := 42) (tgt := 52) hX d_Mo_fades_42 rfl (fun h42 => ?_) (fun h42 => ?_)
    · have e : gjN (fun v => soB (upM J j 2 (i3 v)) rc rj rt) (k + 1) = gjN (fun v => soB (upM J j 2 (i3 v)) rc rj rt) k := by simp [gjN, h42]
      refine v_iconst (pc := 52) (v := 0) hX (by decide) d_Mo_fades_52 ?_
      refine v_ior (pc := 53) hX d_Mo_fades_53 ?_
      refine v_istore_n (pc := 54) (lo' := [some (vR _), some (vI _), some (vI _), some (vI _), some (vI _)]) hX (Nat.le_of_ble_eq_true rfl) rfl d_Mo_fades_54 ?_
      refine v_iinc (pc := 55) (lo' := [some (vR _), some (vI _), some (vI _), some (vI _), some (vI _)]) hX rfl rfl d_Mo_fades_55 ?_
      refine v_goto (pc := 58) (tgt := 22) hX d_Mo_fades_58 rfl ?_
      exact VW.cast (by first | (rw [e, i3_succ, hb, or_i3b k (by omega) _ hl]; rfl) | (rw [e, i3_succ, or_0]; rfl)) rfl (by rw [qM_s]) ih22
    · have e : gjN (fun v => soB (upM J j 2 (i3 v)) rc rj rt) (k + 1) = gjN (fun v => soB (upM J j 2 (i3 v)) rc rj rt) k + 2 ^ k := by simp [gjN, h42]
      refine v_iconst (pc := 45) (v := 1) hX (by decide) d_Mo_fades_45 ?_
      refine v_iload (pc := 46) hX rfl d_Mo_fades_46 ?_
      refine v_ishl (pc := 48) hX d_Mo_fades_48 ?_
      refine v_goto (pc := 49) (tgt := 53) hX d_Mo_fades_49 rfl ?_
      refine v_ior (pc := 53) hX d_Mo_fades_53 ?_
      refine v_istore_n (pc := 54) (lo' := [some (vR _), some (vI _), some (vI _), some (vI _), some (vI _)]) hX (Nat.le_of_ble_eq_true rfl) rfl d_Mo_fades_54 ?_
      refine v_iinc (pc := 55) (lo' := [some (vR _), some (vI _), some (vI _), some (vI _), some (vI _)]) hX rfl rfl d_Mo_fades_55 ?_
      refine v_goto (pc := 58) (tgt := 22) hX d_Mo_fades_58 rfl ?_
      exact VW.cast (by first | (rw [e, i3_succ, hb, or_i3b k (by omega) _ hl]; rfl) | (rw [e, i3_succ, or_0]; rfl)) rfl (by rw [qM_s]) ih22
  · show VW X 22 [some (vR 36), some (vI (i3 j)), some (vI (J j 2)), some (vI (i3 (gjN (fun v => soB (upM J j 2 (i3 v)) rc rj rt) (10)))), some (vI (i3 (10)))] [] (gM (qM M 39 j (10)))
    refine v_iload (pc := 22) hX rfl d_Mo_fades_22 ?_
    refine v_bipush (pc := 24) (v := 10) hX (by decide) d_Mo_fades_24 ?_
    refine v_icmp_ge (pc := 26) (tgt := 61) hX d_Mo_fades_26 rfl (fun h26 => ?_) (fun h26 => False.elim (by revert h26; decide))
    refine v_aload_n (pc := 61) hX rfl d_Mo_fades_61 ?_
    refine g_getR (pc := 62) hX fl_Mo_16 rfl rfl nf_36_4 d_Mo_fades_62 ?_
    refine v_iload_n (pc := 65) hX rfl d_Mo_fades_65 ?_
    refine v_iload_n (pc := 66) hX rfl d_Mo_fades_66 ?_
    refine g_iast (pc := 67) hX rfl (IX.of (n := 6) (by omega) (by decide)) d_Mo_fades_67 ?_
    rw [qM_up, upM_back2 hMJ]
    refine v_iload_n (pc := 68) hX rfl d_Mo_fades_68 ?_
    exact f_iret (pc := 69) hX hR (rfl) (rfl) d_Mo_fades_69
theorem d_Mo_kinds_0 : decode c_Mo_kinds 0 = .ok (.aload_n 0, 1) := by decide +kernel
theorem d_Mo_kinds_1 : decode c_Mo_kinds 1 = .ok (.iload_n 1, 1) := by decide +kernel
theorem d_Mo_kinds_2 : decode c_Mo_kinds 2 = .ok (.invokevirtual 170, 3) := by decide +kernel
theorem d_Mo_kinds_5 : decode c_Mo_kinds 5 = .ok (.ifCond .eq 5, 3) := by decide +kernel
theorem d_Mo_kinds_8 : decode c_Mo_kinds 8 = .ok (.iconst (-1), 1) := by decide +kernel
theorem d_Mo_kinds_9 : decode c_Mo_kinds 9 = .ok (.ireturn, 1) := by decide +kernel
theorem d_Mo_kinds_10 : decode c_Mo_kinds 10 = .ok (.aload_n 0, 1) := by decide +kernel
theorem d_Mo_kinds_11 : decode c_Mo_kinds 11 = .ok (.getfield 7, 3) := by decide +kernel
theorem d_Mo_kinds_14 : decode c_Mo_kinds 14 = .ok (.iload_n 1, 1) := by decide +kernel
theorem d_Mo_kinds_15 : decode c_Mo_kinds 15 = .ok (.iaload, 1) := by decide +kernel
theorem d_Mo_kinds_16 : decode c_Mo_kinds 16 = .ok (.istore_n 2, 1) := by decide +kernel
theorem d_Mo_kinds_17 : decode c_Mo_kinds 17 = .ok (.iconst 0, 1) := by decide +kernel
theorem d_Mo_kinds_18 : decode c_Mo_kinds 18 = .ok (.istore_n 3, 1) := by decide +kernel
theorem d_Mo_kinds_19 : decode c_Mo_kinds 19 = .ok (.iconst 0, 1) := by decide +kernel
theorem d_Mo_kinds_20 : decode c_Mo_kinds 20 = .ok (.istore 4, 2) := by decide +kernel
theorem d_Mo_kinds_22 : decode c_Mo_kinds 22 = .ok (.iload 4, 2) := by decide +kernel
theorem d_Mo_kinds_24 : decode c_Mo_kinds 24 = .ok (.iconst 3, 1) := by decide +kernel
theorem d_Mo_kinds_25 : decode c_Mo_kinds 25 = .ok (.if_icmp .ge 35, 3) := by decide +kernel
theorem d_Mo_kinds_28 : decode c_Mo_kinds 28 = .ok (.aload_n 0, 1) := by decide +kernel
theorem d_Mo_kinds_29 : decode c_Mo_kinds 29 = .ok (.getfield 7, 3) := by decide +kernel
theorem d_Mo_kinds_32 : decode c_Mo_kinds 32 = .ok (.iload_n 1, 1) := by decide +kernel
theorem d_Mo_kinds_33 : decode c_Mo_kinds 33 = .ok (.iload 4, 2) := by decide +kernel
theorem d_Mo_kinds_35 : decode c_Mo_kinds 35 = .ok (.iastore, 1) := by decide +kernel
theorem d_Mo_kinds_36 : decode c_Mo_kinds 36 = .ok (.iload_n 3, 1) := by decide +kernel
theorem d_Mo_kinds_37 : decode c_Mo_kinds 37 = .ok (.aload_n 0, 1) := by decide +kernel
theorem d_Mo_kinds_38 : decode c_Mo_kinds 38 = .ok (.invokevirtual 249, 3) := by decide +kernel
theorem d_Mo_kinds_41 : decode c_Mo_kinds 41 = .ok (.ifCond .eq 10, 3) := by decide +kernel
theorem d_Mo_kinds_44 : decode c_Mo_kinds 44 = .ok (.iconst 1, 1) := by decide +kernel
theorem d_Mo_kinds_45 : decode c_Mo_kinds 45 = .ok (.iload 4, 2) := by decide +kernel
theorem d_Mo_kinds_47 : decode c_Mo_kinds 47 = .ok (.ishl, 1) := by decide +kernel
theorem d_Mo_kinds_48 : decode c_Mo_kinds 48 = .ok (.goto 4, 3) := by decide +kernel
theorem d_Mo_kinds_51 : decode c_Mo_kinds 51 = .ok (.iconst 0, 1) := by decide +kernel
theorem d_Mo_kinds_52 : decode c_Mo_kinds 52 = .ok (.ior, 1) := by decide +kernel
theorem d_Mo_kinds_53 : decode c_Mo_kinds 53 = .ok (.istore_n 3, 1) := by decide +kernel
theorem d_Mo_kinds_54 : decode c_Mo_kinds 54 = .ok (.iinc 4 1, 3) := by decide +kernel
theorem d_Mo_kinds_57 : decode c_Mo_kinds 57 = .ok (.goto (-35), 3) := by decide +kernel
theorem d_Mo_kinds_60 : decode c_Mo_kinds 60 = .ok (.aload_n 0, 1) := by decide +kernel
theorem d_Mo_kinds_61 : decode c_Mo_kinds 61 = .ok (.getfield 7, 3) := by decide +kernel
theorem d_Mo_kinds_64 : decode c_Mo_kinds 64 = .ok (.iload_n 1, 1) := by decide +kernel
theorem d_Mo_kinds_65 : decode c_Mo_kinds 65 = .ok (.iload_n 2, 1) := by decide +kernel
theorem d_Mo_kinds_66 : decode c_Mo_kinds 66 = .ok (.iastore, 1) := by decide +kernel
theorem d_Mo_kinds_67 : decode c_Mo_kinds 67 = .ok (.iload_n 3, 1) := by decide +kernel
theorem d_Mo_kinds_68 : decode c_Mo_kinds 68 = .ok (.ireturn, 1) := by decide +kernel
theorem C_Mo_kinds_out {M : MM} {n : Nat} {J : JT} {x : Int32} (hJ : MJ M n J) (hx : rg x 0 ((n : Int) - 1) = false) : AF y_Mo_kinds c_Mo_kinds 5 (some .int) 4 [vR 36, vI x] (M) (some (vI (-1))) (M) := by
  refine AF.of k_Mo_kinds (lo := [some (vR 36), some (vI x), none, none, none]) rfl (Nat.le_of_ble_eq_true rfl) (fun X hX hR => ?_)
  refine v_aload_n (pc := 0) hX rfl d_Mo_kinds_0 ?_
  refine v_iload_n (pc := 1) hX rfl d_Mo_kinds_1 ?_
  refine f_callV (pc := 2) hX k_Mo_noJar ki_Mo_noJar kv_Mo_noJar ml_Mo_170 (C_Mo_noJar hJ.1 hJ.2.1) rfl rfl rfl rfl rfl (Nat.le_of_ble_eq_true rfl) (Nat.le_of_ble_eq_true rfl) (Nat.le_of_ble_eq_true rfl) d_Mo_kinds_2 ?_
  rw [hx]
  refine f_ifeqB (pc := 5) (tgt := 10) hX d_Mo_kinds_5 rfl (fun h5 => False.elim (absurd h5 (by decide))) (fun h5 => ?_)
  refine v_iconst (pc := 8) (v := (-1)) hX (by decide) d_Mo_kinds_8 ?_
  exact f_iret (pc := 9) hX hR (rfl) (rfl) d_Mo_kinds_9
theorem C_Mo_kinds_in {M : MM} {n j rc : Nat} {J : JT} {rj : Nat → Nat} {rt : JT} (hJ : MJ M n J) (hR0 : MR M n rc rj rt) (hj : j < n) : AF y_Mo_kinds c_Mo_kinds 5 (some .int) 4 [vR 36, vI (i3 j)] (M) (some (vI (i3 (gjN (fun v => soB (upM J j 0 (i3 v)) rc rj rt) 3)))) (M) := by
  have h6 := hJ.1
  have hMJ : M 37 j = J j 0 := hJ.2.2.1 j hj 0 (by decide)
  refine AF.of k_Mo_kinds (lo := [some (vR 36), some (vI (i3 j)), none, none, none]) rfl (Nat.le_of_ble_eq_true rfl) (fun X hX hR => ?_)
  refine v_aload_n (pc := 0) hX rfl d_Mo_kinds_0 ?_
  refine v_iload_n (pc := 1) hX rfl d_Mo_kinds_1 ?_
  refine f_callV (pc := 2) hX k_Mo_noJar ki_Mo_noJar kv_Mo_noJar ml_Mo_170 (C_Mo_noJar hJ.1 hJ.2.1) rfl rfl rfl rfl rfl (Nat.le_of_ble_eq_true rfl) (Nat.le_of_ble_eq_true rfl) (Nat.le_of_ble_eq_true rfl) d_Mo_kinds_2 ?_
  rw [rg_i3 hj (by omega)]
  refine f_ifeqB (pc := 5) (tgt := 10) hX d_Mo_kinds_5 rfl (fun h5 => ?_) (fun h5 => False.elim (absurd h5 (by decide)))
  refine v_aload_n (pc := 10) hX rfl d_Mo_kinds_10 ?_
  refine g_getR (pc := 11) hX fl_Mo_7 rfl rfl nf_36_2 d_Mo_kinds_11 ?_
  refine v_iload_n (pc := 14) hX rfl d_Mo_kinds_14 ?_
  refine g_iald (pc := 15) hX rfl (IX.of (n := 6) (by omega) (by decide)) d_Mo_kinds_15 ?_
  rw [hMJ]
  refine v_istore_n (pc := 16) (lo' := [some (vR _), some (vI _), some (vI _), none, none]) hX (Nat.le_of_ble_eq_true rfl) rfl d_Mo_kinds_16 ?_
  refine v_iconst (pc := 17) (v := 0) hX (by decide) d_Mo_kinds_17 ?_
  refine v_istore_n (pc := 18) (lo' := [some (vR _), some (vI _), some (vI _), some (vI _), none]) hX (Nat.le_of_ble_eq_true rfl) rfl d_Mo_kinds_18 ?_
  refine v_iconst (pc := 19) (v := 0) hX (by decide) d_Mo_kinds_19 ?_
  refine v_istore (pc := 20) (lo' := [some (vR _), some (vI _), some (vI _), some (vI _), some (vI _)]) hX (Nat.le_of_ble_eq_true rfl) rfl d_Mo_kinds_20 ?_
  refine VW.cast (lo' := [some (vR 36), some (vI (i3 j)), some (vI (J j 0)), some (vI (i3 (gjN (fun v => soB (upM J j 0 (i3 v)) rc rj rt) 0))), some (vI (i3 0))]) (st' := []) (G' := gM (qM M 37 j 0)) rfl rfl rfl ?_
  refine v_for (X := X) (head := 22) (3) (fun kk => [some (vR 36), some (vI (i3 j)), some (vI (J j 0)), some (vI (i3 (gjN (fun v => soB (upM J j 0 (i3 v)) rc rj rt) kk))), some (vI (i3 kk))]) (fun kk => qM M 37 j kk) (fun k hk ih22 => ?_) ?_
  · show VW X 22 [some (vR 36), some (vI (i3 j)), some (vI (J j 0)), some (vI (i3 (gjN (fun v => soB (upM J j 0 (i3 v)) rc rj rt) k))), some (vI (i3 k))] [] (gM (qM M 37 j k))
    have hb := shl_i3b k (by omega)
    have hl := gjN_lt (fun v => soB (upM J j 0 (i3 v)) rc rj rt) k
    refine v_iload (pc := 22) hX rfl d_Mo_kinds_22 ?_
    refine v_iconst (pc := 24) (v := 3) hX (by decide) d_Mo_kinds_24 ?_
    refine v_icmp_ge (pc := 25) (tgt := 60) hX d_Mo_kinds_25 rfl (fun h25 => False.elim (i3_ge_abs hk (by decide) h25)) (fun h25 => ?_)
    refine v_aload_n (pc := 28) hX rfl d_Mo_kinds_28 ?_
    refine g_getR (pc := 29) hX fl_Mo_7 rfl rfl nf_36_2 d_Mo_kinds_29 ?_
    refine v_iload_n (pc := 32) hX rfl d_Mo_kinds_32 ?_
    refine v_iload (pc := 33) hX rfl d_Mo_kinds_33 ?_
    refine g_iast (pc := 35) hX rfl (IX.of (n := 6) (by omega) (by decide)) d_Mo_kinds_35 ?_
    rw [qM_up]
    refine v_iload_n (pc := 36) hX rfl d_Mo_kinds_36 ?_
    refine v_aload_n (pc := 37) hX rfl d_Mo_kinds_37 ?_
    refine f_callV (pc := 38) hX k_Mo_areSo ki_Mo_areSo kv_Mo_areSo ml_Mo_249 (C_Mo_areSo (hJ.set (k := 0) (by decide) (fun _ => i3_k3 (by omega))) (hR0.eq (upM_ne (by omega)) (fun a h1 h2 i => upM_ne (by omega)))) rfl rfl rfl rfl rfl (Nat.le_of_ble_eq_true rfl) (Nat.le_of_ble_eq_true rfl) (Nat.le_of_ble_eq_true rfl) d_Mo_kinds_38 ?_
    refine f_ifeqB (pc := 41) (tgt := 51) hX d_Mo_kinds_41 rfl (fun h41 => ?_) (fun h41 => ?_)
    · have e : gjN (fun v => soB (upM J j 0 (i3 v)) rc rj rt) (k + 1) = gjN (fun v => soB (upM J j 0 (i3 v)) rc rj rt) k := by simp [gjN, h41]
      refine v_iconst (pc := 51) (v := 0) hX (by decide) d_Mo_kinds_51 ?_
      refine v_ior (pc := 52) hX d_Mo_kinds_52 ?_
      refine v_istore_n (pc := 53) (lo' := [some (vR _), some (vI _), some (vI _), some (vI _), some (vI _)]) hX (Nat.le_of_ble_eq_true rfl) rfl d_Mo_kinds_53 ?_
      refine v_iinc (pc := 54) (lo' := [some (vR _), some (vI _), some (vI _), some (vI _), some (vI _)]) hX rfl rfl d_Mo_kinds_54 ?_
      refine v_goto (pc := 57) (tgt := 22) hX d_Mo_kinds_57 rfl ?_
      exact VW.cast (by first | (rw [e, i3_succ, hb, or_i3b k (by omega) _ hl]; rfl) | (rw [e, i3_succ, or_0]; rfl)) rfl (by rw [qM_s]) ih22
    · have e : gjN (fun v => soB (upM J j 0 (i3 v)) rc rj rt) (k + 1) = gjN (fun v => soB (upM J j 0 (i3 v)) rc rj rt) k + 2 ^ k := by simp [gjN, h41]
      refine v_iconst (pc := 44) (v := 1) hX (by decide) d_Mo_kinds_44 ?_
      refine v_iload (pc := 45) hX rfl d_Mo_kinds_45 ?_
      refine v_ishl (pc := 47) hX d_Mo_kinds_47 ?_
      refine v_goto (pc := 48) (tgt := 52) hX d_Mo_kinds_48 rfl ?_
      refine v_ior (pc := 52) hX d_Mo_kinds_52 ?_
      refine v_istore_n (pc := 53) (lo' := [some (vR _), some (vI _), some (vI _), some (vI _), some (vI _)]) hX (Nat.le_of_ble_eq_true rfl) rfl d_Mo_kinds_53 ?_
      refine v_iinc (pc := 54) (lo' := [some (vR _), some (vI _), some (vI _), some (vI _), some (vI _)]) hX rfl rfl d_Mo_kinds_54 ?_
      refine v_goto (pc := 57) (tgt := 22) hX d_Mo_kinds_57 rfl ?_
      exact VW.cast (by first | (rw [e, i3_succ, hb, or_i3b k (by omega) _ hl]; rfl) | (rw [e, i3_succ, or_0]; rfl)) rfl (by rw [qM_s]) ih22
  · show VW X 22 [some (vR 36), some (vI (i3 j)), some (vI (J j 0)), some (vI (i3 (gjN (fun v => soB (upM J j 0 (i3 v)) rc rj rt) (3)))), some (vI (i3 (3)))] [] (gM (qM M 37 j (3)))
    refine v_iload (pc := 22) hX rfl d_Mo_kinds_22 ?_
    refine v_iconst (pc := 24) (v := 3) hX (by decide) d_Mo_kinds_24 ?_
    refine v_icmp_ge (pc := 25) (tgt := 60) hX d_Mo_kinds_25 rfl (fun h25 => ?_) (fun h25 => False.elim (by revert h25; decide))
    refine v_aload_n (pc := 60) hX rfl d_Mo_kinds_60 ?_
    refine g_getR (pc := 61) hX fl_Mo_7 rfl rfl nf_36_2 d_Mo_kinds_61 ?_
    refine v_iload_n (pc := 64) hX rfl d_Mo_kinds_64 ?_
    refine v_iload_n (pc := 65) hX rfl d_Mo_kinds_65 ?_
    refine g_iast (pc := 66) hX rfl (IX.of (n := 6) (by omega) (by decide)) d_Mo_kinds_66 ?_
    rw [qM_up, upM_back2 hMJ]
    refine v_iload_n (pc := 67) hX rfl d_Mo_kinds_67 ?_
    exact f_iret (pc := 68) hX hR (rfl) (rfl) d_Mo_kinds_68
-- odds
abbrev l6 (k : Nat) : Int64 := Int64.ofNat k
theorem l6_i3 : ∀ x, x < 64 → (i3 x).toInt64 = l6 x := by decide +kernel
def eu (u d : Nat) : Nat → Nat × Nat
  | 0 => (u, d)
  | k + 1 => if (eu u d k).2 = 0 then eu u d k else ((eu u d k).2, (eu u d k).1 % (eu u d k).2)
theorem eu_lt {u d : Nat} (hu : u < 64) (hd : d < 64) : ∀ k, (eu u d k).1 < 64 ∧ (eu u d k).2 < 64
  | 0 => ⟨hu, hd⟩
  | k + 1 => by
    obtain ⟨h1, h2⟩ := eu_lt hu hd k
    unfold eu
    split
    · exact ⟨h1, h2⟩
    · exact ⟨h2, Nat.lt_trans (Nat.mod_lt _ (by omega)) h2⟩
theorem eu_stay {u d k : Nat} (h : (eu u d k).2 = 0) : ∀ m, k ≤ m → eu u d m = eu u d k := by
  intro m hm
  induction m with
  | zero => rw [show k = 0 by omega]
  | succ m ih =>
    by_cases e : k = m + 1
    · rw [e]
    · have h2 := ih (by omega)
      conv => lhs; unfold eu
      rw [h2, if_pos h]
theorem eu_end : ∀ u, u < 64 → ∀ d, d < 64 → (eu u d 12).2 = 0 ∧ (eu u d 12).1 = Nat.gcd u d := by decide +kernel
theorem lrem_l6 : ∀ u, u < 64 → ∀ d, d < 64 → d ≠ 0 → l6 u - l6 u / l6 d * l6 d = l6 (u % d) := by decide +kernel
theorem ldiv_l6 : ∀ u, u < 64 → ∀ d, d < 64 → d ≠ 0 → l6 u / l6 d = l6 (u / d) := by decide +kernel
theorem l6_ne : ∀ d, d < 64 → d ≠ 0 → ¬ l6 d = 0 := by decide +kernel
theorem l6_succ (k : Nat) : l6 (k + 1) = l6 k + 1 := Int64.ofNat_add k 1
theorem w0 {w : Nat} (h : i3 w = 0) (hw : w < 2) : w = 0 := by
  by_cases e : w = 0
  · exact e
  · exact absurd h (i3_ne0 e (by omega))
theorem rows_n : ∀ n, n < 7 → ∀ t, t < 64 → t < 2 ^ n → cntB (fun s => sb s t) (2 ^ n - 1) = 2 ^ pop 6 t - 1 := by decide +kernel
theorem d_Mo_share_0 : decode c_Mo_share 0 = .ok (.lload_n 0, 1) := by decide +kernel
theorem d_Mo_share_1 : decode c_Mo_share 1 = .ok (.lstore 5, 2) := by decide +kernel
theorem d_Mo_share_3 : decode c_Mo_share 3 = .ok (.lload_n 2, 1) := by decide +kernel
theorem d_Mo_share_4 : decode c_Mo_share 4 = .ok (.lstore 7, 2) := by decide +kernel
theorem d_Mo_share_6 : decode c_Mo_share 6 = .ok (.lload 7, 2) := by decide +kernel
theorem d_Mo_share_8 : decode c_Mo_share 8 = .ok (.lconst 0, 1) := by decide +kernel
theorem d_Mo_share_9 : decode c_Mo_share 9 = .ok (.lcmp, 1) := by decide +kernel
theorem d_Mo_share_10 : decode c_Mo_share 10 = .ok (.ifCond .eq 21, 3) := by decide +kernel
theorem d_Mo_share_13 : decode c_Mo_share 13 = .ok (.lload 5, 2) := by decide +kernel
theorem d_Mo_share_15 : decode c_Mo_share 15 = .ok (.lload 7, 2) := by decide +kernel
theorem d_Mo_share_17 : decode c_Mo_share 17 = .ok (.lrem, 1) := by decide +kernel
theorem d_Mo_share_18 : decode c_Mo_share 18 = .ok (.lstore 9, 2) := by decide +kernel
theorem d_Mo_share_20 : decode c_Mo_share 20 = .ok (.lload 7, 2) := by decide +kernel
theorem d_Mo_share_22 : decode c_Mo_share 22 = .ok (.lstore 5, 2) := by decide +kernel
theorem d_Mo_share_24 : decode c_Mo_share 24 = .ok (.lload 9, 2) := by decide +kernel
theorem d_Mo_share_26 : decode c_Mo_share 26 = .ok (.lstore 7, 2) := by decide +kernel
theorem d_Mo_share_28 : decode c_Mo_share 28 = .ok (.goto (-22), 3) := by decide +kernel
theorem d_Mo_share_31 : decode c_Mo_share 31 = .ok (.iload 4, 2) := by decide +kernel
theorem d_Mo_share_33 : decode c_Mo_share 33 = .ok (.ifCond .ne 7, 3) := by decide +kernel
theorem d_Mo_share_36 : decode c_Mo_share 36 = .ok (.lload_n 0, 1) := by decide +kernel
theorem d_Mo_share_37 : decode c_Mo_share 37 = .ok (.goto 4, 3) := by decide +kernel
theorem d_Mo_share_40 : decode c_Mo_share 40 = .ok (.lload_n 2, 1) := by decide +kernel
theorem d_Mo_share_41 : decode c_Mo_share 41 = .ok (.lload 5, 2) := by decide +kernel
theorem d_Mo_share_43 : decode c_Mo_share 43 = .ok (.ldiv, 1) := by decide +kernel
theorem d_Mo_share_44 : decode c_Mo_share 44 = .ok (.lreturn, 1) := by decide +kernel
theorem C_Mo_share {M : MM} {u d w : Nat} (hu : u < 64) (hd : d < 64) (hd0 : d ≠ 0) (hw : w < 2) : AF y_Mo_share c_Mo_share 11 (some .long) 1 [vL (l6 u), vL (l6 d), vI (i3 w)] (M) (some (vL (l6 (if w = 0 then u / Nat.gcd u d else d / Nat.gcd u d)))) (M) := by
  obtain ⟨he1, he2⟩ := eu_end u hu d hd
  have hg0 : Nat.gcd u d ≠ 0 := fun e => hd0 (Nat.gcd_eq_zero_iff.mp e).2
  have hg6 : Nat.gcd u d < 64 := Nat.lt_of_le_of_lt (Nat.gcd_le_right _ (Nat.pos_of_ne_zero hd0)) hd
  refine AF.of k_Mo_share (lo := [some (vL (l6 u)), none, some (vL (l6 d)), none, some (vI (i3 w)), none, none, none, none, none, none]) rfl (Nat.le_of_ble_eq_true rfl) (fun X hX hR => ?_)
  refine v_lload_n (pc := 0) hX rfl d_Mo_share_0 ?_
  refine v_lstore (pc := 1) (lo' := [some (vL _), none, some (vL _), none, some (vI _), some (vL _), none, none, none, none, none]) hX (Nat.le_of_ble_eq_true rfl) rfl d_Mo_share_1 ?_
  refine v_lload_n (pc := 3) hX rfl d_Mo_share_3 ?_
  refine v_lstore (pc := 4) (lo' := [some (vL _), none, some (vL _), none, some (vI _), some (vL _), none, some (vL _), none, none, none]) hX (Nat.le_of_ble_eq_true rfl) rfl d_Mo_share_4 ?_
  refine VW.cast (lo' := [some (vL (l6 u)), none, some (vL (l6 d)), none, some (vI (i3 w)), some (vL (l6 (eu u d 0).1)), none, some (vL (l6 (eu u d 0).2)), none, none, none]) (st' := []) (G' := gM (M)) rfl rfl rfl ?_
  refine v_for (X := X) (head := 6) (12) (fun kk => [some (vL (l6 u)), none, some (vL (l6 d)), none, some (vI (i3 w)), some (vL (l6 (eu u d kk).1)), none, some (vL (l6 (eu u d kk).2)), none, none, none]) (fun kk => M) (fun k hk ih6 => ?_) ?_
  · show VW X 6 [some (vL (l6 u)), none, some (vL (l6 d)), none, some (vI (i3 w)), some (vL (l6 (eu u d k).1)), none, some (vL (l6 (eu u d k).2)), none, none, none] [] (gM (M))
    obtain ⟨l1, l2⟩ := eu_lt hu hd k
    by_cases hcase : (eu u d k).2 = 0
    · have hx : (eu u d k).1 = Nat.gcd u d := by rw [← eu_stay hcase 12 (by omega)]; exact he2
      refine v_lload (pc := 6) hX rfl d_Mo_share_6 ?_
      refine v_lconst (pc := 8) (v := 0) hX (by decide) d_Mo_share_8 ?_
      refine v_lcmp (pc := 9) hX d_Mo_share_9 ?_
      refine v_if_eq (pc := 10) (tgt := 31) hX d_Mo_share_10 rfl (fun h10 => ?_) (fun h10 => False.elim (h10 ((lg_cmp_eq _ _).mpr (by rw [hcase]; rfl))))
      refine v_iload (pc := 31) hX rfl d_Mo_share_31 ?_
      refine v_if_ne (pc := 33) (tgt := 40) hX d_Mo_share_33 rfl (fun h33 => ?_) (fun h33 => ?_)
      · refine v_lload_n (pc := 40) hX rfl d_Mo_share_40 ?_
        refine v_lload (pc := 41) hX rfl d_Mo_share_41 ?_
        rw [hx]
        refine v_ldiv (pc := 43) hX (l6_ne _ hg6 hg0) d_Mo_share_43 ?_
        exact f_lret (pc := 44) hX hR (by first | (rw [if_pos (show w = 0 from w0 (by simpa using h33) hw), ldiv_l6 u hu _ hg6 hg0]) | (rw [if_neg (fun e => h33 (by rw [e]; rfl)), ldiv_l6 d hd _ hg6 hg0])) (rfl) d_Mo_share_44
      · refine v_lload_n (pc := 36) hX rfl d_Mo_share_36 ?_
        refine v_goto (pc := 37) (tgt := 41) hX d_Mo_share_37 rfl ?_
        refine v_lload (pc := 41) hX rfl d_Mo_share_41 ?_
        rw [hx]
        refine v_ldiv (pc := 43) hX (l6_ne _ hg6 hg0) d_Mo_share_43 ?_
        exact f_lret (pc := 44) hX hR (by first | (rw [if_pos (show w = 0 from w0 (by simpa using h33) hw), ldiv_l6 u hu _ hg6 hg0]) | (rw [if_neg (fun e => h33 (by rw [e]; rfl)), ldiv_l6 d hd _ hg6 hg0])) (rfl) d_Mo_share_44
    · have e : eu u d (k + 1) = ((eu u d k).2, (eu u d k).1 % (eu u d k).2) := if_neg hcase
      refine v_lload (pc := 6) hX rfl d_Mo_share_6 ?_
      refine v_lconst (pc := 8) (v := 0) hX (by decide) d_Mo_share_8 ?_
      refine v_lcmp (pc := 9) hX d_Mo_share_9 ?_
      refine v_if_eq (pc := 10) (tgt := 31) hX d_Mo_share_10 rfl (fun h10 => False.elim (l6_ne _ l2 hcase ((lg_cmp_eq _ _).mp h10))) (fun h10 => ?_)
      refine v_lload (pc := 13) hX rfl d_Mo_share_13 ?_
      refine v_lload (pc := 15) hX rfl d_Mo_share_15 ?_
      refine v_lrem (pc := 17) hX (l6_ne _ l2 hcase) d_Mo_share_17 ?_
      rw [lrem_l6 _ l1 _ l2 hcase]
      refine v_lstore (pc := 18) (lo' := [some (vL _), none, some (vL _), none, some (vI _), some (vL _), none, some (vL _), none, some (vL _), none]) hX (Nat.le_of_ble_eq_true rfl) rfl d_Mo_share_18 ?_
      refine v_lload (pc := 20) hX rfl d_Mo_share_20 ?_
      refine v_lstore (pc := 22) (lo' := [some (vL _), none, some (vL _), none, some (vI _), some (vL _), none, some (vL _), none, some (vL _), none]) hX (Nat.le_of_ble_eq_true rfl) rfl d_Mo_share_22 ?_
      refine v_lload (pc := 24) hX rfl d_Mo_share_24 ?_
      refine v_lstore (pc := 26) (lo' := [some (vL _), none, some (vL _), none, some (vI _), some (vL _), none, some (vL _), none, some (vL _), none]) hX (Nat.le_of_ble_eq_true rfl) rfl d_Mo_share_26 ?_
      refine v_goto (pc := 28) (tgt := 6) hX d_Mo_share_28 rfl ?_
      refine VW.fg [true, true, true, true, true, true, true, true, true, false, true] ?_
      exact VW.cast (by rw [e]; rfl) rfl rfl ih6
  · show VW X 6 [some (vL (l6 u)), none, some (vL (l6 d)), none, some (vI (i3 w)), some (vL (l6 (eu u d (12)).1)), none, some (vL (l6 (eu u d (12)).2)), none, none, none] [] (gM (M))
    refine v_lload (pc := 6) hX rfl d_Mo_share_6 ?_
    refine v_lconst (pc := 8) (v := 0) hX (by decide) d_Mo_share_8 ?_
    refine v_lcmp (pc := 9) hX d_Mo_share_9 ?_
    refine v_if_eq (pc := 10) (tgt := 31) hX d_Mo_share_10 rfl (fun h10 => ?_) (fun h10 => False.elim (h10 ((lg_cmp_eq _ _).mpr (by rw [he1]; rfl))))
    refine v_iload (pc := 31) hX rfl d_Mo_share_31 ?_
    refine v_if_ne (pc := 33) (tgt := 40) hX d_Mo_share_33 rfl (fun h33 => ?_) (fun h33 => ?_)
    · refine v_lload_n (pc := 40) hX rfl d_Mo_share_40 ?_
      refine v_lload (pc := 41) hX rfl d_Mo_share_41 ?_
      rw [he2]
      refine v_ldiv (pc := 43) hX (l6_ne _ hg6 hg0) d_Mo_share_43 ?_
      exact f_lret (pc := 44) hX hR (by first | (rw [if_pos (show w = 0 from w0 (by simpa using h33) hw), ldiv_l6 u hu _ hg6 hg0]) | (rw [if_neg (fun e => h33 (by rw [e]; rfl)), ldiv_l6 d hd _ hg6 hg0])) (rfl) d_Mo_share_44
    · refine v_lload_n (pc := 36) hX rfl d_Mo_share_36 ?_
      refine v_goto (pc := 37) (tgt := 41) hX d_Mo_share_37 rfl ?_
      refine v_lload (pc := 41) hX rfl d_Mo_share_41 ?_
      rw [he2]
      refine v_ldiv (pc := 43) hX (l6_ne _ hg6 hg0) d_Mo_share_43 ?_
      exact f_lret (pc := 44) hX hR (by first | (rw [if_pos (show w = 0 from w0 (by simpa using h33) hw), ldiv_l6 u hu _ hg6 hg0]) | (rw [if_neg (fun e => h33 (by rw [e]; rfl)), ldiv_l6 d hd _ hg6 hg0])) (rfl) d_Mo_share_44
theorem d_Mo_odds_0 : decode c_Mo_odds 0 = .ok (.aload_n 0, 1) := by decide +kernel
theorem d_Mo_odds_1 : decode c_Mo_odds 1 = .ok (.iload_n 1, 1) := by decide +kernel
theorem d_Mo_odds_2 : decode c_Mo_odds 2 = .ok (.invokevirtual 176, 3) := by decide +kernel
theorem d_Mo_odds_5 : decode c_Mo_odds 5 = .ok (.ifCond .ne 13, 3) := by decide +kernel
theorem d_Mo_odds_8 : decode c_Mo_odds 8 = .ok (.iload_n 2, 1) := by decide +kernel
theorem d_Mo_odds_9 : decode c_Mo_odds 9 = .ok (.i2l, 1) := by decide +kernel
theorem d_Mo_odds_10 : decode c_Mo_odds 10 = .ok (.lconst 0, 1) := by decide +kernel
theorem d_Mo_odds_11 : decode c_Mo_odds 11 = .ok (.lconst 1, 1) := by decide +kernel
theorem d_Mo_odds_12 : decode c_Mo_odds 12 = .ok (.invokestatic 104, 3) := by decide +kernel
theorem d_Mo_odds_15 : decode c_Mo_odds 15 = .ok (.ifCond .ne 7, 3) := by decide +kernel
theorem d_Mo_odds_18 : decode c_Mo_odds 18 = .ok (.invokestatic 97, 3) := by decide +kernel
theorem d_Mo_odds_21 : decode c_Mo_odds 21 = .ok (.lreturn, 1) := by decide +kernel
theorem d_Mo_odds_22 : decode c_Mo_odds 22 = .ok (.aload_n 0, 1) := by decide +kernel
theorem d_Mo_odds_23 : decode c_Mo_odds 23 = .ok (.invokevirtual 221, 3) := by decide +kernel
theorem d_Mo_odds_26 : decode c_Mo_odds 26 = .ok (.istore_n 3, 1) := by decide +kernel
theorem d_Mo_odds_27 : decode c_Mo_odds 27 = .ok (.lconst 0, 1) := by decide +kernel
theorem d_Mo_odds_28 : decode c_Mo_odds 28 = .ok (.lstore 4, 2) := by decide +kernel
theorem d_Mo_odds_30 : decode c_Mo_odds 30 = .ok (.lconst 0, 1) := by decide +kernel
theorem d_Mo_odds_31 : decode c_Mo_odds 31 = .ok (.lstore 6, 2) := by decide +kernel
theorem d_Mo_odds_33 : decode c_Mo_odds 33 = .ok (.iconst 1, 1) := by decide +kernel
theorem d_Mo_odds_34 : decode c_Mo_odds 34 = .ok (.istore 8, 2) := by decide +kernel
theorem d_Mo_odds_36 : decode c_Mo_odds 36 = .ok (.iload 8, 2) := by decide +kernel
theorem d_Mo_odds_38 : decode c_Mo_odds 38 = .ok (.iconst 1, 1) := by decide +kernel
theorem d_Mo_odds_39 : decode c_Mo_odds 39 = .ok (.aload_n 0, 1) := by decide +kernel
theorem d_Mo_odds_40 : decode c_Mo_odds 40 = .ok (.getfield 101, 3) := by decide +kernel
theorem d_Mo_odds_43 : decode c_Mo_odds 43 = .ok (.ishl, 1) := by decide +kernel
theorem d_Mo_odds_44 : decode c_Mo_odds 44 = .ok (.if_icmp .ge 44, 3) := by decide +kernel
theorem d_Mo_odds_47 : decode c_Mo_odds 47 = .ok (.iload 8, 2) := by decide +kernel
theorem d_Mo_odds_49 : decode c_Mo_odds 49 = .ok (.iload_n 3, 1) := by decide +kernel
theorem d_Mo_odds_50 : decode c_Mo_odds 50 = .ok (.iconst (-1), 1) := by decide +kernel
theorem d_Mo_odds_51 : decode c_Mo_odds 51 = .ok (.ixor, 1) := by decide +kernel
theorem d_Mo_odds_52 : decode c_Mo_odds 52 = .ok (.iand, 1) := by decide +kernel
theorem d_Mo_odds_53 : decode c_Mo_odds 53 = .ok (.ifCond .ne 29, 3) := by decide +kernel
theorem d_Mo_odds_56 : decode c_Mo_odds 56 = .ok (.lload 6, 2) := by decide +kernel
theorem d_Mo_odds_58 : decode c_Mo_odds 58 = .ok (.lconst 1, 1) := by decide +kernel
theorem d_Mo_odds_59 : decode c_Mo_odds 59 = .ok (.ladd, 1) := by decide +kernel
theorem d_Mo_odds_60 : decode c_Mo_odds 60 = .ok (.lstore 6, 2) := by decide +kernel
theorem d_Mo_odds_62 : decode c_Mo_odds 62 = .ok (.lload 4, 2) := by decide +kernel
theorem d_Mo_odds_64 : decode c_Mo_odds 64 = .ok (.aload_n 0, 1) := by decide +kernel
theorem d_Mo_odds_65 : decode c_Mo_odds 65 = .ok (.iload_n 1, 1) := by decide +kernel
theorem d_Mo_odds_66 : decode c_Mo_odds 66 = .ok (.iload 8, 2) := by decide +kernel
theorem d_Mo_odds_68 : decode c_Mo_odds 68 = .ok (.invokevirtual 193, 3) := by decide +kernel
theorem d_Mo_odds_71 : decode c_Mo_odds 71 = .ok (.ifCond .eq 7, 3) := by decide +kernel
theorem d_Mo_odds_74 : decode c_Mo_odds 74 = .ok (.lconst 1, 1) := by decide +kernel
theorem d_Mo_odds_75 : decode c_Mo_odds 75 = .ok (.goto 4, 3) := by decide +kernel
theorem d_Mo_odds_78 : decode c_Mo_odds 78 = .ok (.lconst 0, 1) := by decide +kernel
theorem d_Mo_odds_79 : decode c_Mo_odds 79 = .ok (.ladd, 1) := by decide +kernel
theorem d_Mo_odds_80 : decode c_Mo_odds 80 = .ok (.lstore 4, 2) := by decide +kernel
theorem d_Mo_odds_82 : decode c_Mo_odds 82 = .ok (.iinc 8 1, 3) := by decide +kernel
theorem d_Mo_odds_85 : decode c_Mo_odds 85 = .ok (.goto (-49), 3) := by decide +kernel
theorem d_Mo_odds_88 : decode c_Mo_odds 88 = .ok (.lload 6, 2) := by decide +kernel
theorem d_Mo_odds_90 : decode c_Mo_odds 90 = .ok (.lconst 0, 1) := by decide +kernel
theorem d_Mo_odds_91 : decode c_Mo_odds 91 = .ok (.lcmp, 1) := by decide +kernel
theorem d_Mo_odds_92 : decode c_Mo_odds 92 = .ok (.ifCond .ne 8, 3) := by decide +kernel
theorem d_Mo_odds_95 : decode c_Mo_odds 95 = .ok (.iload_n 2, 1) := by decide +kernel
theorem d_Mo_odds_96 : decode c_Mo_odds 96 = .ok (.i2l, 1) := by decide +kernel
theorem d_Mo_odds_97 : decode c_Mo_odds 97 = .ok (.goto 11, 3) := by decide +kernel
theorem d_Mo_odds_100 : decode c_Mo_odds 100 = .ok (.lload 4, 2) := by decide +kernel
theorem d_Mo_odds_102 : decode c_Mo_odds 102 = .ok (.lload 6, 2) := by decide +kernel
theorem d_Mo_odds_104 : decode c_Mo_odds 104 = .ok (.iload_n 2, 1) := by decide +kernel
theorem d_Mo_odds_105 : decode c_Mo_odds 105 = .ok (.invokestatic 253, 3) := by decide +kernel
theorem d_Mo_odds_108 : decode c_Mo_odds 108 = .ok (.lreturn, 1) := by decide +kernel
theorem C_Mo_odds_out {M : MM} {n : Nat} {B : JT} {x : Int32} (hB : MB M n B) (hx : rg x 0 ((n : Int) - 1) = false) {u : Int32} : AF y_Mo_odds c_Mo_odds 9 (some .long) 5 [vR 36, vI x, vI u] (M) (some (vL (-9223372036854775808))) (M) := by
  refine AF.of k_Mo_odds (lo := [some (vR 36), some (vI x), some (vI u), none, none, none, none, none, none]) rfl (Nat.le_of_ble_eq_true rfl) (fun X hX hR => ?_)
  refine v_aload_n (pc := 0) hX rfl d_Mo_odds_0 ?_
  refine v_iload_n (pc := 1) hX rfl d_Mo_odds_1 ?_
  refine f_callV (pc := 2) hX k_Mo_noDecider ki_Mo_noDecider kv_Mo_noDecider ml_Mo_176 (C_Mo_noDecider hB.1 hB.2.1) rfl rfl rfl rfl rfl (Nat.le_of_ble_eq_true rfl) (Nat.le_of_ble_eq_true rfl) (Nat.le_of_ble_eq_true rfl) d_Mo_odds_2 ?_
  rw [hx]
  refine f_ifneB (pc := 5) (tgt := 18) hX d_Mo_odds_5 rfl (fun h5 => ?_) (fun h5 => False.elim (absurd h5 (by decide)))
  refine f_callS (pc := 18) hX k_Mo_lost ks_Mo_lost ml_Mo_97 (C_Mo_lost) rfl rfl rfl (Nat.le_of_ble_eq_true rfl) (Nat.le_of_ble_eq_true rfl) (Nat.le_of_ble_eq_true rfl) d_Mo_odds_18 ?_
  exact f_lret (pc := 21) hX hR (rfl) (rfl) d_Mo_odds_21
theorem C_Mo_odds_bad {M : MM} {n nd b : Nat} {J B : JT} (hJ : MJ M n J) (hB : MB M nd B) (hb : b < nd) {u : Int32} (hu : rg u 0 1 = false) : AF y_Mo_odds c_Mo_odds 9 (some .long) 5 [vR 36, vI (i3 b), vI u] (M) (some (vL (-9223372036854775808))) (M) := by
  have h4 := hB.1
  refine AF.of k_Mo_odds (lo := [some (vR 36), some (vI (i3 b)), some (vI u), none, none, none, none, none, none]) rfl (Nat.le_of_ble_eq_true rfl) (fun X hX hR => ?_)
  refine v_aload_n (pc := 0) hX rfl d_Mo_odds_0 ?_
  refine v_iload_n (pc := 1) hX rfl d_Mo_odds_1 ?_
  refine f_callV (pc := 2) hX k_Mo_noDecider ki_Mo_noDecider kv_Mo_noDecider ml_Mo_176 (C_Mo_noDecider hB.1 hB.2.1) rfl rfl rfl rfl rfl (Nat.le_of_ble_eq_true rfl) (Nat.le_of_ble_eq_true rfl) (Nat.le_of_ble_eq_true rfl) d_Mo_odds_2 ?_
  rw [rg_i3 hb (by omega)]
  refine f_ifneB (pc := 5) (tgt := 18) hX d_Mo_odds_5 rfl (fun h5 => False.elim (absurd h5 (by decide))) (fun h5 => ?_)
  refine v_iload_n (pc := 8) hX rfl d_Mo_odds_8 ?_
  refine v_i2l (pc := 9) hX d_Mo_odds_9 ?_
  refine v_lconst (pc := 10) (v := 0) hX (by decide) d_Mo_odds_10 ?_
  refine v_lconst (pc := 11) (v := 1) hX (by decide) d_Mo_odds_11 ?_
  refine f_callS (pc := 12) hX k_Mo_in ks_Mo_in ml_Mo_104 (C_Mo_in) rfl rfl rfl (Nat.le_of_ble_eq_true rfl) (Nat.le_of_ble_eq_true rfl) (Nat.le_of_ble_eq_true rfl) d_Mo_odds_12 ?_
  rw [rL_rg (L := 0) (H := 1) rfl rfl]
  refine f_ifneB (pc := 15) (tgt := 22) hX d_Mo_odds_15 rfl (fun h15 => False.elim (by rw [hu] at h15; cases h15)) (fun h15 => ?_)
  refine f_callS (pc := 18) hX k_Mo_lost ks_Mo_lost ml_Mo_97 (C_Mo_lost) rfl rfl rfl (Nat.le_of_ble_eq_true rfl) (Nat.le_of_ble_eq_true rfl) (Nat.le_of_ble_eq_true rfl) d_Mo_odds_18 ?_
  exact f_lret (pc := 21) hX hR (rfl) (rfl) d_Mo_odds_21
set_option maxHeartbeats 4000000 in
theorem C_Mo_odds_ok {M : MM} {n nd b : Nat} {J B : JT} (hJ : MJ M n J) (hB : MB M nd B) (hb : b < nd) {w : Nat} (hw : w < 2) : AF y_Mo_odds c_Mo_odds 9 (some .long) 5 [vR 36, vI (i3 b), vI (i3 w)] (M) (some (vL (i3 (odN J B n b w)).toInt64)) (M) := by
  have h6 := hJ.1
  have hM := hJ.2.1
  have hp := pow6 h6
  have h4 := hB.1
  have hst : stN J n < 64 := Nat.lt_of_lt_of_le (stN_lt J n) hp
  have hrows := rows_n n (by omega) _ hst (stN_lt J n)
  have hc := cntB_le (fun s => sb s (stN J n) && dcB J (B b 0) (B b 1) n s) (2 ^ n - 1)
  have ha6 : 2 ^ pop 6 (stN J n) - 1 < 64 := by have := pow6 (pop_le (stN J n) 6); omega
  refine AF.of k_Mo_odds (lo := [some (vR 36), some (vI (i3 b)), some (vI (i3 w)), none, none, none, none, none, none]) rfl (Nat.le_of_ble_eq_true rfl) (fun X hX hR => ?_)
  refine v_aload_n (pc := 0) hX rfl d_Mo_odds_0 ?_
  refine v_iload_n (pc := 1) hX rfl d_Mo_odds_1 ?_
  refine f_callV (pc := 2) hX k_Mo_noDecider ki_Mo_noDecider kv_Mo_noDecider ml_Mo_176 (C_Mo_noDecider hB.1 hB.2.1) rfl rfl rfl rfl rfl (Nat.le_of_ble_eq_true rfl) (Nat.le_of_ble_eq_true rfl) (Nat.le_of_ble_eq_true rfl) d_Mo_odds_2 ?_
  rw [rg_i3 hb (by omega)]
  refine f_ifneB (pc := 5) (tgt := 18) hX d_Mo_odds_5 rfl (fun h5 => False.elim (absurd h5 (by decide))) (fun h5 => ?_)
  refine v_iload_n (pc := 8) hX rfl d_Mo_odds_8 ?_
  refine v_i2l (pc := 9) hX d_Mo_odds_9 ?_
  refine v_lconst (pc := 10) (v := 0) hX (by decide) d_Mo_odds_10 ?_
  refine v_lconst (pc := 11) (v := 1) hX (by decide) d_Mo_odds_11 ?_
  refine f_callS (pc := 12) hX k_Mo_in ks_Mo_in ml_Mo_104 (C_Mo_in) rfl rfl rfl (Nat.le_of_ble_eq_true rfl) (Nat.le_of_ble_eq_true rfl) (Nat.le_of_ble_eq_true rfl) d_Mo_odds_12 ?_
  rw [rL_rg (L := 0) (H := 1) rfl rfl]
  refine f_ifneB (pc := 15) (tgt := 22) hX d_Mo_odds_15 rfl (fun h15 => ?_) (fun h15 => False.elim (by rw [show rg (i3 w) 0 1 = true from rg_i3 (n := 2) hw (by decide)] at h15; cases h15))
  refine v_aload_n (pc := 22) hX rfl d_Mo_odds_22 ?_
  refine f_callV (pc := 23) hX k_Mo_leftNow ki_Mo_leftNow kv_Mo_leftNow ml_Mo_221 (C_Mo_leftNow hJ) rfl rfl rfl rfl rfl (Nat.le_of_ble_eq_true rfl) (Nat.le_of_ble_eq_true rfl) (Nat.le_of_ble_eq_true rfl) d_Mo_odds_23 ?_
  refine v_istore_n (pc := 26) (lo' := [some (vR _), some (vI _), some (vI _), some (vI _), none, none, none, none, none]) hX (Nat.le_of_ble_eq_true rfl) rfl d_Mo_odds_26 ?_
  refine v_lconst (pc := 27) (v := 0) hX (by decide) d_Mo_odds_27 ?_
  refine v_lstore (pc := 28) (lo' := [some (vR _), some (vI _), some (vI _), some (vI _), some (vL _), none, none, none, none]) hX (Nat.le_of_ble_eq_true rfl) rfl d_Mo_odds_28 ?_
  refine v_lconst (pc := 30) (v := 0) hX (by decide) d_Mo_odds_30 ?_
  refine v_lstore (pc := 31) (lo' := [some (vR _), some (vI _), some (vI _), some (vI _), some (vL _), none, some (vL _), none, none]) hX (Nat.le_of_ble_eq_true rfl) rfl d_Mo_odds_31 ?_
  refine v_iconst (pc := 33) (v := 1) hX (by decide) d_Mo_odds_33 ?_
  refine v_istore (pc := 34) (lo' := [some (vR _), some (vI _), some (vI _), some (vI _), some (vL _), none, some (vL _), none, some (vI _)]) hX (Nat.le_of_ble_eq_true rfl) rfl d_Mo_odds_34 ?_
  refine VW.cast (lo' := [some (vR 36), some (vI (i3 b)), some (vI (i3 w)), some (vI (i3 (stN J n))), some (vL (l6 (cntB (fun s => sb s (stN J n) && dcB J (B b 0) (B b 1) n s) 0))), none, some (vL (l6 (cntB (fun s => sb s (stN J n)) 0))), none, some (vI (i3 (0 + 1)))]) (st' := []) (G' := gM (M)) rfl rfl rfl ?_
  refine v_for (X := X) (head := 36) (2 ^ n - 1) (fun kk => [some (vR 36), some (vI (i3 b)), some (vI (i3 w)), some (vI (i3 (stN J n))), some (vL (l6 (cntB (fun s => sb s (stN J n) && dcB J (B b 0) (B b 1) n s) kk))), none, some (vL (l6 (cntB (fun s => sb s (stN J n)) kk))), none, some (vI (i3 (kk + 1)))]) (fun kk => M) (fun k hk ih36 => ?_) ?_
  · show VW X 36 [some (vR 36), some (vI (i3 b)), some (vI (i3 w)), some (vI (i3 (stN J n))), some (vL (l6 (cntB (fun s => sb s (stN J n) && dcB J (B b 0) (B b 1) n s) k))), none, some (vL (l6 (cntB (fun s => sb s (stN J n)) k))), none, some (vI (i3 (k + 1)))] [] (gM (M))
    have hs : k + 1 < 64 := by omega
    refine v_iload (pc := 36) hX rfl d_Mo_odds_36 ?_
    refine v_iconst (pc := 38) (v := 1) hX (by decide) d_Mo_odds_38 ?_
    refine v_aload_n (pc := 39) hX rfl d_Mo_odds_39 ?_
    refine g_getI (pc := 40) hX fl_Mo_101 rfl rfl d_Mo_odds_40 ?_
    rw [hM]
    refine v_ishl (pc := 43) hX d_Mo_odds_43 ?_
    rw [shl_i3 n (by omega)]
    refine v_icmp_ge (pc := 44) (tgt := 88) hX d_Mo_odds_44 rfl (fun h44 => False.elim (i3_ge_abs (k := k + 1) (n := 2 ^ n) (by omega) (by omega) h44)) (fun h44 => ?_)
    refine v_iload (pc := 47) hX rfl d_Mo_odds_47 ?_
    refine v_iload_n (pc := 49) hX rfl d_Mo_odds_49 ?_
    refine v_iconst (pc := 50) (v := (-1)) hX (by decide) d_Mo_odds_50 ?_
    refine v_ixor (pc := 51) hX d_Mo_odds_51 ?_
    refine v_iand (pc := 52) hX d_Mo_odds_52 ?_
    refine v_if_ne (pc := 53) (tgt := 82) hX d_Mo_odds_53 rfl (fun h53 => ?_) (fun h53 => ?_)
    · have a1 := sb_f hs hst h53
      have e1 : cntB (fun s => sb s (stN J n)) (k + 1) = cntB (fun s => sb s (stN J n)) k := cn_n a1
      have e2 : cntB (fun s => sb s (stN J n) && dcB J (B b 0) (B b 1) n s) (k + 1) = cntB (fun s => sb s (stN J n) && dcB J (B b 0) (B b 1) n s) k := cn_n (by rw [a1]; rfl)
      refine v_iinc (pc := 82) (lo' := [some (vR _), some (vI _), some (vI _), some (vI _), some (vL _), none, some (vL _), none, some (vI _)]) hX rfl rfl d_Mo_odds_82 ?_
      refine v_goto (pc := 85) (tgt := 36) hX d_Mo_odds_85 rfl ?_
      exact VW.cast (by first | (rw [e1, e2, i3_succ (k + 1), l6_succ, l6_succ]; rfl) | (rw [e1, e2, i3_succ (k + 1), l6_succ, Int64.add_zero]; rfl) | (rw [e1, e2, i3_succ (k + 1)]; rfl)) rfl rfl ih36
    · have a1 := sb_t hs hst h53
      have e1 : cntB (fun s => sb s (stN J n)) (k + 1) = cntB (fun s => sb s (stN J n)) k + 1 := cn_y a1
      refine v_lload (pc := 56) hX rfl d_Mo_odds_56 ?_
      refine v_lconst (pc := 58) (v := 1) hX (by decide) d_Mo_odds_58 ?_
      refine v_ladd (pc := 59) hX d_Mo_odds_59 ?_
      refine v_lstore (pc := 60) (lo' := [some (vR _), some (vI _), some (vI _), some (vI _), some (vL _), none, some (vL _), none, some (vI _)]) hX (Nat.le_of_ble_eq_true rfl) rfl d_Mo_odds_60 ?_
      refine v_lload (pc := 62) hX rfl d_Mo_odds_62 ?_
      refine v_aload_n (pc := 64) hX rfl d_Mo_odds_64 ?_
      refine v_iload_n (pc := 65) hX rfl d_Mo_odds_65 ?_
      refine v_iload (pc := 66) hX rfl d_Mo_odds_66 ?_
      refine f_callV (pc := 68) hX k_Mo_decides ki_Mo_decides kv_Mo_decides ml_Mo_193 (C_Mo_decides hJ hB hb (by omega) (by omega)) rfl rfl rfl rfl rfl (Nat.le_of_ble_eq_true rfl) (Nat.le_of_ble_eq_true rfl) (Nat.le_of_ble_eq_true rfl) d_Mo_odds_68 ?_
      refine f_ifeqB (pc := 71) (tgt := 78) hX d_Mo_odds_71 rfl (fun h71 => ?_) (fun h71 => ?_)
      · have e2 : cntB (fun s => sb s (stN J n) && dcB J (B b 0) (B b 1) n s) (k + 1) = cntB (fun s => sb s (stN J n) && dcB J (B b 0) (B b 1) n s) k := cn_n (by rw [h71]; simp)
        refine v_lconst (pc := 78) (v := 0) hX (by decide) d_Mo_odds_78 ?_
        refine v_ladd (pc := 79) hX d_Mo_odds_79 ?_
        refine v_lstore (pc := 80) (lo' := [some (vR _), some (vI _), some (vI _), some (vI _), some (vL _), none, some (vL _), none, some (vI _)]) hX (Nat.le_of_ble_eq_true rfl) rfl d_Mo_odds_80 ?_
        refine v_iinc (pc := 82) (lo' := [some (vR _), some (vI _), some (vI _), some (vI _), some (vL _), none, some (vL _), none, some (vI _)]) hX rfl rfl d_Mo_odds_82 ?_
        refine v_goto (pc := 85) (tgt := 36) hX d_Mo_odds_85 rfl ?_
        exact VW.cast (by first | (rw [e1, e2, i3_succ (k + 1), l6_succ, l6_succ]; rfl) | (rw [e1, e2, i3_succ (k + 1), l6_succ, Int64.add_zero]; rfl) | (rw [e1, e2, i3_succ (k + 1)]; rfl)) rfl rfl ih36
      · have e2 : cntB (fun s => sb s (stN J n) && dcB J (B b 0) (B b 1) n s) (k + 1) = cntB (fun s => sb s (stN J n) && dcB J (B b 0) (B b 1) n s) k + 1 := cn_y (by rw [a1, h71]; rfl)
        refine v_lconst (pc := 74) (v := 1) hX (by decide) d_Mo_odds_74 ?_
        refine v_goto (pc := 75) (tgt := 79) hX d_Mo_odds_75 rfl ?_
        refine v_ladd (pc := 79) hX d_Mo_odds_79 ?_
        refine v_lstore (pc := 80) (lo' := [some (vR _), some (vI _), some (vI _), some (vI _), some (vL _), none, some (vL _), none, some (vI _)]) hX (Nat.le_of_ble_eq_true rfl) rfl d_Mo_odds_80 ?_
        refine v_iinc (pc := 82) (lo' := [some (vR _), some (vI _), some (vI _), some (vI _), some (vL _), none, some (vL _), none, some (vI _)]) hX rfl rfl d_Mo_odds_82 ?_
        refine v_goto (pc := 85) (tgt := 36) hX d_Mo_odds_85 rfl ?_
        exact VW.cast (by first | (rw [e1, e2, i3_succ (k + 1), l6_succ, l6_succ]; rfl) | (rw [e1, e2, i3_succ (k + 1), l6_succ, Int64.add_zero]; rfl) | (rw [e1, e2, i3_succ (k + 1)]; rfl)) rfl rfl ih36
  · show VW X 36 [some (vR 36), some (vI (i3 b)), some (vI (i3 w)), some (vI (i3 (stN J n))), some (vL (l6 (cntB (fun s => sb s (stN J n) && dcB J (B b 0) (B b 1) n s) (2 ^ n - 1)))), none, some (vL (l6 (cntB (fun s => sb s (stN J n)) (2 ^ n - 1)))), none, some (vI (i3 ((2 ^ n - 1) + 1)))] [] (gM (M))
    rw [hrows]
    refine v_iload (pc := 36) hX rfl d_Mo_odds_36 ?_
    refine v_iconst (pc := 38) (v := 1) hX (by decide) d_Mo_odds_38 ?_
    refine v_aload_n (pc := 39) hX rfl d_Mo_odds_39 ?_
    refine g_getI (pc := 40) hX fl_Mo_101 rfl rfl d_Mo_odds_40 ?_
    rw [hM]
    refine v_ishl (pc := 43) hX d_Mo_odds_43 ?_
    rw [shl_i3 n (by omega)]
    refine v_icmp_ge (pc := 44) (tgt := 88) hX d_Mo_odds_44 rfl (fun h44 => ?_) (fun h44 => False.elim (absurd set_end h44))
    refine v_lload (pc := 88) hX rfl d_Mo_odds_88 ?_
    refine v_lconst (pc := 90) (v := 0) hX (by decide) d_Mo_odds_90 ?_
    refine v_lcmp (pc := 91) hX d_Mo_odds_91 ?_
    refine v_if_ne (pc := 92) (tgt := 100) hX d_Mo_odds_92 rfl (fun h92 => ?_) (fun h92 => ?_)
    · have a0 : ¬ 2 ^ pop 6 (stN J n) - 1 = 0 := fun e => h92 ((lg_cmp_eq _ _).mpr (by rw [e]; rfl))
      refine v_lload (pc := 100) hX rfl d_Mo_odds_100 ?_
      refine v_lload (pc := 102) hX rfl d_Mo_odds_102 ?_
      refine v_iload_n (pc := 104) hX rfl d_Mo_odds_104 ?_
      refine f_callS (pc := 105) hX k_Mo_share ks_Mo_share ml_Mo_253 (C_Mo_share (by omega) ha6 a0 hw) rfl rfl rfl (Nat.le_of_ble_eq_true rfl) (Nat.le_of_ble_eq_true rfl) (Nat.le_of_ble_eq_true rfl) d_Mo_odds_105 ?_
      exact f_lret (pc := 108) hX hR (by unfold odN; first | (rw [if_pos a0]) | (rw [if_neg a0, l6_i3 _ (by split <;> exact Nat.lt_of_le_of_lt (Nat.div_le_self _ _) (by omega))])) (rfl) d_Mo_odds_108
    · have a0 : 2 ^ pop 6 (stN J n) - 1 = 0 := by
        by_cases e : 2 ^ pop 6 (stN J n) - 1 = 0
        · exact e
        · exact absurd ((lg_cmp_eq _ _).mp (by simpa using h92)) (l6_ne _ ha6 e)
      refine v_iload_n (pc := 95) hX rfl d_Mo_odds_95 ?_
      refine v_i2l (pc := 96) hX d_Mo_odds_96 ?_
      refine v_goto (pc := 97) (tgt := 108) hX d_Mo_odds_97 rfl ?_
      exact f_lret (pc := 108) hX hR (by unfold odN; first | (rw [if_pos a0]) | (rw [if_neg a0, l6_i3 _ (by split <;> exact Nat.lt_of_le_of_lt (Nat.div_le_self _ _) (by omega))])) (rfl) d_Mo_odds_108
theorem d_Mo_traced_0 : decode c_Mo_traced 0 = .ok (.aload_n 0, 1) := by decide +kernel
theorem d_Mo_traced_1 : decode c_Mo_traced 1 = .ok (.bipush 31, 2) := by decide +kernel
theorem d_Mo_traced_3 : decode c_Mo_traced 3 = .ok (.aload_n 0, 1) := by decide +kernel
theorem d_Mo_traced_4 : decode c_Mo_traced 4 = .ok (.getfield 264, 3) := by decide +kernel
theorem d_Mo_traced_7 : decode c_Mo_traced 7 = .ok (.imul, 1) := by decide +kernel
theorem d_Mo_traced_8 : decode c_Mo_traced 8 = .ok (.iload_n 1, 1) := by decide +kernel
theorem d_Mo_traced_9 : decode c_Mo_traced 9 = .ok (.iadd, 1) := by decide +kernel
theorem d_Mo_traced_10 : decode c_Mo_traced 10 = .ok (.putfield 264, 3) := by decide +kernel
theorem d_Mo_traced_13 : decode c_Mo_traced 13 = .ok (.return_, 1) := by decide +kernel
theorem C_Mo_traced {M : MM} {v : Int32} : AF y_Mo_traced c_Mo_traced 2 none 1 [vR 36, vI v] (M) (none) (upM M 36 35 (31 * M 36 35 + v)) := by
  refine AF.of k_Mo_traced (lo := [some (vR 36), some (vI v)]) rfl (Nat.le_of_ble_eq_true rfl) (fun X hX hR => ?_)
  refine v_aload_n (pc := 0) hX rfl d_Mo_traced_0 ?_
  refine v_bipush (pc := 1) (v := 31) hX (by decide) d_Mo_traced_1 ?_
  refine v_aload_n (pc := 3) hX rfl d_Mo_traced_3 ?_
  refine g_getI (pc := 4) hX fl_Mo_264 rfl rfl d_Mo_traced_4 ?_
  refine v_imul (pc := 7) hX d_Mo_traced_7 ?_
  refine v_iload_n (pc := 8) hX rfl d_Mo_traced_8 ?_
  refine v_iadd (pc := 9) hX d_Mo_traced_9 ?_
  refine g_putI (pc := 10) hX fl_Mo_264 rfl (finI rfl rfl) rfl rfl rfl d_Mo_traced_10 ?_
  exact f_vret (pc := 13) hX hR (rfl) d_Mo_traced_13
def trM (M : MM) (v : Int32) : MM := upM M 36 35 (31 * M 36 35 + v)
theorem trM_ne {M : MM} {v : Int32} {a i : Nat} (h : a ≠ 36) : trM M v a i = M a i := upM_ne (fun q => h q.1)
theorem two_x (x : Int32) : 2 * x + 100 = x + 100 + x := by
  rw [show (2 : Int32) = 1 + 1 from rfl, Int32.add_mul, Int32.one_mul, Int32.add_assoc x x 100, Int32.add_assoc x 100 x, Int32.add_comm 100 x]
theorem d_Mo_tell_0 : decode c_Mo_tell 0 = .ok (.aload_n 0, 1) := by decide +kernel
theorem d_Mo_tell_1 : decode c_Mo_tell 1 = .ok (.iload_n 1, 1) := by decide +kernel
theorem d_Mo_tell_2 : decode c_Mo_tell 2 = .ok (.invokevirtual 170, 3) := by decide +kernel
theorem d_Mo_tell_5 : decode c_Mo_tell 5 = .ok (.ifCond .eq 5, 3) := by decide +kernel
theorem d_Mo_tell_8 : decode c_Mo_tell 8 = .ok (.iconst (-1), 1) := by decide +kernel
theorem d_Mo_tell_9 : decode c_Mo_tell 9 = .ok (.ireturn, 1) := by decide +kernel
theorem d_Mo_tell_10 : decode c_Mo_tell 10 = .ok (.aload_n 0, 1) := by decide +kernel
theorem d_Mo_tell_11 : decode c_Mo_tell 11 = .ok (.getfield 7, 3) := by decide +kernel
theorem d_Mo_tell_14 : decode c_Mo_tell 14 = .ok (.iload_n 1, 1) := by decide +kernel
theorem d_Mo_tell_15 : decode c_Mo_tell 15 = .ok (.iaload, 1) := by decide +kernel
theorem d_Mo_tell_16 : decode c_Mo_tell 16 = .ok (.istore_n 2, 1) := by decide +kernel
theorem d_Mo_tell_17 : decode c_Mo_tell 17 = .ok (.iload_n 2, 1) := by decide +kernel
theorem d_Mo_tell_18 : decode c_Mo_tell 18 = .ok (.iconst 2, 1) := by decide +kernel
theorem d_Mo_tell_19 : decode c_Mo_tell 19 = .ok (.if_icmp .ne 8, 3) := by decide +kernel
theorem d_Mo_tell_22 : decode c_Mo_tell 22 = .ok (.aload_n 0, 1) := by decide +kernel
theorem d_Mo_tell_23 : decode c_Mo_tell 23 = .ok (.iconst 3, 1) := by decide +kernel
theorem d_Mo_tell_24 : decode c_Mo_tell 24 = .ok (.invokevirtual 267, 3) := by decide +kernel
theorem d_Mo_tell_27 : decode c_Mo_tell 27 = .ok (.iload_n 2, 1) := by decide +kernel
theorem d_Mo_tell_28 : decode c_Mo_tell 28 = .ok (.ifCond .le 8, 3) := by decide +kernel
theorem d_Mo_tell_31 : decode c_Mo_tell 31 = .ok (.aload_n 0, 1) := by decide +kernel
theorem d_Mo_tell_32 : decode c_Mo_tell 32 = .ok (.iconst 2, 1) := by decide +kernel
theorem d_Mo_tell_33 : decode c_Mo_tell 33 = .ok (.invokevirtual 267, 3) := by decide +kernel
theorem d_Mo_tell_36 : decode c_Mo_tell 36 = .ok (.aload_n 0, 1) := by decide +kernel
theorem d_Mo_tell_37 : decode c_Mo_tell 37 = .ok (.iconst 1, 1) := by decide +kernel
theorem d_Mo_tell_38 : decode c_Mo_tell 38 = .ok (.invokevirtual 267, 3) := by decide +kernel
theorem d_Mo_tell_41 : decode c_Mo_tell 41 = .ok (.iload_n 2, 1) := by decide +kernel
theorem d_Mo_tell_42 : decode c_Mo_tell 42 = .ok (.iconst 2, 1) := by decide +kernel
theorem d_Mo_tell_43 : decode c_Mo_tell 43 = .ok (.if_icmp .ne 8, 3) := by decide +kernel
theorem d_Mo_tell_46 : decode c_Mo_tell 46 = .ok (.aload_n 0, 1) := by decide +kernel
theorem d_Mo_tell_47 : decode c_Mo_tell 47 = .ok (.iconst 1, 1) := by decide +kernel
theorem d_Mo_tell_48 : decode c_Mo_tell 48 = .ok (.invokevirtual 267, 3) := by decide +kernel
theorem d_Mo_tell_51 : decode c_Mo_tell 51 = .ok (.aload_n 0, 1) := by decide +kernel
theorem d_Mo_tell_52 : decode c_Mo_tell 52 = .ok (.getfield 13, 3) := by decide +kernel
theorem d_Mo_tell_55 : decode c_Mo_tell 55 = .ok (.iload_n 1, 1) := by decide +kernel
theorem d_Mo_tell_56 : decode c_Mo_tell 56 = .ok (.iaload, 1) := by decide +kernel
theorem d_Mo_tell_57 : decode c_Mo_tell 57 = .ok (.istore_n 3, 1) := by decide +kernel
theorem d_Mo_tell_58 : decode c_Mo_tell 58 = .ok (.iload_n 2, 1) := by decide +kernel
theorem d_Mo_tell_59 : decode c_Mo_tell 59 = .ok (.ifCond .ne 7, 3) := by decide +kernel
theorem d_Mo_tell_62 : decode c_Mo_tell 62 = .ok (.iload_n 3, 1) := by decide +kernel
theorem d_Mo_tell_63 : decode c_Mo_tell 63 = .ok (.goto 21, 3) := by decide +kernel
theorem d_Mo_tell_66 : decode c_Mo_tell 66 = .ok (.iload_n 2, 1) := by decide +kernel
theorem d_Mo_tell_67 : decode c_Mo_tell 67 = .ok (.iconst 1, 1) := by decide +kernel
theorem d_Mo_tell_68 : decode c_Mo_tell 68 = .ok (.if_icmp .ne 10, 3) := by decide +kernel
theorem d_Mo_tell_71 : decode c_Mo_tell 71 = .ok (.iload_n 3, 1) := by decide +kernel
theorem d_Mo_tell_72 : decode c_Mo_tell 72 = .ok (.bipush 100, 2) := by decide +kernel
theorem d_Mo_tell_74 : decode c_Mo_tell 74 = .ok (.iadd, 1) := by decide +kernel
theorem d_Mo_tell_75 : decode c_Mo_tell 75 = .ok (.goto 9, 3) := by decide +kernel
theorem d_Mo_tell_78 : decode c_Mo_tell 78 = .ok (.iconst 2, 1) := by decide +kernel
theorem d_Mo_tell_79 : decode c_Mo_tell 79 = .ok (.iload_n 3, 1) := by decide +kernel
theorem d_Mo_tell_80 : decode c_Mo_tell 80 = .ok (.imul, 1) := by decide +kernel
theorem d_Mo_tell_81 : decode c_Mo_tell 81 = .ok (.bipush 100, 2) := by decide +kernel
theorem d_Mo_tell_83 : decode c_Mo_tell 83 = .ok (.iadd, 1) := by decide +kernel
theorem d_Mo_tell_84 : decode c_Mo_tell 84 = .ok (.ireturn, 1) := by decide +kernel
theorem C_Mo_tell_out {M : MM} {n : Nat} {J : JT} {x : Int32} (hJ : MJ M n J) (hx : rg x 0 ((n : Int) - 1) = false) : AF y_Mo_tell c_Mo_tell 4 (some .int) 3 [vR 36, vI x] (M) (some (vI (-1))) (M) := by
  refine AF.of k_Mo_tell (lo := [some (vR 36), some (vI x), none, none]) rfl (Nat.le_of_ble_eq_true rfl) (fun X hX hR => ?_)
  refine v_aload_n (pc := 0) hX rfl d_Mo_tell_0 ?_
  refine v_iload_n (pc := 1) hX rfl d_Mo_tell_1 ?_
  refine f_callV (pc := 2) hX k_Mo_noJar ki_Mo_noJar kv_Mo_noJar ml_Mo_170 (C_Mo_noJar hJ.1 hJ.2.1) rfl rfl rfl rfl rfl (Nat.le_of_ble_eq_true rfl) (Nat.le_of_ble_eq_true rfl) (Nat.le_of_ble_eq_true rfl) d_Mo_tell_2 ?_
  rw [hx]
  refine f_ifeqB (pc := 5) (tgt := 10) hX d_Mo_tell_5 rfl (fun h5 => False.elim (absurd h5 (by decide))) (fun h5 => ?_)
  refine v_iconst (pc := 8) (v := (-1)) hX (by decide) d_Mo_tell_8 ?_
  exact f_iret (pc := 9) hX hR (rfl) (rfl) d_Mo_tell_9
theorem C_Mo_tell_0 {M : MM} {n j : Nat} {J : JT} (hJ : MJ M n J) (hj : j < n) (hk : J j 0 = 0) : AF y_Mo_tell c_Mo_tell 4 (some .int) 3 [vR 36, vI (i3 j)] (M) (some (vI (J j 1))) (trM M 1) := by
  have h6 := hJ.1
  refine AF.of k_Mo_tell (lo := [some (vR 36), some (vI (i3 j)), none, none]) rfl (Nat.le_of_ble_eq_true rfl) (fun X hX hR => ?_)
  refine v_aload_n (pc := 0) hX rfl d_Mo_tell_0 ?_
  refine v_iload_n (pc := 1) hX rfl d_Mo_tell_1 ?_
  refine f_callV (pc := 2) hX k_Mo_noJar ki_Mo_noJar kv_Mo_noJar ml_Mo_170 (C_Mo_noJar hJ.1 hJ.2.1) rfl rfl rfl rfl rfl (Nat.le_of_ble_eq_true rfl) (Nat.le_of_ble_eq_true rfl) (Nat.le_of_ble_eq_true rfl) d_Mo_tell_2 ?_
  rw [rg_i3 hj (by omega)]
  refine f_ifeqB (pc := 5) (tgt := 10) hX d_Mo_tell_5 rfl (fun h5 => ?_) (fun h5 => False.elim (absurd h5 (by decide)))
  refine v_aload_n (pc := 10) hX rfl d_Mo_tell_10 ?_
  refine g_getR (pc := 11) hX fl_Mo_7 rfl rfl nf_36_2 d_Mo_tell_11 ?_
  refine v_iload_n (pc := 14) hX rfl d_Mo_tell_14 ?_
  refine g_iald (pc := 15) hX rfl (IX.of (n := 6) (by omega) (by decide)) d_Mo_tell_15 ?_
  rw [show M 37 j = J j 0 from hJ.2.2.1 j hj 0 (by decide)]
  rw [hk]
  refine v_istore_n (pc := 16) (lo' := [some (vR _), some (vI _), some (vI _), none]) hX (Nat.le_of_ble_eq_true rfl) rfl d_Mo_tell_16 ?_
  refine v_iload_n (pc := 17) hX rfl d_Mo_tell_17 ?_
  refine v_iconst (pc := 18) (v := 2) hX (by decide) d_Mo_tell_18 ?_
  refine v_icmp_ne (pc := 19) (tgt := 27) hX d_Mo_tell_19 rfl (fun h19 => ?_) (fun h19 => False.elim (by revert h19; decide))
  refine v_iload_n (pc := 27) hX rfl d_Mo_tell_27 ?_
  refine v_if_le (pc := 28) (tgt := 36) hX d_Mo_tell_28 rfl (fun h28 => ?_) (fun h28 => False.elim (by revert h28; decide))
  refine v_aload_n (pc := 36) hX rfl d_Mo_tell_36 ?_
  refine v_iconst (pc := 37) (v := 1) hX (by decide) d_Mo_tell_37 ?_
  refine f_callV0 (pc := 38) hX k_Mo_traced ki_Mo_traced kv_Mo_traced ml_Mo_267 (C_Mo_traced) rfl rfl rfl rfl rfl (Nat.le_of_ble_eq_true rfl) (Nat.le_of_ble_eq_true rfl) (Nat.le_of_ble_eq_true rfl) d_Mo_tell_38 ?_
  refine v_iload_n (pc := 41) hX rfl d_Mo_tell_41 ?_
  refine v_iconst (pc := 42) (v := 2) hX (by decide) d_Mo_tell_42 ?_
  refine v_icmp_ne (pc := 43) (tgt := 51) hX d_Mo_tell_43 rfl (fun h43 => ?_) (fun h43 => False.elim (by revert h43; decide))
  refine v_aload_n (pc := 51) hX rfl d_Mo_tell_51 ?_
  refine g_getR (pc := 52) hX fl_Mo_13 rfl rfl nf_36_3 d_Mo_tell_52 ?_
  refine v_iload_n (pc := 55) hX rfl d_Mo_tell_55 ?_
  refine g_iald (pc := 56) hX rfl (IX.of (n := 6) (by omega) (by decide)) d_Mo_tell_56 ?_
  refine v_istore_n (pc := 57) (lo' := [some (vR _), some (vI _), some (vI _), some (vI _)]) hX (Nat.le_of_ble_eq_true rfl) rfl d_Mo_tell_57 ?_
  refine v_iload_n (pc := 58) hX rfl d_Mo_tell_58 ?_
  refine v_if_ne (pc := 59) (tgt := 66) hX d_Mo_tell_59 rfl (fun h59 => False.elim (by revert h59; decide)) (fun h59 => ?_)
  refine v_iload_n (pc := 62) hX rfl d_Mo_tell_62 ?_
  refine v_goto (pc := 63) (tgt := 84) hX d_Mo_tell_63 rfl ?_
  exact f_iret (pc := 84) hX hR (by rw [show upM M 36 35 (31 * M 36 35 + 1) 38 j = M 38 j from upM_ne (by omega)]; exact hJ.2.2.1 j hj 1 (by decide)) (rfl) d_Mo_tell_84
theorem C_Mo_tell_1 {M : MM} {n j : Nat} {J : JT} (hJ : MJ M n J) (hj : j < n) (hk : J j 0 = 1) : AF y_Mo_tell c_Mo_tell 4 (some .int) 3 [vR 36, vI (i3 j)] (M) (some (vI (J j 1 + 100))) (trM (trM M 2) 1) := by
  have h6 := hJ.1
  refine AF.of k_Mo_tell (lo := [some (vR 36), some (vI (i3 j)), none, none]) rfl (Nat.le_of_ble_eq_true rfl) (fun X hX hR => ?_)
  refine v_aload_n (pc := 0) hX rfl d_Mo_tell_0 ?_
  refine v_iload_n (pc := 1) hX rfl d_Mo_tell_1 ?_
  refine f_callV (pc := 2) hX k_Mo_noJar ki_Mo_noJar kv_Mo_noJar ml_Mo_170 (C_Mo_noJar hJ.1 hJ.2.1) rfl rfl rfl rfl rfl (Nat.le_of_ble_eq_true rfl) (Nat.le_of_ble_eq_true rfl) (Nat.le_of_ble_eq_true rfl) d_Mo_tell_2 ?_
  rw [rg_i3 hj (by omega)]
  refine f_ifeqB (pc := 5) (tgt := 10) hX d_Mo_tell_5 rfl (fun h5 => ?_) (fun h5 => False.elim (absurd h5 (by decide)))
  refine v_aload_n (pc := 10) hX rfl d_Mo_tell_10 ?_
  refine g_getR (pc := 11) hX fl_Mo_7 rfl rfl nf_36_2 d_Mo_tell_11 ?_
  refine v_iload_n (pc := 14) hX rfl d_Mo_tell_14 ?_
  refine g_iald (pc := 15) hX rfl (IX.of (n := 6) (by omega) (by decide)) d_Mo_tell_15 ?_
  rw [show M 37 j = J j 0 from hJ.2.2.1 j hj 0 (by decide)]
  rw [hk]
  refine v_istore_n (pc := 16) (lo' := [some (vR _), some (vI _), some (vI _), none]) hX (Nat.le_of_ble_eq_true rfl) rfl d_Mo_tell_16 ?_
  refine v_iload_n (pc := 17) hX rfl d_Mo_tell_17 ?_
  refine v_iconst (pc := 18) (v := 2) hX (by decide) d_Mo_tell_18 ?_
  refine v_icmp_ne (pc := 19) (tgt := 27) hX d_Mo_tell_19 rfl (fun h19 => ?_) (fun h19 => False.elim (by revert h19; decide))
  refine v_iload_n (pc := 27) hX rfl d_Mo_tell_27 ?_
  refine v_if_le (pc := 28) (tgt := 36) hX d_Mo_tell_28 rfl (fun h28 => False.elim (by revert h28; decide)) (fun h28 => ?_)
  refine v_aload_n (pc := 31) hX rfl d_Mo_tell_31 ?_
  refine v_iconst (pc := 32) (v := 2) hX (by decide) d_Mo_tell_32 ?_
  refine f_callV0 (pc := 33) hX k_Mo_traced ki_Mo_traced kv_Mo_traced ml_Mo_267 (C_Mo_traced) rfl rfl rfl rfl rfl (Nat.le_of_ble_eq_true rfl) (Nat.le_of_ble_eq_true rfl) (Nat.le_of_ble_eq_true rfl) d_Mo_tell_33 ?_
  refine v_aload_n (pc := 36) hX rfl d_Mo_tell_36 ?_
  refine v_iconst (pc := 37) (v := 1) hX (by decide) d_Mo_tell_37 ?_
  refine f_callV0 (pc := 38) hX k_Mo_traced ki_Mo_traced kv_Mo_traced ml_Mo_267 (C_Mo_traced) rfl rfl rfl rfl rfl (Nat.le_of_ble_eq_true rfl) (Nat.le_of_ble_eq_true rfl) (Nat.le_of_ble_eq_true rfl) d_Mo_tell_38 ?_
  refine v_iload_n (pc := 41) hX rfl d_Mo_tell_41 ?_
  refine v_iconst (pc := 42) (v := 2) hX (by decide) d_Mo_tell_42 ?_
  refine v_icmp_ne (pc := 43) (tgt := 51) hX d_Mo_tell_43 rfl (fun h43 => ?_) (fun h43 => False.elim (by revert h43; decide))
  refine v_aload_n (pc := 51) hX rfl d_Mo_tell_51 ?_
  refine g_getR (pc := 52) hX fl_Mo_13 rfl rfl nf_36_3 d_Mo_tell_52 ?_
  refine v_iload_n (pc := 55) hX rfl d_Mo_tell_55 ?_
  refine g_iald (pc := 56) hX rfl (IX.of (n := 6) (by omega) (by decide)) d_Mo_tell_56 ?_
  refine v_istore_n (pc := 57) (lo' := [some (vR _), some (vI _), some (vI _), some (vI _)]) hX (Nat.le_of_ble_eq_true rfl) rfl d_Mo_tell_57 ?_
  refine v_iload_n (pc := 58) hX rfl d_Mo_tell_58 ?_
  refine v_if_ne (pc := 59) (tgt := 66) hX d_Mo_tell_59 rfl (fun h59 => ?_) (fun h59 => False.elim (by revert h59; decide))
  refine v_iload_n (pc := 66) hX rfl d_Mo_tell_66 ?_
  refine v_iconst (pc := 67) (v := 1) hX (by decide) d_Mo_tell_67 ?_
  refine v_icmp_ne (pc := 68) (tgt := 78) hX d_Mo_tell_68 rfl (fun h68 => False.elim (by revert h68; decide)) (fun h68 => ?_)
  refine v_iload_n (pc := 71) hX rfl d_Mo_tell_71 ?_
  refine v_bipush (pc := 72) (v := 100) hX (by decide) d_Mo_tell_72 ?_
  refine v_iadd (pc := 74) hX d_Mo_tell_74 ?_
  refine v_goto (pc := 75) (tgt := 84) hX d_Mo_tell_75 rfl ?_
  exact f_iret (pc := 84) hX hR (by rw [upM_ne (by omega), upM_ne (by omega), show M 38 j = J j 1 from hJ.2.2.1 j hj 1 (by decide)]) (rfl) d_Mo_tell_84
theorem C_Mo_tell_2 {M : MM} {n j : Nat} {J : JT} (hJ : MJ M n J) (hj : j < n) (hk : J j 0 = 2) : AF y_Mo_tell c_Mo_tell 4 (some .int) 3 [vR 36, vI (i3 j)] (M) (some (vI (J j 1 + 100 + J j 1))) (trM (trM (trM (trM M 3) 2) 1) 1) := by
  have h6 := hJ.1
  refine AF.of k_Mo_tell (lo := [some (vR 36), some (vI (i3 j)), none, none]) rfl (Nat.le_of_ble_eq_true rfl) (fun X hX hR => ?_)
  refine v_aload_n (pc := 0) hX rfl d_Mo_tell_0 ?_
  refine v_iload_n (pc := 1) hX rfl d_Mo_tell_1 ?_
  refine f_callV (pc := 2) hX k_Mo_noJar ki_Mo_noJar kv_Mo_noJar ml_Mo_170 (C_Mo_noJar hJ.1 hJ.2.1) rfl rfl rfl rfl rfl (Nat.le_of_ble_eq_true rfl) (Nat.le_of_ble_eq_true rfl) (Nat.le_of_ble_eq_true rfl) d_Mo_tell_2 ?_
  rw [rg_i3 hj (by omega)]
  refine f_ifeqB (pc := 5) (tgt := 10) hX d_Mo_tell_5 rfl (fun h5 => ?_) (fun h5 => False.elim (absurd h5 (by decide)))
  refine v_aload_n (pc := 10) hX rfl d_Mo_tell_10 ?_
  refine g_getR (pc := 11) hX fl_Mo_7 rfl rfl nf_36_2 d_Mo_tell_11 ?_
  refine v_iload_n (pc := 14) hX rfl d_Mo_tell_14 ?_
  refine g_iald (pc := 15) hX rfl (IX.of (n := 6) (by omega) (by decide)) d_Mo_tell_15 ?_
  rw [show M 37 j = J j 0 from hJ.2.2.1 j hj 0 (by decide)]
  rw [hk]
  refine v_istore_n (pc := 16) (lo' := [some (vR _), some (vI _), some (vI _), none]) hX (Nat.le_of_ble_eq_true rfl) rfl d_Mo_tell_16 ?_
  refine v_iload_n (pc := 17) hX rfl d_Mo_tell_17 ?_
  refine v_iconst (pc := 18) (v := 2) hX (by decide) d_Mo_tell_18 ?_
  refine v_icmp_ne (pc := 19) (tgt := 27) hX d_Mo_tell_19 rfl (fun h19 => False.elim (by revert h19; decide)) (fun h19 => ?_)
  refine v_aload_n (pc := 22) hX rfl d_Mo_tell_22 ?_
  refine v_iconst (pc := 23) (v := 3) hX (by decide) d_Mo_tell_23 ?_
  refine f_callV0 (pc := 24) hX k_Mo_traced ki_Mo_traced kv_Mo_traced ml_Mo_267 (C_Mo_traced) rfl rfl rfl rfl rfl (Nat.le_of_ble_eq_true rfl) (Nat.le_of_ble_eq_true rfl) (Nat.le_of_ble_eq_true rfl) d_Mo_tell_24 ?_
  refine v_iload_n (pc := 27) hX rfl d_Mo_tell_27 ?_
  refine v_if_le (pc := 28) (tgt := 36) hX d_Mo_tell_28 rfl (fun h28 => False.elim (by revert h28; decide)) (fun h28 => ?_)
  refine v_aload_n (pc := 31) hX rfl d_Mo_tell_31 ?_
  refine v_iconst (pc := 32) (v := 2) hX (by decide) d_Mo_tell_32 ?_
  refine f_callV0 (pc := 33) hX k_Mo_traced ki_Mo_traced kv_Mo_traced ml_Mo_267 (C_Mo_traced) rfl rfl rfl rfl rfl (Nat.le_of_ble_eq_true rfl) (Nat.le_of_ble_eq_true rfl) (Nat.le_of_ble_eq_true rfl) d_Mo_tell_33 ?_
  refine v_aload_n (pc := 36) hX rfl d_Mo_tell_36 ?_
  refine v_iconst (pc := 37) (v := 1) hX (by decide) d_Mo_tell_37 ?_
  refine f_callV0 (pc := 38) hX k_Mo_traced ki_Mo_traced kv_Mo_traced ml_Mo_267 (C_Mo_traced) rfl rfl rfl rfl rfl (Nat.le_of_ble_eq_true rfl) (Nat.le_of_ble_eq_true rfl) (Nat.le_of_ble_eq_true rfl) d_Mo_tell_38 ?_
  refine v_iload_n (pc := 41) hX rfl d_Mo_tell_41 ?_
  refine v_iconst (pc := 42) (v := 2) hX (by decide) d_Mo_tell_42 ?_
  refine v_icmp_ne (pc := 43) (tgt := 51) hX d_Mo_tell_43 rfl (fun h43 => False.elim (by revert h43; decide)) (fun h43 => ?_)
  refine v_aload_n (pc := 46) hX rfl d_Mo_tell_46 ?_
  refine v_iconst (pc := 47) (v := 1) hX (by decide) d_Mo_tell_47 ?_
  refine f_callV0 (pc := 48) hX k_Mo_traced ki_Mo_traced kv_Mo_traced ml_Mo_267 (C_Mo_traced) rfl rfl rfl rfl rfl (Nat.le_of_ble_eq_true rfl) (Nat.le_of_ble_eq_true rfl) (Nat.le_of_ble_eq_true rfl) d_Mo_tell_48 ?_
  refine v_aload_n (pc := 51) hX rfl d_Mo_tell_51 ?_
  refine g_getR (pc := 52) hX fl_Mo_13 rfl rfl nf_36_3 d_Mo_tell_52 ?_
  refine v_iload_n (pc := 55) hX rfl d_Mo_tell_55 ?_
  refine g_iald (pc := 56) hX rfl (IX.of (n := 6) (by omega) (by decide)) d_Mo_tell_56 ?_
  refine v_istore_n (pc := 57) (lo' := [some (vR _), some (vI _), some (vI _), some (vI _)]) hX (Nat.le_of_ble_eq_true rfl) rfl d_Mo_tell_57 ?_
  refine v_iload_n (pc := 58) hX rfl d_Mo_tell_58 ?_
  refine v_if_ne (pc := 59) (tgt := 66) hX d_Mo_tell_59 rfl (fun h59 => ?_) (fun h59 => False.elim (by revert h59; decide))
  refine v_iload_n (pc := 66) hX rfl d_Mo_tell_66 ?_
  refine v_iconst (pc := 67) (v := 1) hX (by decide) d_Mo_tell_67 ?_
  refine v_icmp_ne (pc := 68) (tgt := 78) hX d_Mo_tell_68 rfl (fun h68 => ?_) (fun h68 => False.elim (by revert h68; decide))
  refine v_iconst (pc := 78) (v := 2) hX (by decide) d_Mo_tell_78 ?_
  refine v_iload_n (pc := 79) hX rfl d_Mo_tell_79 ?_
  refine v_imul (pc := 80) hX d_Mo_tell_80 ?_
  refine v_bipush (pc := 81) (v := 100) hX (by decide) d_Mo_tell_81 ?_
  refine v_iadd (pc := 83) hX d_Mo_tell_83 ?_
  exact f_iret (pc := 84) hX hR (by rw [upM_ne (by omega), upM_ne (by omega), upM_ne (by omega), upM_ne (by omega), show M 38 j = J j 1 from hJ.2.2.1 j hj 1 (by decide)]; exact two_x _) (rfl) d_Mo_tell_84
theorem d_Mo_sniff_0 : decode c_Mo_sniff 0 = .ok (.aload_n 0, 1) := by decide +kernel
theorem d_Mo_sniff_1 : decode c_Mo_sniff 1 = .ok (.iload_n 1, 1) := by decide +kernel
theorem d_Mo_sniff_2 : decode c_Mo_sniff 2 = .ok (.invokevirtual 170, 3) := by decide +kernel
theorem d_Mo_sniff_5 : decode c_Mo_sniff 5 = .ok (.ifCond .eq 5, 3) := by decide +kernel
theorem d_Mo_sniff_8 : decode c_Mo_sniff 8 = .ok (.iconst (-1), 1) := by decide +kernel
theorem d_Mo_sniff_9 : decode c_Mo_sniff 9 = .ok (.ireturn, 1) := by decide +kernel
theorem d_Mo_sniff_10 : decode c_Mo_sniff 10 = .ok (.aload_n 0, 1) := by decide +kernel
theorem d_Mo_sniff_11 : decode c_Mo_sniff 11 = .ok (.aload_n 0, 1) := by decide +kernel
theorem d_Mo_sniff_12 : decode c_Mo_sniff 12 = .ok (.getfield 7, 3) := by decide +kernel
theorem d_Mo_sniff_15 : decode c_Mo_sniff 15 = .ok (.iload_n 1, 1) := by decide +kernel
theorem d_Mo_sniff_16 : decode c_Mo_sniff 16 = .ok (.iaload, 1) := by decide +kernel
theorem d_Mo_sniff_17 : decode c_Mo_sniff 17 = .ok (.iconst 2, 1) := by decide +kernel
theorem d_Mo_sniff_18 : decode c_Mo_sniff 18 = .ok (.if_icmp .ne 7, 3) := by decide +kernel
theorem d_Mo_sniff_21 : decode c_Mo_sniff 21 = .ok (.iconst 5, 1) := by decide +kernel
theorem d_Mo_sniff_22 : decode c_Mo_sniff 22 = .ok (.goto 4, 3) := by decide +kernel
theorem d_Mo_sniff_25 : decode c_Mo_sniff 25 = .ok (.iconst 4, 1) := by decide +kernel
theorem d_Mo_sniff_26 : decode c_Mo_sniff 26 = .ok (.invokevirtual 267, 3) := by decide +kernel
theorem d_Mo_sniff_29 : decode c_Mo_sniff 29 = .ok (.aload_n 0, 1) := by decide +kernel
theorem d_Mo_sniff_30 : decode c_Mo_sniff 30 = .ok (.getfield 7, 3) := by decide +kernel
theorem d_Mo_sniff_33 : decode c_Mo_sniff 33 = .ok (.iload_n 1, 1) := by decide +kernel
theorem d_Mo_sniff_34 : decode c_Mo_sniff 34 = .ok (.iaload, 1) := by decide +kernel
theorem d_Mo_sniff_35 : decode c_Mo_sniff 35 = .ok (.iconst 2, 1) := by decide +kernel
theorem d_Mo_sniff_36 : decode c_Mo_sniff 36 = .ok (.if_icmp .ne 8, 3) := by decide +kernel
theorem d_Mo_sniff_39 : decode c_Mo_sniff 39 = .ok (.bipush 80, 2) := by decide +kernel
theorem d_Mo_sniff_41 : decode c_Mo_sniff 41 = .ok (.goto 4, 3) := by decide +kernel
theorem d_Mo_sniff_44 : decode c_Mo_sniff 44 = .ok (.iload_n 1, 1) := by decide +kernel
theorem d_Mo_sniff_45 : decode c_Mo_sniff 45 = .ok (.ireturn, 1) := by decide +kernel
theorem C_Mo_sniff_out {M : MM} {n : Nat} {J : JT} {x : Int32} (hJ : MJ M n J) (hx : rg x 0 ((n : Int) - 1) = false) : AF y_Mo_sniff c_Mo_sniff 2 (some .int) 3 [vR 36, vI x] (M) (some (vI (-1))) (M) := by
  refine AF.of k_Mo_sniff (lo := [some (vR 36), some (vI x)]) rfl (Nat.le_of_ble_eq_true rfl) (fun X hX hR => ?_)
  refine v_aload_n (pc := 0) hX rfl d_Mo_sniff_0 ?_
  refine v_iload_n (pc := 1) hX rfl d_Mo_sniff_1 ?_
  refine f_callV (pc := 2) hX k_Mo_noJar ki_Mo_noJar kv_Mo_noJar ml_Mo_170 (C_Mo_noJar hJ.1 hJ.2.1) rfl rfl rfl rfl rfl (Nat.le_of_ble_eq_true rfl) (Nat.le_of_ble_eq_true rfl) (Nat.le_of_ble_eq_true rfl) d_Mo_sniff_2 ?_
  rw [hx]
  refine f_ifeqB (pc := 5) (tgt := 10) hX d_Mo_sniff_5 rfl (fun h5 => False.elim (absurd h5 (by decide))) (fun h5 => ?_)
  refine v_iconst (pc := 8) (v := (-1)) hX (by decide) d_Mo_sniff_8 ?_
  exact f_iret (pc := 9) hX hR (rfl) (rfl) d_Mo_sniff_9
theorem C_Mo_sniff_p {M : MM} {n j : Nat} {J : JT} (hJ : MJ M n J) (hj : j < n) (hk : J j 0 = 2) : AF y_Mo_sniff c_Mo_sniff 2 (some .int) 3 [vR 36, vI (i3 j)] (M) (some (vI 80)) (trM M 5) := by
  have h6 := hJ.1
  refine AF.of k_Mo_sniff (lo := [some (vR 36), some (vI (i3 j))]) rfl (Nat.le_of_ble_eq_true rfl) (fun X hX hR => ?_)
  refine v_aload_n (pc := 0) hX rfl d_Mo_sniff_0 ?_
  refine v_iload_n (pc := 1) hX rfl d_Mo_sniff_1 ?_
  refine f_callV (pc := 2) hX k_Mo_noJar ki_Mo_noJar kv_Mo_noJar ml_Mo_170 (C_Mo_noJar hJ.1 hJ.2.1) rfl rfl rfl rfl rfl (Nat.le_of_ble_eq_true rfl) (Nat.le_of_ble_eq_true rfl) (Nat.le_of_ble_eq_true rfl) d_Mo_sniff_2 ?_
  rw [rg_i3 hj (by omega)]
  refine f_ifeqB (pc := 5) (tgt := 10) hX d_Mo_sniff_5 rfl (fun h5 => ?_) (fun h5 => False.elim (absurd h5 (by decide)))
  refine v_aload_n (pc := 10) hX rfl d_Mo_sniff_10 ?_
  refine v_aload_n (pc := 11) hX rfl d_Mo_sniff_11 ?_
  refine g_getR (pc := 12) hX fl_Mo_7 rfl rfl nf_36_2 d_Mo_sniff_12 ?_
  refine v_iload_n (pc := 15) hX rfl d_Mo_sniff_15 ?_
  refine g_iald (pc := 16) hX rfl (IX.of (n := 6) (by omega) (by decide)) d_Mo_sniff_16 ?_
  rw [show M 37 j = J j 0 from hJ.2.2.1 j hj 0 (by decide)]
  refine v_iconst (pc := 17) (v := 2) hX (by decide) d_Mo_sniff_17 ?_
  refine v_icmp_ne (pc := 18) (tgt := 25) hX d_Mo_sniff_18 rfl (fun h18 => False.elim (h18 hk)) (fun h18 => ?_)
  refine v_iconst (pc := 21) (v := 5) hX (by decide) d_Mo_sniff_21 ?_
  refine v_goto (pc := 22) (tgt := 26) hX d_Mo_sniff_22 rfl ?_
  refine f_callV0 (pc := 26) hX k_Mo_traced ki_Mo_traced kv_Mo_traced ml_Mo_267 (C_Mo_traced) rfl rfl rfl rfl rfl (Nat.le_of_ble_eq_true rfl) (Nat.le_of_ble_eq_true rfl) (Nat.le_of_ble_eq_true rfl) d_Mo_sniff_26 ?_
  refine v_aload_n (pc := 29) hX rfl d_Mo_sniff_29 ?_
  refine g_getR (pc := 30) hX fl_Mo_7 rfl rfl nf_36_2 d_Mo_sniff_30 ?_
  refine v_iload_n (pc := 33) hX rfl d_Mo_sniff_33 ?_
  refine g_iald (pc := 34) hX rfl (IX.of (n := 6) (by omega) (by decide)) d_Mo_sniff_34 ?_
  rw [upM_ne (by omega), show M 37 j = J j 0 from hJ.2.2.1 j hj 0 (by decide)]
  refine v_iconst (pc := 35) (v := 2) hX (by decide) d_Mo_sniff_35 ?_
  refine v_icmp_ne (pc := 36) (tgt := 44) hX d_Mo_sniff_36 rfl (fun h36 => False.elim (h36 hk)) (fun h36 => ?_)
  refine v_bipush (pc := 39) (v := 80) hX (by decide) d_Mo_sniff_39 ?_
  refine v_goto (pc := 41) (tgt := 45) hX d_Mo_sniff_41 rfl ?_
  exact f_iret (pc := 45) hX hR (rfl) (rfl) d_Mo_sniff_45
theorem C_Mo_sniff_l {M : MM} {n j : Nat} {J : JT} (hJ : MJ M n J) (hj : j < n) (hk : ¬ J j 0 = 2) : AF y_Mo_sniff c_Mo_sniff 2 (some .int) 3 [vR 36, vI (i3 j)] (M) (some (vI (i3 j))) (trM M 4) := by
  have h6 := hJ.1
  refine AF.of k_Mo_sniff (lo := [some (vR 36), some (vI (i3 j))]) rfl (Nat.le_of_ble_eq_true rfl) (fun X hX hR => ?_)
  refine v_aload_n (pc := 0) hX rfl d_Mo_sniff_0 ?_
  refine v_iload_n (pc := 1) hX rfl d_Mo_sniff_1 ?_
  refine f_callV (pc := 2) hX k_Mo_noJar ki_Mo_noJar kv_Mo_noJar ml_Mo_170 (C_Mo_noJar hJ.1 hJ.2.1) rfl rfl rfl rfl rfl (Nat.le_of_ble_eq_true rfl) (Nat.le_of_ble_eq_true rfl) (Nat.le_of_ble_eq_true rfl) d_Mo_sniff_2 ?_
  rw [rg_i3 hj (by omega)]
  refine f_ifeqB (pc := 5) (tgt := 10) hX d_Mo_sniff_5 rfl (fun h5 => ?_) (fun h5 => False.elim (absurd h5 (by decide)))
  refine v_aload_n (pc := 10) hX rfl d_Mo_sniff_10 ?_
  refine v_aload_n (pc := 11) hX rfl d_Mo_sniff_11 ?_
  refine g_getR (pc := 12) hX fl_Mo_7 rfl rfl nf_36_2 d_Mo_sniff_12 ?_
  refine v_iload_n (pc := 15) hX rfl d_Mo_sniff_15 ?_
  refine g_iald (pc := 16) hX rfl (IX.of (n := 6) (by omega) (by decide)) d_Mo_sniff_16 ?_
  rw [show M 37 j = J j 0 from hJ.2.2.1 j hj 0 (by decide)]
  refine v_iconst (pc := 17) (v := 2) hX (by decide) d_Mo_sniff_17 ?_
  refine v_icmp_ne (pc := 18) (tgt := 25) hX d_Mo_sniff_18 rfl (fun h18 => ?_) (fun h18 => False.elim (hk h18))
  refine v_iconst (pc := 25) (v := 4) hX (by decide) d_Mo_sniff_25 ?_
  refine f_callV0 (pc := 26) hX k_Mo_traced ki_Mo_traced kv_Mo_traced ml_Mo_267 (C_Mo_traced) rfl rfl rfl rfl rfl (Nat.le_of_ble_eq_true rfl) (Nat.le_of_ble_eq_true rfl) (Nat.le_of_ble_eq_true rfl) d_Mo_sniff_26 ?_
  refine v_aload_n (pc := 29) hX rfl d_Mo_sniff_29 ?_
  refine g_getR (pc := 30) hX fl_Mo_7 rfl rfl nf_36_2 d_Mo_sniff_30 ?_
  refine v_iload_n (pc := 33) hX rfl d_Mo_sniff_33 ?_
  refine g_iald (pc := 34) hX rfl (IX.of (n := 6) (by omega) (by decide)) d_Mo_sniff_34 ?_
  rw [upM_ne (by omega), show M 37 j = J j 0 from hJ.2.2.1 j hj 0 (by decide)]
  refine v_iconst (pc := 35) (v := 2) hX (by decide) d_Mo_sniff_35 ?_
  refine v_icmp_ne (pc := 36) (tgt := 44) hX d_Mo_sniff_36 rfl (fun h36 => ?_) (fun h36 => False.elim (hk h36))
  refine v_iload_n (pc := 44) hX rfl d_Mo_sniff_44 ?_
  exact f_iret (pc := 45) hX hR (rfl) (rfl) d_Mo_sniff_45
theorem d_Mo_as_0 : decode c_Mo_as 0 = .ok (.aload_n 0, 1) := by decide +kernel
theorem d_Mo_as_1 : decode c_Mo_as 1 = .ok (.iload_n 1, 1) := by decide +kernel
theorem d_Mo_as_2 : decode c_Mo_as 2 = .ok (.invokevirtual 170, 3) := by decide +kernel
theorem d_Mo_as_5 : decode c_Mo_as 5 = .ok (.ifCond .eq 9, 3) := by decide +kernel
theorem d_Mo_as_8 : decode c_Mo_as 8 = .ok (.aload_n 0, 1) := by decide +kernel
theorem d_Mo_as_9 : decode c_Mo_as 9 = .ok (.iconst (-1), 1) := by decide +kernel
theorem d_Mo_as_10 : decode c_Mo_as 10 = .ok (.invokevirtual 149, 3) := by decide +kernel
theorem d_Mo_as_13 : decode c_Mo_as 13 = .ok (.ireturn, 1) := by decide +kernel
theorem d_Mo_as_14 : decode c_Mo_as 14 = .ok (.iload_n 2, 1) := by decide +kernel
theorem d_Mo_as_15 : decode c_Mo_as 15 = .ok (.i2l, 1) := by decide +kernel
theorem d_Mo_as_16 : decode c_Mo_as 16 = .ok (.lconst 0, 1) := by decide +kernel
theorem d_Mo_as_17 : decode c_Mo_as 17 = .ok (.ldc2_w 152, 3) := by decide +kernel
theorem d_Mo_as_20 : decode c_Mo_as 20 = .ok (.invokestatic 104, 3) := by decide +kernel
theorem d_Mo_as_23 : decode c_Mo_as 23 = .ok (.ifCond .ne 10, 3) := by decide +kernel
theorem d_Mo_as_26 : decode c_Mo_as 26 = .ok (.aload_n 0, 1) := by decide +kernel
theorem d_Mo_as_27 : decode c_Mo_as 27 = .ok (.bipush (-2), 2) := by decide +kernel
theorem d_Mo_as_29 : decode c_Mo_as 29 = .ok (.invokevirtual 149, 3) := by decide +kernel
theorem d_Mo_as_32 : decode c_Mo_as 32 = .ok (.ireturn, 1) := by decide +kernel
theorem d_Mo_as_33 : decode c_Mo_as 33 = .ok (.aload_n 0, 1) := by decide +kernel
theorem d_Mo_as_34 : decode c_Mo_as 34 = .ok (.getfield 7, 3) := by decide +kernel
theorem d_Mo_as_37 : decode c_Mo_as 37 = .ok (.iload_n 1, 1) := by decide +kernel
theorem d_Mo_as_38 : decode c_Mo_as 38 = .ok (.iaload, 1) := by decide +kernel
theorem d_Mo_as_39 : decode c_Mo_as 39 = .ok (.iload_n 2, 1) := by decide +kernel
theorem d_Mo_as_40 : decode c_Mo_as 40 = .ok (.if_icmp .lt 11, 3) := by decide +kernel
theorem d_Mo_as_43 : decode c_Mo_as 43 = .ok (.aload_n 0, 1) := by decide +kernel
theorem d_Mo_as_44 : decode c_Mo_as 44 = .ok (.iconst 1, 1) := by decide +kernel
theorem d_Mo_as_45 : decode c_Mo_as 45 = .ok (.invokevirtual 149, 3) := by decide +kernel
theorem d_Mo_as_48 : decode c_Mo_as 48 = .ok (.goto 8, 3) := by decide +kernel
theorem d_Mo_as_51 : decode c_Mo_as 51 = .ok (.aload_n 0, 1) := by decide +kernel
theorem d_Mo_as_52 : decode c_Mo_as 52 = .ok (.iconst 2, 1) := by decide +kernel
theorem d_Mo_as_53 : decode c_Mo_as 53 = .ok (.invokevirtual 137, 3) := by decide +kernel
theorem d_Mo_as_56 : decode c_Mo_as 56 = .ok (.ireturn, 1) := by decide +kernel
theorem C_Mo_as_out {M : MM} {n : Nat} {J : JT} {x : Int32} (hJ : MJ M n J) (hx : rg x 0 ((n : Int) - 1) = false) {u : Int32} : AF y_Mo_as c_Mo_as 3 (some .int) 3 [vR 36, vI x, vI u] (M) (some (vI (-1))) (upM M 36 0 0) := by
  refine AF.of k_Mo_as (lo := [some (vR 36), some (vI x), some (vI u)]) rfl (Nat.le_of_ble_eq_true rfl) (fun X hX hR => ?_)
  refine v_aload_n (pc := 0) hX rfl d_Mo_as_0 ?_
  refine v_iload_n (pc := 1) hX rfl d_Mo_as_1 ?_
  refine f_callV (pc := 2) hX k_Mo_noJar ki_Mo_noJar kv_Mo_noJar ml_Mo_170 (C_Mo_noJar hJ.1 hJ.2.1) rfl rfl rfl rfl rfl (Nat.le_of_ble_eq_true rfl) (Nat.le_of_ble_eq_true rfl) (Nat.le_of_ble_eq_true rfl) d_Mo_as_2 ?_
  rw [hx]
  refine f_ifeqB (pc := 5) (tgt := 14) hX d_Mo_as_5 rfl (fun h5 => False.elim (absurd h5 (by decide))) (fun h5 => ?_)
  refine v_aload_n (pc := 8) hX rfl d_Mo_as_8 ?_
  refine v_iconst (pc := 9) (v := (-1)) hX (by decide) d_Mo_as_9 ?_
  refine f_callV (pc := 10) hX k_Mo_refused ki_Mo_refused kv_Mo_refused ml_Mo_149 (C_Mo_refused) rfl rfl rfl rfl rfl (Nat.le_of_ble_eq_true rfl) (Nat.le_of_ble_eq_true rfl) (Nat.le_of_ble_eq_true rfl) d_Mo_as_10 ?_
  exact f_iret (pc := 13) hX hR (rfl) (rfl) d_Mo_as_13
theorem C_Mo_as_bad {M : MM} {n j : Nat} {J : JT} (hJ : MJ M n J) (hj : j < n) {u : Int32} (hu : rg u 0 2 = false) : AF y_Mo_as c_Mo_as 3 (some .int) 3 [vR 36, vI (i3 j), vI u] (M) (some (vI (-2))) (upM M 36 0 0) := by
  have h6 := hJ.1
  refine AF.of k_Mo_as (lo := [some (vR 36), some (vI (i3 j)), some (vI u)]) rfl (Nat.le_of_ble_eq_true rfl) (fun X hX hR => ?_)
  refine v_aload_n (pc := 0) hX rfl d_Mo_as_0 ?_
  refine v_iload_n (pc := 1) hX rfl d_Mo_as_1 ?_
  refine f_callV (pc := 2) hX k_Mo_noJar ki_Mo_noJar kv_Mo_noJar ml_Mo_170 (C_Mo_noJar hJ.1 hJ.2.1) rfl rfl rfl rfl rfl (Nat.le_of_ble_eq_true rfl) (Nat.le_of_ble_eq_true rfl) (Nat.le_of_ble_eq_true rfl) d_Mo_as_2 ?_
  rw [rg_i3 hj (by omega)]
  refine f_ifeqB (pc := 5) (tgt := 14) hX d_Mo_as_5 rfl (fun h5 => ?_) (fun h5 => False.elim (absurd h5 (by decide)))
  refine v_iload_n (pc := 14) hX rfl d_Mo_as_14 ?_
  refine v_i2l (pc := 15) hX d_Mo_as_15 ?_
  refine v_lconst (pc := 16) (v := 0) hX (by decide) d_Mo_as_16 ?_
  refine v_ldc2_w (pc := 17) hX kl_Mo_152 d_Mo_as_17 ?_
  refine f_callS (pc := 20) hX k_Mo_in ks_Mo_in ml_Mo_104 (C_Mo_in) rfl rfl rfl (Nat.le_of_ble_eq_true rfl) (Nat.le_of_ble_eq_true rfl) (Nat.le_of_ble_eq_true rfl) d_Mo_as_20 ?_
  rw [rL_rg (L := 0) (H := 2) rfl rfl]
  refine f_ifneB (pc := 23) (tgt := 33) hX d_Mo_as_23 rfl (fun h23 => False.elim (by rw [hu] at h23; cases h23)) (fun h23 => ?_)
  refine v_aload_n (pc := 26) hX rfl d_Mo_as_26 ?_
  refine v_bipush (pc := 27) (v := (-2)) hX (by decide) d_Mo_as_27 ?_
  refine f_callV (pc := 29) hX k_Mo_refused ki_Mo_refused kv_Mo_refused ml_Mo_149 (C_Mo_refused) rfl rfl rfl rfl rfl (Nat.le_of_ble_eq_true rfl) (Nat.le_of_ble_eq_true rfl) (Nat.le_of_ble_eq_true rfl) d_Mo_as_29 ?_
  exact f_iret (pc := 32) hX hR (rfl) (rfl) d_Mo_as_32
theorem C_Mo_as_no {M : MM} {n j : Nat} {J : JT} (hJ : MJ M n J) (hj : j < n) {u : Int32} (hu : rg u 0 2 = true) (hk : J j 0 < u) : AF y_Mo_as c_Mo_as 3 (some .int) 3 [vR 36, vI (i3 j), vI u] (M) (some (vI (-12))) (upM M 36 0 2) := by
  have h6 := hJ.1
  refine AF.of k_Mo_as (lo := [some (vR 36), some (vI (i3 j)), some (vI u)]) rfl (Nat.le_of_ble_eq_true rfl) (fun X hX hR => ?_)
  refine v_aload_n (pc := 0) hX rfl d_Mo_as_0 ?_
  refine v_iload_n (pc := 1) hX rfl d_Mo_as_1 ?_
  refine f_callV (pc := 2) hX k_Mo_noJar ki_Mo_noJar kv_Mo_noJar ml_Mo_170 (C_Mo_noJar hJ.1 hJ.2.1) rfl rfl rfl rfl rfl (Nat.le_of_ble_eq_true rfl) (Nat.le_of_ble_eq_true rfl) (Nat.le_of_ble_eq_true rfl) d_Mo_as_2 ?_
  rw [rg_i3 hj (by omega)]
  refine f_ifeqB (pc := 5) (tgt := 14) hX d_Mo_as_5 rfl (fun h5 => ?_) (fun h5 => False.elim (absurd h5 (by decide)))
  refine v_iload_n (pc := 14) hX rfl d_Mo_as_14 ?_
  refine v_i2l (pc := 15) hX d_Mo_as_15 ?_
  refine v_lconst (pc := 16) (v := 0) hX (by decide) d_Mo_as_16 ?_
  refine v_ldc2_w (pc := 17) hX kl_Mo_152 d_Mo_as_17 ?_
  refine f_callS (pc := 20) hX k_Mo_in ks_Mo_in ml_Mo_104 (C_Mo_in) rfl rfl rfl (Nat.le_of_ble_eq_true rfl) (Nat.le_of_ble_eq_true rfl) (Nat.le_of_ble_eq_true rfl) d_Mo_as_20 ?_
  rw [rL_rg (L := 0) (H := 2) rfl rfl]
  refine f_ifneB (pc := 23) (tgt := 33) hX d_Mo_as_23 rfl (fun h23 => ?_) (fun h23 => False.elim (by rw [hu] at h23; cases h23))
  refine v_aload_n (pc := 33) hX rfl d_Mo_as_33 ?_
  refine g_getR (pc := 34) hX fl_Mo_7 rfl rfl nf_36_2 d_Mo_as_34 ?_
  refine v_iload_n (pc := 37) hX rfl d_Mo_as_37 ?_
  refine g_iald (pc := 38) hX rfl (IX.of (n := 6) (by omega) (by decide)) d_Mo_as_38 ?_
  rw [show M 37 j = J j 0 from hJ.2.2.1 j hj 0 (by decide)]
  refine v_iload_n (pc := 39) hX rfl d_Mo_as_39 ?_
  refine v_icmp_lt (pc := 40) (tgt := 51) hX d_Mo_as_40 rfl (fun h40 => ?_) (fun h40 => False.elim (h40 hk))
  refine v_aload_n (pc := 51) hX rfl d_Mo_as_51 ?_
  refine v_iconst (pc := 52) (v := 2) hX (by decide) d_Mo_as_52 ?_
  refine f_callV (pc := 53) hX k_Mo_failed ki_Mo_failed kv_Mo_failed ml_Mo_137 (C_Mo_failed) rfl rfl rfl rfl rfl (Nat.le_of_ble_eq_true rfl) (Nat.le_of_ble_eq_true rfl) (Nat.le_of_ble_eq_true rfl) d_Mo_as_53 ?_
  exact f_iret (pc := 56) hX hR (rfl) (rfl) d_Mo_as_56
theorem C_Mo_as_ok {M : MM} {n j : Nat} {J : JT} (hJ : MJ M n J) (hj : j < n) {u : Int32} (hu : rg u 0 2 = true) (hk : ¬ J j 0 < u) : AF y_Mo_as c_Mo_as 3 (some .int) 3 [vR 36, vI (i3 j), vI u] (M) (some (vI 1)) (upM M 36 0 0) := by
  have h6 := hJ.1
  refine AF.of k_Mo_as (lo := [some (vR 36), some (vI (i3 j)), some (vI u)]) rfl (Nat.le_of_ble_eq_true rfl) (fun X hX hR => ?_)
  refine v_aload_n (pc := 0) hX rfl d_Mo_as_0 ?_
  refine v_iload_n (pc := 1) hX rfl d_Mo_as_1 ?_
  refine f_callV (pc := 2) hX k_Mo_noJar ki_Mo_noJar kv_Mo_noJar ml_Mo_170 (C_Mo_noJar hJ.1 hJ.2.1) rfl rfl rfl rfl rfl (Nat.le_of_ble_eq_true rfl) (Nat.le_of_ble_eq_true rfl) (Nat.le_of_ble_eq_true rfl) d_Mo_as_2 ?_
  rw [rg_i3 hj (by omega)]
  refine f_ifeqB (pc := 5) (tgt := 14) hX d_Mo_as_5 rfl (fun h5 => ?_) (fun h5 => False.elim (absurd h5 (by decide)))
  refine v_iload_n (pc := 14) hX rfl d_Mo_as_14 ?_
  refine v_i2l (pc := 15) hX d_Mo_as_15 ?_
  refine v_lconst (pc := 16) (v := 0) hX (by decide) d_Mo_as_16 ?_
  refine v_ldc2_w (pc := 17) hX kl_Mo_152 d_Mo_as_17 ?_
  refine f_callS (pc := 20) hX k_Mo_in ks_Mo_in ml_Mo_104 (C_Mo_in) rfl rfl rfl (Nat.le_of_ble_eq_true rfl) (Nat.le_of_ble_eq_true rfl) (Nat.le_of_ble_eq_true rfl) d_Mo_as_20 ?_
  rw [rL_rg (L := 0) (H := 2) rfl rfl]
  refine f_ifneB (pc := 23) (tgt := 33) hX d_Mo_as_23 rfl (fun h23 => ?_) (fun h23 => False.elim (by rw [hu] at h23; cases h23))
  refine v_aload_n (pc := 33) hX rfl d_Mo_as_33 ?_
  refine g_getR (pc := 34) hX fl_Mo_7 rfl rfl nf_36_2 d_Mo_as_34 ?_
  refine v_iload_n (pc := 37) hX rfl d_Mo_as_37 ?_
  refine g_iald (pc := 38) hX rfl (IX.of (n := 6) (by omega) (by decide)) d_Mo_as_38 ?_
  rw [show M 37 j = J j 0 from hJ.2.2.1 j hj 0 (by decide)]
  refine v_iload_n (pc := 39) hX rfl d_Mo_as_39 ?_
  refine v_icmp_lt (pc := 40) (tgt := 51) hX d_Mo_as_40 rfl (fun h40 => False.elim (hk h40)) (fun h40 => ?_)
  refine v_aload_n (pc := 43) hX rfl d_Mo_as_43 ?_
  refine v_iconst (pc := 44) (v := 1) hX (by decide) d_Mo_as_44 ?_
  refine f_callV (pc := 45) hX k_Mo_refused ki_Mo_refused kv_Mo_refused ml_Mo_149 (C_Mo_refused) rfl rfl rfl rfl rfl (Nat.le_of_ble_eq_true rfl) (Nat.le_of_ble_eq_true rfl) (Nat.le_of_ble_eq_true rfl) d_Mo_as_45 ?_
  refine v_goto (pc := 48) (tgt := 56) hX d_Mo_as_48 rfl ?_
  exact f_iret (pc := 56) hX hR (rfl) (rfl) d_Mo_as_56
theorem d_Mo_trace_0 : decode c_Mo_trace 0 = .ok (.aload_n 0, 1) := by decide +kernel
theorem d_Mo_trace_1 : decode c_Mo_trace 1 = .ok (.getfield 264, 3) := by decide +kernel
theorem d_Mo_trace_4 : decode c_Mo_trace 4 = .ok (.ireturn, 1) := by decide +kernel
theorem C_Mo_trace {M : MM} : AF y_Mo_trace c_Mo_trace 1 (some .int) 1 [vR 36] (M) (some (vI (M 36 35))) (M) := by
  refine AF.of k_Mo_trace (lo := [some (vR 36)]) rfl (Nat.le_of_ble_eq_true rfl) (fun X hX hR => ?_)
  refine v_aload_n (pc := 0) hX rfl d_Mo_trace_0 ?_
  refine g_getI (pc := 1) hX fl_Mo_264 rfl rfl d_Mo_trace_1 ?_
  exact f_iret (pc := 4) hX hR (rfl) (rfl) d_Mo_trace_4
theorem d_Mo_fault_0 : decode c_Mo_fault 0 = .ok (.aload_n 0, 1) := by decide +kernel
theorem d_Mo_fault_1 : decode c_Mo_fault 1 = .ok (.getfield 93, 3) := by decide +kernel
theorem d_Mo_fault_4 : decode c_Mo_fault 4 = .ok (.ireturn, 1) := by decide +kernel
theorem C_Mo_fault {M : MM} : AF y_Mo_fault c_Mo_fault 1 (some .int) 1 [vR 36] (M) (some (vI (M 36 0))) (M) := by
  refine AF.of k_Mo_fault (lo := [some (vR 36)]) rfl (Nat.le_of_ble_eq_true rfl) (fun X hX hR => ?_)
  refine v_aload_n (pc := 0) hX rfl d_Mo_fault_0 ?_
  refine g_getI (pc := 1) hX fl_Mo_93 rfl rfl d_Mo_fault_1 ?_
  exact f_iret (pc := 4) hX hR (rfl) (rfl) d_Mo_fault_4
theorem d_Mo_allHalves_0 : decode c_Mo_allHalves 0 = .ok (.iconst 0, 1) := by decide +kernel
theorem d_Mo_allHalves_1 : decode c_Mo_allHalves 1 = .ok (.istore_n 1, 1) := by decide +kernel
theorem d_Mo_allHalves_2 : decode c_Mo_allHalves 2 = .ok (.iconst 0, 1) := by decide +kernel
theorem d_Mo_allHalves_3 : decode c_Mo_allHalves 3 = .ok (.istore_n 2, 1) := by decide +kernel
theorem d_Mo_allHalves_4 : decode c_Mo_allHalves 4 = .ok (.iload_n 2, 1) := by decide +kernel
theorem d_Mo_allHalves_5 : decode c_Mo_allHalves 5 = .ok (.aload_n 0, 1) := by decide +kernel
theorem d_Mo_allHalves_6 : decode c_Mo_allHalves 6 = .ok (.getfield 101, 3) := by decide +kernel
theorem d_Mo_allHalves_9 : decode c_Mo_allHalves 9 = .ok (.if_icmp .ge 18, 3) := by decide +kernel
theorem d_Mo_allHalves_12 : decode c_Mo_allHalves 12 = .ok (.iload_n 1, 1) := by decide +kernel
theorem d_Mo_allHalves_13 : decode c_Mo_allHalves 13 = .ok (.aload_n 0, 1) := by decide +kernel
theorem d_Mo_allHalves_14 : decode c_Mo_allHalves 14 = .ok (.getfield 19, 3) := by decide +kernel
theorem d_Mo_allHalves_17 : decode c_Mo_allHalves 17 = .ok (.iload_n 2, 1) := by decide +kernel
theorem d_Mo_allHalves_18 : decode c_Mo_allHalves 18 = .ok (.iaload, 1) := by decide +kernel
theorem d_Mo_allHalves_19 : decode c_Mo_allHalves 19 = .ok (.iadd, 1) := by decide +kernel
theorem d_Mo_allHalves_20 : decode c_Mo_allHalves 20 = .ok (.istore_n 1, 1) := by decide +kernel
theorem d_Mo_allHalves_21 : decode c_Mo_allHalves 21 = .ok (.iinc 2 1, 3) := by decide +kernel
theorem d_Mo_allHalves_24 : decode c_Mo_allHalves 24 = .ok (.goto (-20), 3) := by decide +kernel
theorem d_Mo_allHalves_27 : decode c_Mo_allHalves 27 = .ok (.iload_n 1, 1) := by decide +kernel
theorem d_Mo_allHalves_28 : decode c_Mo_allHalves 28 = .ok (.ireturn, 1) := by decide +kernel
theorem C_Mo_allHalves {M : MM} {n : Nat} {J : JT} (hJ : MJ M n J) : AF y_Mo_allHalves c_Mo_allHalves 3 (some .int) 1 [vR 36] (M) (some (vI (hvS J n))) (M) := by
  have h6 := hJ.1
  have hM := hJ.2.1
  refine AF.of k_Mo_allHalves (lo := [some (vR 36), none, none]) rfl (Nat.le_of_ble_eq_true rfl) (fun X hX hR => ?_)
  refine v_iconst (pc := 0) (v := 0) hX (by decide) d_Mo_allHalves_0 ?_
  refine v_istore_n (pc := 1) (lo' := [some (vR _), some (vI _), none]) hX (Nat.le_of_ble_eq_true rfl) rfl d_Mo_allHalves_1 ?_
  refine v_iconst (pc := 2) (v := 0) hX (by decide) d_Mo_allHalves_2 ?_
  refine v_istore_n (pc := 3) (lo' := [some (vR _), some (vI _), some (vI _)]) hX (Nat.le_of_ble_eq_true rfl) rfl d_Mo_allHalves_3 ?_
  refine VW.cast (lo' := [some (vR 36), some (vI (hvS J 0)), some (vI (i3 0))]) (st' := []) (G' := gM (M)) rfl rfl rfl ?_
  refine v_for (X := X) (head := 4) (n) (fun kk => [some (vR 36), some (vI (hvS J kk)), some (vI (i3 kk))]) (fun kk => M) (fun k hk ih4 => ?_) ?_
  · show VW X 4 [some (vR 36), some (vI (hvS J k)), some (vI (i3 k))] [] (gM (M))
    refine v_iload_n (pc := 4) hX rfl d_Mo_allHalves_4 ?_
    refine v_aload_n (pc := 5) hX rfl d_Mo_allHalves_5 ?_
    refine g_getI (pc := 6) hX fl_Mo_101 rfl rfl d_Mo_allHalves_6 ?_
    refine v_icmp_ge (pc := 9) (tgt := 27) hX d_Mo_allHalves_9 rfl (fun h9 => False.elim (i3_ge_abs hk (by omega) (by rw [← hM]; exact h9))) (fun h9 => ?_)
    refine v_iload_n (pc := 12) hX rfl d_Mo_allHalves_12 ?_
    refine v_aload_n (pc := 13) hX rfl d_Mo_allHalves_13 ?_
    refine g_getR (pc := 14) hX fl_Mo_19 rfl rfl nf_36_5 d_Mo_allHalves_14 ?_
    refine v_iload_n (pc := 17) hX rfl d_Mo_allHalves_17 ?_
    refine g_iald (pc := 18) hX rfl (IX.of (n := 6) (by omega) (by decide)) d_Mo_allHalves_18 ?_
    rw [show M 40 k = J k 3 from hJ.2.2.1 k hk 3 (by decide)]
    refine v_iadd (pc := 19) hX d_Mo_allHalves_19 ?_
    refine v_istore_n (pc := 20) (lo' := [some (vR _), some (vI _), some (vI _)]) hX (Nat.le_of_ble_eq_true rfl) rfl d_Mo_allHalves_20 ?_
    refine v_iinc (pc := 21) (lo' := [some (vR _), some (vI _), some (vI _)]) hX rfl rfl d_Mo_allHalves_21 ?_
    refine v_goto (pc := 24) (tgt := 4) hX d_Mo_allHalves_24 rfl ?_
    exact VW.cast (by rw [i3_succ]; rfl) rfl rfl ih4
  · show VW X 4 [some (vR 36), some (vI (hvS J (n))), some (vI (i3 (n)))] [] (gM (M))
    refine v_iload_n (pc := 4) hX rfl d_Mo_allHalves_4 ?_
    refine v_aload_n (pc := 5) hX rfl d_Mo_allHalves_5 ?_
    refine g_getI (pc := 6) hX fl_Mo_101 rfl rfl d_Mo_allHalves_6 ?_
    refine v_icmp_ge (pc := 9) (tgt := 27) hX d_Mo_allHalves_9 rfl (fun h9 => ?_) (fun h9 => False.elim (absurd (by rw [hM]; exact Int32.le_refl _) h9))
    refine v_iload_n (pc := 27) hX rfl d_Mo_allHalves_27 ?_
    exact f_iret (pc := 28) hX hR (rfl) (rfl) d_Mo_allHalves_28
theorem d_Mo_many_0 : decode c_Mo_many 0 = .ok (.iload_n 1, 1) := by decide +kernel
theorem d_Mo_many_1 : decode c_Mo_many 1 = .ok (.tableswitch 51 0 3 #[31, 36, 41, 46], 31) := by decide +kernel
theorem d_Mo_many_32 : decode c_Mo_many 32 = .ok (.aload_n 0, 1) := by decide +kernel
theorem d_Mo_many_33 : decode c_Mo_many 33 = .ok (.getfield 101, 3) := by decide +kernel
theorem d_Mo_many_36 : decode c_Mo_many 36 = .ok (.ireturn, 1) := by decide +kernel
theorem d_Mo_many_37 : decode c_Mo_many 37 = .ok (.aload_n 0, 1) := by decide +kernel
theorem d_Mo_many_38 : decode c_Mo_many 38 = .ok (.getfield 108, 3) := by decide +kernel
theorem d_Mo_many_41 : decode c_Mo_many 41 = .ok (.ireturn, 1) := by decide +kernel
theorem d_Mo_many_42 : decode c_Mo_many 42 = .ok (.aload_n 0, 1) := by decide +kernel
theorem d_Mo_many_43 : decode c_Mo_many 43 = .ok (.invokevirtual 271, 3) := by decide +kernel
theorem d_Mo_many_46 : decode c_Mo_many 46 = .ok (.ireturn, 1) := by decide +kernel
theorem d_Mo_many_47 : decode c_Mo_many 47 = .ok (.aload_n 0, 1) := by decide +kernel
theorem d_Mo_many_48 : decode c_Mo_many 48 = .ok (.getfield 161, 3) := by decide +kernel
theorem d_Mo_many_51 : decode c_Mo_many 51 = .ok (.ireturn, 1) := by decide +kernel
theorem d_Mo_many_52 : decode c_Mo_many 52 = .ok (.bipush (-2), 2) := by decide +kernel
theorem d_Mo_many_54 : decode c_Mo_many 54 = .ok (.ireturn, 1) := by decide +kernel
theorem C_Mo_many {M : MM} {n nd rc : Nat} {J B : JT} {x : Int32} (hJ : MJ M n J) (hB : MB M nd B) (hM : M 36 27 = i3 rc) : AF y_Mo_many c_Mo_many 2 (some .int) 2 [vR 36, vI x] (M) (some (vI (mnN J n nd rc x))) (M) := by
  refine AF.of k_Mo_many (lo := [some (vR 36), some (vI x)]) rfl (Nat.le_of_ble_eq_true rfl) (fun X hX hR => ?_)
  refine v_iload_n (pc := 0) hX rfl d_Mo_many_0 ?_
  refine v_top (fun y1 q1 => ?_)
  by_cases e1_0 : y1 = 0
  · refine v_tabIn (pc := 1) (tgt := 32) (off := 31) (y := 0) hX e1_0 d_Mo_many_1 (by decide) (by decide) (by decide) rfl ?_
    refine v_aload_n (pc := 32) hX rfl d_Mo_many_32 ?_
    refine g_getI (pc := 33) hX fl_Mo_101 rfl rfl d_Mo_many_33 ?_
    exact f_iret (pc := 36) hX hR (by unfold mnN; subst q1; rw [if_pos e1_0]; exact hJ.2.1) (rfl) d_Mo_many_36
  by_cases e1_1 : y1 = 1
  · refine v_tabIn (pc := 1) (tgt := 37) (off := 36) (y := 1) hX e1_1 d_Mo_many_1 (by decide) (by decide) (by decide) rfl ?_
    refine v_aload_n (pc := 37) hX rfl d_Mo_many_37 ?_
    refine g_getI (pc := 38) hX fl_Mo_108 rfl rfl d_Mo_many_38 ?_
    exact f_iret (pc := 41) hX hR (by unfold mnN; subst q1; rw [if_neg e1_0, if_pos e1_1]; exact hB.2.1) (rfl) d_Mo_many_41
  by_cases e1_2 : y1 = 2
  · refine v_tabIn (pc := 1) (tgt := 42) (off := 41) (y := 2) hX e1_2 d_Mo_many_1 (by decide) (by decide) (by decide) rfl ?_
    refine v_aload_n (pc := 42) hX rfl d_Mo_many_42 ?_
    refine f_callV (pc := 43) hX k_Mo_allHalves ki_Mo_allHalves kv_Mo_allHalves ml_Mo_271 (C_Mo_allHalves hJ) rfl rfl rfl rfl rfl (Nat.le_of_ble_eq_true rfl) (Nat.le_of_ble_eq_true rfl) (Nat.le_of_ble_eq_true rfl) d_Mo_many_43 ?_
    exact f_iret (pc := 46) hX hR (by unfold mnN; subst q1; rw [if_neg e1_0, if_neg e1_1, if_pos e1_2]) (rfl) d_Mo_many_46
  by_cases e1_3 : y1 = 3
  · refine v_tabIn (pc := 1) (tgt := 47) (off := 46) (y := 3) hX e1_3 d_Mo_many_1 (by decide) (by decide) (by decide) rfl ?_
    refine v_aload_n (pc := 47) hX rfl d_Mo_many_47 ?_
    refine g_getI (pc := 48) hX fl_Mo_161 rfl rfl d_Mo_many_48 ?_
    exact f_iret (pc := 51) hX hR (by unfold mnN; subst q1; rw [if_neg e1_0, if_neg e1_1, if_neg e1_2, if_pos e1_3]; exact hM) (rfl) d_Mo_many_51
  refine v_tabOut (pc := 1) (tgt := 52) hX d_Mo_many_1 (by simp only [eq32, q_0, q_1, q_2, q_3, q_4, q_5, q_6, q_7, q_8, q_9, q_10, q_11, q_12, q_15, q_16, q_20, q_21, q_23, q_24, q_29, q_31, q_44, q_48, q_59, q_60, q_61, q_63, q_99, q_100, q_108, q_112, q_116, q_119, q_240, q_m1, q_m9] at e1_0 e1_1 e1_2 e1_3; omega) rfl ?_
  refine v_bipush (pc := 52) (v := (-2)) hX (by decide) d_Mo_many_52 ?_
  exact f_iret (pc := 54) hX hR (by unfold mnN; subst q1; rw [if_neg e1_0, if_neg e1_1, if_neg e1_2, if_neg e1_3]) (rfl) d_Mo_many_54
