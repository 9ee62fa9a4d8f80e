/-! The calls of the class: readings, odds, parts. -/
theorem d_LJ_reading_0 : decode c_LJ_reading 0 = .ok (.aload_n 0, 1) := by decide +kernel
theorem d_LJ_reading_1 : decode c_LJ_reading 1 = .ok (.getfield 12, 3) := by decide +kernel
theorem d_LJ_reading_4 : decode c_LJ_reading 4 = .ok (.iload_n 1, 1) := by decide +kernel
theorem d_LJ_reading_5 : decode c_LJ_reading 5 = .ok (.invokevirtual 92, 3) := by decide +kernel
theorem d_LJ_reading_8 : decode c_LJ_reading 8 = .ok (.ifnonnull 5, 3) := by decide +kernel
theorem d_LJ_reading_11 : decode c_LJ_reading 11 = .ok (.iconst (-1), 1) := by decide +kernel
theorem d_LJ_reading_12 : decode c_LJ_reading 12 = .ok (.ireturn, 1) := by decide +kernel
theorem d_LJ_reading_13 : decode c_LJ_reading 13 = .ok (.iload_n 2, 1) := by decide +kernel
theorem d_LJ_reading_14 : decode c_LJ_reading 14 = .ok (.bipush 10, 2) := by decide +kernel
theorem d_LJ_reading_16 : decode c_LJ_reading 16 = .ok (.invokestatic 65, 3) := by decide +kernel
theorem d_LJ_reading_19 : decode c_LJ_reading 19 = .ok (.ifCond .eq 12, 3) := by decide +kernel
theorem d_LJ_reading_22 : decode c_LJ_reading 22 = .ok (.iload_n 3, 1) := by decide +kernel
theorem d_LJ_reading_23 : decode c_LJ_reading 23 = .ok (.bipush 10, 2) := by decide +kernel
theorem d_LJ_reading_25 : decode c_LJ_reading 25 = .ok (.invokestatic 65, 3) := by decide +kernel
theorem d_LJ_reading_28 : decode c_LJ_reading 28 = .ok (.ifCond .ne 6, 3) := by decide +kernel
theorem d_LJ_reading_31 : decode c_LJ_reading 31 = .ok (.bipush (-2), 2) := by decide +kernel
theorem d_LJ_reading_33 : decode c_LJ_reading 33 = .ok (.ireturn, 1) := by decide +kernel
theorem d_LJ_reading_34 : decode c_LJ_reading 34 = .ok (.aload_n 0, 1) := by decide +kernel
theorem d_LJ_reading_35 : decode c_LJ_reading 35 = .ok (.getfield 35, 3) := by decide +kernel
theorem d_LJ_reading_38 : decode c_LJ_reading 38 = .ok (.iload_n 1, 1) := by decide +kernel
theorem d_LJ_reading_39 : decode c_LJ_reading 39 = .ok (.iload_n 2, 1) := by decide +kernel
theorem d_LJ_reading_40 : decode c_LJ_reading 40 = .ok (.iload_n 3, 1) := by decide +kernel
theorem d_LJ_reading_41 : decode c_LJ_reading 41 = .ok (.invokevirtual 204, 3) := by decide +kernel
theorem d_LJ_reading_44 : decode c_LJ_reading 44 = .ok (.ireturn, 1) := by decide +kernel
theorem C_LJ_reading_out {M : MM} {n : Nat} {J : JT} {x : Int32} (hJ : CJ M n J) (hx : rg x 0 ((n : Int) - 1) = false) {u v : Int32} : AF y_LJ_reading c_LJ_reading 4 (some .int) 3 [vR 2, vI x, vI u, vI v] (M) (some (vI (-1))) (M) := by
  refine AF.of k_LJ_reading (lo := [some (vR 2), some (vI x), some (vI u), some (vI v)]) rfl (Nat.le_of_ble_eq_true rfl) (fun X hX hR => ?_)
  refine v_aload_n (pc := 0) hX rfl d_LJ_reading_0 ?_
  refine g_getR (pc := 1) hX fl_LJ_12 rfl rfl nf_2_0 d_LJ_reading_1 ?_
  refine v_iload_n (pc := 4) hX rfl d_LJ_reading_4 ?_
  refine f_callV (pc := 5) hX k_Sp_jarAt ki_Sp_jarAt kv_Sp_jarAt ml_LJ_92 (C_Sp_jarAt_out hJ.1 hJ.2.1 hx) rfl rfl rfl rfl rfl (Nat.le_of_ble_eq_true rfl) (Nat.le_of_ble_eq_true rfl) (Nat.le_of_ble_eq_true rfl) d_LJ_reading_5 ?_
  refine v_ifnonnull (pc := 8) (tgt := 13) hX d_LJ_reading_8 rfl (fun h8 => False.elim (by revert h8; decide)) (fun h8 => ?_)
  refine v_iconst (pc := 11) (v := (-1)) hX (by decide) d_LJ_reading_11 ?_
  exact f_iret (pc := 12) hX hR (rfl) (rfl) d_LJ_reading_12
theorem C_LJ_reading_bad {M : MM} {n j : Nat} {J : JT} (hJ : CJ M n J) (hj : j < n) {u v : Int32} (hb : (rg u 0 9 && rg v 0 9) = false) : AF y_LJ_reading c_LJ_reading 4 (some .int) 3 [vR 2, vI (i3 j), vI u, vI v] (M) (some (vI (-2))) (M) := by
  have h6 := hJ.1
  have hsj := sh_jar j (by omega)
  refine AF.of k_LJ_reading (lo := [some (vR 2), some (vI (i3 j)), some (vI u), some (vI v)]) rfl (Nat.le_of_ble_eq_true rfl) (fun X hX hR => ?_)
  refine v_aload_n (pc := 0) hX rfl d_LJ_reading_0 ?_
  refine g_getR (pc := 1) hX fl_LJ_12 rfl rfl nf_2_0 d_LJ_reading_1 ?_
  refine v_iload_n (pc := 4) hX rfl d_LJ_reading_4 ?_
  refine f_callV (pc := 5) hX k_Sp_jarAt ki_Sp_jarAt kv_Sp_jarAt ml_LJ_92 (C_Sp_jarAt_in hJ.1 hJ.2.1 hj) rfl rfl rfl rfl rfl (Nat.le_of_ble_eq_true rfl) (Nat.le_of_ble_eq_true rfl) (Nat.le_of_ble_eq_true rfl) d_LJ_reading_5 ?_
  refine v_ifnonnull (pc := 8) (tgt := 13) hX d_LJ_reading_8 rfl (fun h8 => ?_) (fun h8 => False.elim (by have := sh_two (by assumption); omega))
  refine v_iload_n (pc := 13) hX rfl d_LJ_reading_13 ?_
  refine v_bipush (pc := 14) (v := 10) hX (by decide) d_LJ_reading_14 ?_
  refine f_callS (pc := 16) hX k_LJ_isBelow ks_LJ_isBelow ml_LJ_65 (C_LJ_isBelow) rfl rfl rfl (Nat.le_of_ble_eq_true rfl) (Nat.le_of_ble_eq_true rfl) (Nat.le_of_ble_eq_true rfl) d_LJ_reading_16 ?_
  rw [show (10 : Int32).toInt - 1 = 9 from rfl]
  refine f_ifeqB (pc := 19) (tgt := 31) hX d_LJ_reading_19 rfl (fun h19 => ?_) (fun h19 => ?_)
  · refine v_bipush (pc := 31) (v := (-2)) hX (by decide) d_LJ_reading_31 ?_
    exact f_iret (pc := 33) hX hR (rfl) (rfl) d_LJ_reading_33
  · refine v_iload_n (pc := 22) hX rfl d_LJ_reading_22 ?_
    refine v_bipush (pc := 23) (v := 10) hX (by decide) d_LJ_reading_23 ?_
    refine f_callS (pc := 25) hX k_LJ_isBelow ks_LJ_isBelow ml_LJ_65 (C_LJ_isBelow) rfl rfl rfl (Nat.le_of_ble_eq_true rfl) (Nat.le_of_ble_eq_true rfl) (Nat.le_of_ble_eq_true rfl) d_LJ_reading_25 ?_
    rw [show (10 : Int32).toInt - 1 = 9 from rfl]
    refine f_ifneB (pc := 28) (tgt := 34) hX d_LJ_reading_28 rfl (fun h28 => False.elim (by rw [h19, h28] at hb; cases hb)) (fun h28 => ?_)
    refine v_bipush (pc := 31) (v := (-2)) hX (by decide) d_LJ_reading_31 ?_
    exact f_iret (pc := 33) hX hR (rfl) (rfl) d_LJ_reading_33
theorem C_LJ_reading_full {M : MM} {n j : Nat} {J : JT} (hJ : CJ M n J) (hj : j < n) {u v : Int32} (hu : rg u 0 9 = true) (hv : rg v 0 9 = true) (hM : M 22 3 = i3 8) : AF y_LJ_reading c_LJ_reading 4 (some .int) 3 [vR 2, vI (i3 j), vI u, vI v] (M) (some (vI (-4))) (M) := by
  have h6 := hJ.1
  have hsj := sh_jar j (by omega)
  refine AF.of k_LJ_reading (lo := [some (vR 2), some (vI (i3 j)), some (vI u), some (vI v)]) rfl (Nat.le_of_ble_eq_true rfl) (fun X hX hR => ?_)
  refine v_aload_n (pc := 0) hX rfl d_LJ_reading_0 ?_
  refine g_getR (pc := 1) hX fl_LJ_12 rfl rfl nf_2_0 d_LJ_reading_1 ?_
  refine v_iload_n (pc := 4) hX rfl d_LJ_reading_4 ?_
  refine f_callV (pc := 5) hX k_Sp_jarAt ki_Sp_jarAt kv_Sp_jarAt ml_LJ_92 (C_Sp_jarAt_in hJ.1 hJ.2.1 hj) rfl rfl rfl rfl rfl (Nat.le_of_ble_eq_true rfl) (Nat.le_of_ble_eq_true rfl) (Nat.le_of_ble_eq_true rfl) d_LJ_reading_5 ?_
  refine v_ifnonnull (pc := 8) (tgt := 13) hX d_LJ_reading_8 rfl (fun h8 => ?_) (fun h8 => False.elim (by have := sh_two (by assumption); omega))
  refine v_iload_n (pc := 13) hX rfl d_LJ_reading_13 ?_
  refine v_bipush (pc := 14) (v := 10) hX (by decide) d_LJ_reading_14 ?_
  refine f_callS (pc := 16) hX k_LJ_isBelow ks_LJ_isBelow ml_LJ_65 (C_LJ_isBelow) rfl rfl rfl (Nat.le_of_ble_eq_true rfl) (Nat.le_of_ble_eq_true rfl) (Nat.le_of_ble_eq_true rfl) d_LJ_reading_16 ?_
  rw [show (10 : Int32).toInt - 1 = 9 from rfl]
  refine f_ifeqB (pc := 19) (tgt := 31) hX d_LJ_reading_19 rfl (fun h19 => False.elim (by rw [hu] at h19; cases h19)) (fun h19 => ?_)
  refine v_iload_n (pc := 22) hX rfl d_LJ_reading_22 ?_
  refine v_bipush (pc := 23) (v := 10) hX (by decide) d_LJ_reading_23 ?_
  refine f_callS (pc := 25) hX k_LJ_isBelow ks_LJ_isBelow ml_LJ_65 (C_LJ_isBelow) rfl rfl rfl (Nat.le_of_ble_eq_true rfl) (Nat.le_of_ble_eq_true rfl) (Nat.le_of_ble_eq_true rfl) d_LJ_reading_25 ?_
  rw [show (10 : Int32).toInt - 1 = 9 from rfl]
  refine f_ifneB (pc := 28) (tgt := 34) hX d_LJ_reading_28 rfl (fun h28 => ?_) (fun h28 => False.elim (by rw [hv] at h28; cases h28))
  refine v_aload_n (pc := 34) hX rfl d_LJ_reading_34 ?_
  refine g_getR (pc := 35) hX fl_LJ_35 rfl rfl nf_2_3 d_LJ_reading_35 ?_
  refine v_iload_n (pc := 38) hX rfl d_LJ_reading_38 ?_
  refine v_iload_n (pc := 39) hX rfl d_LJ_reading_39 ?_
  refine v_iload_n (pc := 40) hX rfl d_LJ_reading_40 ?_
  refine f_callV (pc := 41) hX k_Re_take ki_Re_take kv_Re_take ml_LJ_204 (C_Re_take_full hM) rfl rfl rfl rfl rfl (Nat.le_of_ble_eq_true rfl) (Nat.le_of_ble_eq_true rfl) (Nat.le_of_ble_eq_true rfl) d_LJ_reading_41 ?_
  exact f_iret (pc := 44) hX hR (rfl) (rfl) d_LJ_reading_44
theorem C_LJ_reading_ok {M : MM} {n j : Nat} {J : JT} (hJ : CJ M n J) (hj : j < n) {u v : Int32} {rc : Nat} (hu : rg u 0 9 = true) (hv : rg v 0 9 = true) (hr : rc < 8) (hM : M 22 3 = i3 rc) : AF y_LJ_reading c_LJ_reading 4 (some .int) 3 [vR 2, vI (i3 j), vI u, vI v] (M) (some (vI (i3 rc))) (upM (upM (upM (upM M 23 rc (i3 j)) 24 rc u) 25 rc v) 22 3 (i3 (rc + 1))) := by
  have h6 := hJ.1
  have hsj := sh_jar j (by omega)
  refine AF.of k_LJ_reading (lo := [some (vR 2), some (vI (i3 j)), some (vI u), some (vI v)]) rfl (Nat.le_of_ble_eq_true rfl) (fun X hX hR => ?_)
  refine v_aload_n (pc := 0) hX rfl d_LJ_reading_0 ?_
  refine g_getR (pc := 1) hX fl_LJ_12 rfl rfl nf_2_0 d_LJ_reading_1 ?_
  refine v_iload_n (pc := 4) hX rfl d_LJ_reading_4 ?_
  refine f_callV (pc := 5) hX k_Sp_jarAt ki_Sp_jarAt kv_Sp_jarAt ml_LJ_92 (C_Sp_jarAt_in hJ.1 hJ.2.1 hj) rfl rfl rfl rfl rfl (Nat.le_of_ble_eq_true rfl) (Nat.le_of_ble_eq_true rfl) (Nat.le_of_ble_eq_true rfl) d_LJ_reading_5 ?_
  refine v_ifnonnull (pc := 8) (tgt := 13) hX d_LJ_reading_8 rfl (fun h8 => ?_) (fun h8 => False.elim (by have := sh_two (by assumption); omega))
  refine v_iload_n (pc := 13) hX rfl d_LJ_reading_13 ?_
  refine v_bipush (pc := 14) (v := 10) hX (by decide) d_LJ_reading_14 ?_
  refine f_callS (pc := 16) hX k_LJ_isBelow ks_LJ_isBelow ml_LJ_65 (C_LJ_isBelow) rfl rfl rfl (Nat.le_of_ble_eq_true rfl) (Nat.le_of_ble_eq_true rfl) (Nat.le_of_ble_eq_true rfl) d_LJ_reading_16 ?_
  rw [show (10 : Int32).toInt - 1 = 9 from rfl]
  refine f_ifeqB (pc := 19) (tgt := 31) hX d_LJ_reading_19 rfl (fun h19 => False.elim (by rw [hu] at h19; cases h19)) (fun h19 => ?_)
  refine v_iload_n (pc := 22) hX rfl d_LJ_reading_22 ?_
  refine v_bipush (pc := 23) (v := 10) hX (by decide) d_LJ_reading_23 ?_
  refine f_callS (pc := 25) hX k_LJ_isBelow ks_LJ_isBelow ml_LJ_65 (C_LJ_isBelow) rfl rfl rfl (Nat.le_of_ble_eq_true rfl) (Nat.le_of_ble_eq_true rfl) (Nat.le_of_ble_eq_true rfl) d_LJ_reading_25 ?_
  rw [show (10 : Int32).toInt - 1 = 9 from rfl]
  refine f_ifneB (pc := 28) (tgt := 34) hX d_LJ_reading_28 rfl (fun h28 => ?_) (fun h28 => False.elim (by rw [hv] at h28; cases h28))
  refine v_aload_n (pc := 34) hX rfl d_LJ_reading_34 ?_
  refine g_getR (pc := 35) hX fl_LJ_35 rfl rfl nf_2_3 d_LJ_reading_35 ?_
  refine v_iload_n (pc := 38) hX rfl d_LJ_reading_38 ?_
  refine v_iload_n (pc := 39) hX rfl d_LJ_reading_39 ?_
  refine v_iload_n (pc := 40) hX rfl d_LJ_reading_40 ?_
  refine f_callV (pc := 41) hX k_Re_take ki_Re_take kv_Re_take ml_LJ_204 (C_Re_take hr hM) rfl rfl rfl rfl rfl (Nat.le_of_ble_eq_true rfl) (Nat.le_of_ble_eq_true rfl) (Nat.le_of_ble_eq_true rfl) d_LJ_reading_41 ?_
  exact f_iret (pc := 44) hX hR (rfl) (rfl) d_LJ_reading_44
theorem i3_subn {a b : Nat} (h : b ≤ a) : i3 a - i3 b = i3 (a - b) := by
  generalize hd : a - b = d
  rw [show a = d + b by omega, i3_add, Int32.add_sub_cancel]
theorem d_LJ_back_0 : decode c_LJ_back 0 = .ok (.iload_n 1, 1) := by decide +kernel
theorem d_LJ_back_1 : decode c_LJ_back 1 = .ok (.ifCond .lt 14, 3) := by decide +kernel
theorem d_LJ_back_4 : decode c_LJ_back 4 = .ok (.iload_n 1, 1) := by decide +kernel
theorem d_LJ_back_5 : decode c_LJ_back 5 = .ok (.aload_n 0, 1) := by decide +kernel
theorem d_LJ_back_6 : decode c_LJ_back 6 = .ok (.getfield 35, 3) := by decide +kernel
theorem d_LJ_back_9 : decode c_LJ_back 9 = .ok (.getfield 86, 3) := by decide +kernel
theorem d_LJ_back_12 : decode c_LJ_back 12 = .ok (.if_icmp .le 6, 3) := by decide +kernel
theorem d_LJ_back_15 : decode c_LJ_back 15 = .ok (.bipush (-2), 2) := by decide +kernel
theorem d_LJ_back_17 : decode c_LJ_back 17 = .ok (.ireturn, 1) := by decide +kernel
theorem d_LJ_back_18 : decode c_LJ_back 18 = .ok (.aload_n 0, 1) := by decide +kernel
theorem d_LJ_back_19 : decode c_LJ_back 19 = .ok (.getfield 35, 3) := by decide +kernel
theorem d_LJ_back_22 : decode c_LJ_back 22 = .ok (.dup, 1) := by decide +kernel
theorem d_LJ_back_23 : decode c_LJ_back 23 = .ok (.getfield 86, 3) := by decide +kernel
theorem d_LJ_back_26 : decode c_LJ_back 26 = .ok (.iload_n 1, 1) := by decide +kernel
theorem d_LJ_back_27 : decode c_LJ_back 27 = .ok (.isub, 1) := by decide +kernel
theorem d_LJ_back_28 : decode c_LJ_back 28 = .ok (.putfield 86, 3) := by decide +kernel
theorem d_LJ_back_31 : decode c_LJ_back 31 = .ok (.aload_n 0, 1) := by decide +kernel
theorem d_LJ_back_32 : decode c_LJ_back 32 = .ok (.getfield 35, 3) := by decide +kernel
theorem d_LJ_back_35 : decode c_LJ_back 35 = .ok (.getfield 86, 3) := by decide +kernel
theorem d_LJ_back_38 : decode c_LJ_back 38 = .ok (.ireturn, 1) := by decide +kernel
theorem C_LJ_back_bad {M : MM} {rc : Nat} {x : Int32} (h8 : rc ≤ 8) (hM : M 22 3 = i3 rc) (hx : rg x 0 rc = false) : AF y_LJ_back c_LJ_back 2 (some .int) 1 [vR 2, vI x] (M) (some (vI (-2))) (M) := by
  have hri := i3_int (k := rc) (by omega)
  refine AF.of k_LJ_back (lo := [some (vR 2), some (vI x)]) rfl (Nat.le_of_ble_eq_true rfl) (fun X hX hR => ?_)
  refine v_iload_n (pc := 0) hX rfl d_LJ_back_0 ?_
  refine v_if_lt (pc := 1) (tgt := 15) hX d_LJ_back_1 rfl (fun h1 => ?_) (fun h1 => ?_)
  · refine v_bipush (pc := 15) (v := (-2)) hX (by decide) d_LJ_back_15 ?_
    exact f_iret (pc := 17) hX hR (rfl) (rfl) d_LJ_back_17
  · refine v_iload_n (pc := 4) hX rfl d_LJ_back_4 ?_
    refine v_aload_n (pc := 5) hX rfl d_LJ_back_5 ?_
    refine g_getR (pc := 6) hX fl_LJ_35 rfl rfl nf_2_3 d_LJ_back_6 ?_
    refine g_getI (pc := 9) hX fl_LJ_86 rfl rfl d_LJ_back_9 ?_
    rw [hM]
    refine v_icmp_le (pc := 12) (tgt := 18) hX d_LJ_back_12 rfl (fun h12 => False.elim (absurd (rg_true.mpr (show (0 : Int) ≤ x.toInt ∧ x.toInt ≤ rc by simp only [lt32, le32, q_0, hri] at *; omega)) (by rw [hx]; decide))) (fun h12 => ?_)
    refine v_bipush (pc := 15) (v := (-2)) hX (by decide) d_LJ_back_15 ?_
    exact f_iret (pc := 17) hX hR (rfl) (rfl) d_LJ_back_17
theorem C_LJ_back_ok {M : MM} {rc k : Nat} (h8 : rc ≤ 8) (hM : M 22 3 = i3 rc) (hk : k ≤ rc) : AF y_LJ_back c_LJ_back 2 (some .int) 1 [vR 2, vI (i3 k)] (M) (some (vI (i3 (rc - k)))) (upM M 22 3 (i3 (rc - k))) := by
  refine AF.of k_LJ_back (lo := [some (vR 2), some (vI (i3 k))]) rfl (Nat.le_of_ble_eq_true rfl) (fun X hX hR => ?_)
  refine v_iload_n (pc := 0) hX rfl d_LJ_back_0 ?_
  refine v_if_lt (pc := 1) (tgt := 15) hX d_LJ_back_1 rfl (fun h1 => False.elim (by have := (i3_lt (b := 0) (by omega) (by decide)).mp h1; omega)) (fun h1 => ?_)
  refine v_iload_n (pc := 4) hX rfl d_LJ_back_4 ?_
  refine v_aload_n (pc := 5) hX rfl d_LJ_back_5 ?_
  refine g_getR (pc := 6) hX fl_LJ_35 rfl rfl nf_2_3 d_LJ_back_6 ?_
  refine g_getI (pc := 9) hX fl_LJ_86 rfl rfl d_LJ_back_9 ?_
  rw [hM]
  refine v_icmp_le (pc := 12) (tgt := 18) hX d_LJ_back_12 rfl (fun h12 => ?_) (fun h12 => False.elim (h12 ((i3_le (by omega) (by omega)).mpr hk)))
  refine v_aload_n (pc := 18) hX rfl d_LJ_back_18 ?_
  refine g_getR (pc := 19) hX fl_LJ_35 rfl rfl nf_2_3 d_LJ_back_19 ?_
  refine v_dup (pc := 22) hX rfl d_LJ_back_22 ?_
  refine g_getI (pc := 23) hX fl_LJ_86 rfl rfl d_LJ_back_23 ?_
  rw [hM]
  refine v_iload_n (pc := 26) hX rfl d_LJ_back_26 ?_
  refine v_isub (pc := 27) hX d_LJ_back_27 ?_
  rw [i3_subn hk]
  refine g_putI (pc := 28) hX fl_LJ_86 rfl (finI rfl rfl) rfl rfl rfl d_LJ_back_28 ?_
  refine v_aload_n (pc := 31) hX rfl d_LJ_back_31 ?_
  refine g_getR (pc := 32) hX fl_LJ_35 rfl rfl nf_2_3 d_LJ_back_32 ?_
  refine g_getI (pc := 35) hX fl_LJ_86 rfl rfl d_LJ_back_35 ?_
  exact f_iret (pc := 38) hX hR (upM_same) (rfl) d_LJ_back_38
theorem shl_i3b : ∀ j, j < 10 → ((1 : Int32) <<< (i3 j &&& 31)) = i3 (2 ^ j) := by decide +kernel
theorem or_i3b : ∀ k, k < 10 → ∀ s, s < 2 ^ k → (i3 s ||| i3 (2 ^ k)) = i3 (s + 2 ^ k) := by decide +kernel
def pM (M : MM) (r w k : Nat) : MM := if k = 0 then M else upM M r w (i3 (k - 1))
theorem pM_up {M : MM} {r w k : Nat} {x : Int32} : upM (pM M r w k) r w x = upM M r w x := by
  unfold pM
  split
  · rfl
  · exact upM_up
theorem pM_s {M : MM} {r w k : Nat} : pM M r w (k + 1) = upM M r w (i3 k) := by
  unfold pM
  rw [if_neg (Nat.succ_ne_zero k)]; rfl
theorem CR.eq {M M' : MM} {n rc : Nat} {rj : Nat → Nat} {rt : JT} (h : CR M n rc rj rt) (he : ∀ a, 22 ≤ a → a < 26 → ∀ i, M' a i = M a i) : CR M' n rc rj rt := by
  obtain ⟨h1, h2, h3⟩ := h
  refine ⟨h1, by rw [he 22 (by decide) (by decide)]; exact h2, fun x hx => ?_⟩
  obtain ⟨g1, g2, g3, g4⟩ := h3 x hx
  exact ⟨g1, by rw [he 23 (by decide) (by decide)]; exact g2, by rw [he 24 (by decide) (by decide)]; exact g3, by rw [he 25 (by decide) (by decide)]; exact g4⟩
theorem d_LJ_possible_0 : decode c_LJ_possible 0 = .ok (.aload_n 0, 1) := by decide +kernel
theorem d_LJ_possible_1 : decode c_LJ_possible 1 = .ok (.getfield 12, 3) := by decide +kernel
theorem d_LJ_possible_4 : decode c_LJ_possible 4 = .ok (.iload_n 1, 1) := by decide +kernel
theorem d_LJ_possible_5 : decode c_LJ_possible 5 = .ok (.invokevirtual 92, 3) := by decide +kernel
theorem d_LJ_possible_8 : decode c_LJ_possible 8 = .ok (.astore 4, 2) := by decide +kernel
theorem d_LJ_possible_10 : decode c_LJ_possible 10 = .ok (.aload 4, 2) := by decide +kernel
theorem d_LJ_possible_12 : decode c_LJ_possible 12 = .ok (.ifnonnull 5, 3) := by decide +kernel
theorem d_LJ_possible_15 : decode c_LJ_possible 15 = .ok (.iconst (-1), 1) := by decide +kernel
theorem d_LJ_possible_16 : decode c_LJ_possible 16 = .ok (.ireturn, 1) := by decide +kernel
theorem d_LJ_possible_17 : decode c_LJ_possible 17 = .ok (.aload 4, 2) := by decide +kernel
theorem d_LJ_possible_19 : decode c_LJ_possible 19 = .ok (.iload_n 2, 1) := by decide +kernel
theorem d_LJ_possible_20 : decode c_LJ_possible 20 = .ok (.invokevirtual 96, 3) := by decide +kernel
theorem d_LJ_possible_23 : decode c_LJ_possible 23 = .ok (.istore 5, 2) := by decide +kernel
theorem d_LJ_possible_25 : decode c_LJ_possible 25 = .ok (.iconst 0, 1) := by decide +kernel
theorem d_LJ_possible_26 : decode c_LJ_possible 26 = .ok (.istore 6, 2) := by decide +kernel
theorem d_LJ_possible_28 : decode c_LJ_possible 28 = .ok (.iconst 0, 1) := by decide +kernel
theorem d_LJ_possible_29 : decode c_LJ_possible 29 = .ok (.istore 7, 2) := by decide +kernel
theorem d_LJ_possible_31 : decode c_LJ_possible 31 = .ok (.iload 7, 2) := by decide +kernel
theorem d_LJ_possible_33 : decode c_LJ_possible 33 = .ok (.iload_n 3, 1) := by decide +kernel
theorem d_LJ_possible_34 : decode c_LJ_possible 34 = .ok (.if_icmp .ge 44, 3) := by decide +kernel
theorem d_LJ_possible_37 : decode c_LJ_possible 37 = .ok (.aload 4, 2) := by decide +kernel
theorem d_LJ_possible_39 : decode c_LJ_possible 39 = .ok (.iload_n 2, 1) := by decide +kernel
theorem d_LJ_possible_40 : decode c_LJ_possible 40 = .ok (.iload 7, 2) := by decide +kernel
theorem d_LJ_possible_42 : decode c_LJ_possible 42 = .ok (.invokevirtual 280, 3) := by decide +kernel
theorem d_LJ_possible_45 : decode c_LJ_possible 45 = .ok (.iload 6, 2) := by decide +kernel
theorem d_LJ_possible_47 : decode c_LJ_possible 47 = .ok (.aload_n 0, 1) := by decide +kernel
theorem d_LJ_possible_48 : decode c_LJ_possible 48 = .ok (.getfield 35, 3) := by decide +kernel
theorem d_LJ_possible_51 : decode c_LJ_possible 51 = .ok (.aload_n 0, 1) := by decide +kernel
theorem d_LJ_possible_52 : decode c_LJ_possible 52 = .ok (.getfield 12, 3) := by decide +kernel
theorem d_LJ_possible_55 : decode c_LJ_possible 55 = .ok (.invokevirtual 284, 3) := by decide +kernel
theorem d_LJ_possible_58 : decode c_LJ_possible 58 = .ok (.ifCond .eq 10, 3) := by decide +kernel
theorem d_LJ_possible_61 : decode c_LJ_possible 61 = .ok (.iconst 1, 1) := by decide +kernel
theorem d_LJ_possible_62 : decode c_LJ_possible 62 = .ok (.iload 7, 2) := by decide +kernel
theorem d_LJ_possible_64 : decode c_LJ_possible 64 = .ok (.ishl, 1) := by decide +kernel
theorem d_LJ_possible_65 : decode c_LJ_possible 65 = .ok (.goto 4, 3) := by decide +kernel
theorem d_LJ_possible_68 : decode c_LJ_possible 68 = .ok (.iconst 0, 1) := by decide +kernel
theorem d_LJ_possible_69 : decode c_LJ_possible 69 = .ok (.ior, 1) := by decide +kernel
theorem d_LJ_possible_70 : decode c_LJ_possible 70 = .ok (.istore 6, 2) := by decide +kernel
theorem d_LJ_possible_72 : decode c_LJ_possible 72 = .ok (.iinc 7 1, 3) := by decide +kernel
theorem d_LJ_possible_75 : decode c_LJ_possible 75 = .ok (.goto (-44), 3) := by decide +kernel
theorem d_LJ_possible_78 : decode c_LJ_possible 78 = .ok (.aload 4, 2) := by decide +kernel
theorem d_LJ_possible_80 : decode c_LJ_possible 80 = .ok (.iload_n 2, 1) := by decide +kernel
theorem d_LJ_possible_81 : decode c_LJ_possible 81 = .ok (.iload 5, 2) := by decide +kernel
theorem d_LJ_possible_83 : decode c_LJ_possible 83 = .ok (.invokevirtual 280, 3) := by decide +kernel
theorem d_LJ_possible_86 : decode c_LJ_possible 86 = .ok (.iload 6, 2) := by decide +kernel
theorem d_LJ_possible_88 : decode c_LJ_possible 88 = .ok (.ireturn, 1) := by decide +kernel
theorem C_LJ_possible_1_out {M : MM} {n : Nat} {J : JT} {x : Int32} (hJ : CJ M n J) (hx : rg x 0 ((n : Int) - 1) = false) : AF y_LJ_possible c_LJ_possible 8 (some .int) 4 [vR 2, vI x, vI 1, vI 10] (M) (some (vI (-1))) (M) := by
  refine AF.of k_LJ_possible (lo := [some (vR 2), some (vI x), some (vI 1), some (vI 10), none, none, none, none]) rfl (Nat.le_of_ble_eq_true rfl) (fun X hX hR => ?_)
  refine v_aload_n (pc := 0) hX rfl d_LJ_possible_0 ?_
  refine g_getR (pc := 1) hX fl_LJ_12 rfl rfl nf_2_0 d_LJ_possible_1 ?_
  refine v_iload_n (pc := 4) hX rfl d_LJ_possible_4 ?_
  refine f_callV (pc := 5) hX k_Sp_jarAt ki_Sp_jarAt kv_Sp_jarAt ml_LJ_92 (C_Sp_jarAt_out hJ.1 hJ.2.1 hx) rfl rfl rfl rfl rfl (Nat.le_of_ble_eq_true rfl) (Nat.le_of_ble_eq_true rfl) (Nat.le_of_ble_eq_true rfl) d_LJ_possible_5 ?_
  refine v_astore (pc := 8) (lo' := [some (vR _), some (vI _), some (vI _), some (vI _), some (vR _), none, none, none]) hX (Nat.le_of_ble_eq_true rfl) rfl d_LJ_possible_8 ?_
  refine v_aload (pc := 10) hX rfl d_LJ_possible_10 ?_
  refine v_ifnonnull (pc := 12) (tgt := 17) hX d_LJ_possible_12 rfl (fun h12 => False.elim (by revert h12; decide)) (fun h12 => ?_)
  refine v_iconst (pc := 15) (v := (-1)) hX (by decide) d_LJ_possible_15 ?_
  exact f_iret (pc := 16) hX hR (rfl) (rfl) d_LJ_possible_16
theorem C_LJ_possible_1 {M : MM} {n j rc : Nat} {J : JT} {rj : Nat → Nat} {rt : JT} (hJ : CJ M n J) (hR0 : CR M n rc rj rt) (hj : j < n) : AF y_LJ_possible c_LJ_possible 8 (some .int) 4 [vR 2, vI (i3 j), vI 1, vI 10] (M) (some (vI (i3 (gjN (fun v => soB (upM J j 1 (i3 v)) rc rj rt) 10)))) (M) := by
  have h6 := hJ.1
  have hsj := sh_jar j (by omega)
  have hMJ : M (6 + j) 1 = J j 1 := hJ.2.2 j hj 1 (by decide)
  refine AF.of k_LJ_possible (lo := [some (vR 2), some (vI (i3 j)), some (vI 1), some (vI 10), none, none, none, none]) rfl (Nat.le_of_ble_eq_true rfl) (fun X hX hR => ?_)
  refine v_aload_n (pc := 0) hX rfl d_LJ_possible_0 ?_
  refine g_getR (pc := 1) hX fl_LJ_12 rfl rfl nf_2_0 d_LJ_possible_1 ?_
  refine v_iload_n (pc := 4) hX rfl d_LJ_possible_4 ?_
  refine f_callV (pc := 5) hX k_Sp_jarAt ki_Sp_jarAt kv_Sp_jarAt ml_LJ_92 (C_Sp_jarAt_in hJ.1 hJ.2.1 hj) rfl rfl rfl rfl rfl (Nat.le_of_ble_eq_true rfl) (Nat.le_of_ble_eq_true rfl) (Nat.le_of_ble_eq_true rfl) d_LJ_possible_5 ?_
  refine v_astore (pc := 8) (lo' := [some (vR _), some (vI _), some (vI _), some (vI _), some (vR _), none, none, none]) hX (Nat.le_of_ble_eq_true rfl) rfl d_LJ_possible_8 ?_
  refine v_aload (pc := 10) hX rfl d_LJ_possible_10 ?_
  refine v_ifnonnull (pc := 12) (tgt := 17) hX d_LJ_possible_12 rfl (fun h12 => ?_) (fun h12 => False.elim (by have := sh_two (by assumption); omega))
  refine v_aload (pc := 17) hX rfl d_LJ_possible_17 ?_
  refine v_iload_n (pc := 19) hX rfl d_LJ_possible_19 ?_
  refine f_callV (pc := 20) hX k_Ja_part ki_Ja_part kv_Ja_part ml_LJ_96 (C_Ja_part (by assumption)) (by assumption) rfl rfl rfl rfl (Nat.le_of_ble_eq_true rfl) (Nat.le_of_ble_eq_true rfl) (Nat.le_of_ble_eq_true rfl) d_LJ_possible_20 ?_
  rw [jp1, hMJ]
  refine v_istore (pc := 23) (lo' := [some (vR _), some (vI _), some (vI _), some (vI _), some (vR _), some (vI _), none, none]) hX (Nat.le_of_ble_eq_true rfl) rfl d_LJ_possible_23 ?_
  refine v_iconst (pc := 25) (v := 0) hX (by decide) d_LJ_possible_25 ?_
  refine v_istore (pc := 26) (lo' := [some (vR _), some (vI _), some (vI _), some (vI _), some (vR _), some (vI _), some (vI _), none]) hX (Nat.le_of_ble_eq_true rfl) rfl d_LJ_possible_26 ?_
  refine v_iconst (pc := 28) (v := 0) hX (by decide) d_LJ_possible_28 ?_
  refine v_istore (pc := 29) (lo' := [some (vR _), some (vI _), some (vI _), some (vI _), some (vR _), some (vI _), some (vI _), some (vI _)]) hX (Nat.le_of_ble_eq_true rfl) rfl d_LJ_possible_29 ?_
  refine VW.cast (lo' := [some (vR 2), some (vI (i3 j)), some (vI 1), some (vI 10), some (vR (6 + j)), some (vI (J j 1)), some (vI (i3 (gjN (fun v => soB (upM J j 1 (i3 v)) rc rj rt) 0))), some (vI (i3 0))]) (st' := []) (G' := gM (pM M (6 + j) 1 0)) rfl rfl rfl ?_
  refine v_for (X := X) (head := 31) (10) (fun kk => [some (vR 2), some (vI (i3 j)), some (vI 1), some (vI 10), some (vR (6 + j)), some (vI (J j 1)), some (vI (i3 (gjN (fun v => soB (upM J j 1 (i3 v)) rc rj rt) kk))), some (vI (i3 kk))]) (fun kk => pM M (6 + j) 1 kk) (fun k hk ih31 => ?_) ?_
  · show VW X 31 [some (vR 2), some (vI (i3 j)), some (vI 1), some (vI 10), some (vR (6 + j)), some (vI (J j 1)), some (vI (i3 (gjN (fun v => soB (upM J j 1 (i3 v)) rc rj rt) k))), some (vI (i3 k))] [] (gM (pM M (6 + j) 1 k))
    have hb := shl_i3b k (by omega)
    have hl := gjN_lt (fun v => soB (upM J j 1 (i3 v)) rc rj rt) k
    refine v_iload (pc := 31) hX rfl d_LJ_possible_31 ?_
    refine v_iload_n (pc := 33) hX rfl d_LJ_possible_33 ?_
    refine v_icmp_ge (pc := 34) (tgt := 78) hX d_LJ_possible_34 rfl (fun h34 => False.elim (i3_ge_abs hk (by decide) h34)) (fun h34 => ?_)
    refine v_aload (pc := 37) hX rfl d_LJ_possible_37 ?_
    refine v_iload_n (pc := 39) hX rfl d_LJ_possible_39 ?_
    refine v_iload (pc := 40) hX rfl d_LJ_possible_40 ?_
    refine f_callV0 (pc := 42) hX k_Ja_become ki_Ja_become kv_Ja_become ml_LJ_280 (C_Ja_become_1 (by assumption)) (by assumption) rfl rfl rfl rfl (Nat.le_of_ble_eq_true rfl) (Nat.le_of_ble_eq_true rfl) (Nat.le_of_ble_eq_true rfl) d_LJ_possible_42 ?_
    rw [pM_up]
    refine v_iload (pc := 45) hX rfl d_LJ_possible_45 ?_
    refine v_aload_n (pc := 47) hX rfl d_LJ_possible_47 ?_
    refine g_getR (pc := 48) hX fl_LJ_35 rfl rfl nf_2_3 d_LJ_possible_48 ?_
    refine v_aload_n (pc := 51) hX rfl d_LJ_possible_51 ?_
    refine g_getR (pc := 52) hX fl_LJ_12 rfl rfl nf_2_0 d_LJ_possible_52 ?_
    refine f_callV (pc := 55) hX k_Re_areSo ki_Re_areSo kv_Re_areSo ml_LJ_284 (C_Re_areSo (hJ.set hj) (hR0.eq (fun a ha hb i => upM_ne (by omega)))) rfl rfl rfl rfl rfl (Nat.le_of_ble_eq_true rfl) (Nat.le_of_ble_eq_true rfl) (Nat.le_of_ble_eq_true rfl) d_LJ_possible_55 ?_
    refine f_ifeqB (pc := 58) (tgt := 68) hX d_LJ_possible_58 rfl (fun h58 => ?_) (fun h58 => ?_)
    · have e : gjN (fun v => soB (upM J j 1 (i3 v)) rc rj rt) (k + 1) = gjN (fun v => soB (upM J j 1 (i3 v)) rc rj rt) k := by simp [gjN, h58]
      refine v_iconst (pc := 68) (v := 0) hX (by decide) d_LJ_possible_68 ?_
      refine v_ior (pc := 69) hX d_LJ_possible_69 ?_
      refine v_istore (pc := 70) (lo' := [some (vR _), some (vI _), some (vI _), some (vI _), some (vR _), some (vI _), some (vI _), some (vI _)]) hX (Nat.le_of_ble_eq_true rfl) rfl d_LJ_possible_70 ?_
      refine v_iinc (pc := 72) (lo' := [some (vR _), some (vI _), some (vI _), some (vI _), some (vR _), some (vI _), some (vI _), some (vI _)]) hX rfl rfl d_LJ_possible_72 ?_
      refine v_goto (pc := 75) (tgt := 31) hX d_LJ_possible_75 rfl ?_
      exact VW.cast (by first | (rw [e, i3_succ, hb, or_i3b k (by omega) _ hl]; rfl) | (rw [e, i3_succ, or_0]; rfl)) rfl (by rw [pM_s]) ih31
    · have e : gjN (fun v => soB (upM J j 1 (i3 v)) rc rj rt) (k + 1) = gjN (fun v => soB (upM J j 1 (i3 v)) rc rj rt) k + 2 ^ k := by simp [gjN, h58]
      refine v_iconst (pc := 61) (v := 1) hX (by decide) d_LJ_possible_61 ?_
      refine v_iload (pc := 62) hX rfl d_LJ_possible_62 ?_
      refine v_ishl (pc := 64) hX d_LJ_possible_64 ?_
      refine v_goto (pc := 65) (tgt := 69) hX d_LJ_possible_65 rfl ?_
      refine v_ior (pc := 69) hX d_LJ_possible_69 ?_
      refine v_istore (pc := 70) (lo' := [some (vR _), some (vI _), some (vI _), some (vI _), some (vR _), some (vI _), some (vI _), some (vI _)]) hX (Nat.le_of_ble_eq_true rfl) rfl d_LJ_possible_70 ?_
      refine v_iinc (pc := 72) (lo' := [some (vR _), some (vI _), some (vI _), some (vI _), some (vR _), some (vI _), some (vI _), some (vI _)]) hX rfl rfl d_LJ_possible_72 ?_
      refine v_goto (pc := 75) (tgt := 31) hX d_LJ_possible_75 rfl ?_
      exact VW.cast (by first | (rw [e, i3_succ, hb, or_i3b k (by omega) _ hl]; rfl) | (rw [e, i3_succ, or_0]; rfl)) rfl (by rw [pM_s]) ih31
  · show VW X 31 [some (vR 2), some (vI (i3 j)), some (vI 1), some (vI 10), some (vR (6 + j)), some (vI (J j 1)), some (vI (i3 (gjN (fun v => soB (upM J j 1 (i3 v)) rc rj rt) (10)))), some (vI (i3 (10)))] [] (gM (pM M (6 + j) 1 (10)))
    refine v_iload (pc := 31) hX rfl d_LJ_possible_31 ?_
    refine v_iload_n (pc := 33) hX rfl d_LJ_possible_33 ?_
    refine v_icmp_ge (pc := 34) (tgt := 78) hX d_LJ_possible_34 rfl (fun h34 => ?_) (fun h34 => False.elim (by revert h34; decide))
    refine v_aload (pc := 78) hX rfl d_LJ_possible_78 ?_
    refine v_iload_n (pc := 80) hX rfl d_LJ_possible_80 ?_
    refine v_iload (pc := 81) hX rfl d_LJ_possible_81 ?_
    refine f_callV0 (pc := 83) hX k_Ja_become ki_Ja_become kv_Ja_become ml_LJ_280 (C_Ja_become_1 (by assumption)) (by assumption) rfl rfl rfl rfl (Nat.le_of_ble_eq_true rfl) (Nat.le_of_ble_eq_true rfl) (Nat.le_of_ble_eq_true rfl) d_LJ_possible_83 ?_
    rw [pM_up, upM_back2 hMJ]
    refine v_iload (pc := 86) hX rfl d_LJ_possible_86 ?_
    exact f_iret (pc := 88) hX hR (rfl) (rfl) d_LJ_possible_88
theorem d_LJ_sures_0 : decode c_LJ_sures 0 = .ok (.aload_n 0, 1) := by decide +kernel
theorem d_LJ_sures_1 : decode c_LJ_sures 1 = .ok (.iload_n 1, 1) := by decide +kernel
theorem d_LJ_sures_2 : decode c_LJ_sures 2 = .ok (.iconst 1, 1) := by decide +kernel
theorem d_LJ_sures_3 : decode c_LJ_sures 3 = .ok (.bipush 10, 2) := by decide +kernel
theorem d_LJ_sures_5 : decode c_LJ_sures 5 = .ok (.invokevirtual 207, 3) := by decide +kernel
theorem d_LJ_sures_8 : decode c_LJ_sures 8 = .ok (.ireturn, 1) := by decide +kernel
theorem C_LJ_sures_out {M : MM} {n : Nat} {J : JT} {x : Int32} (hJ : CJ M n J) (hx : rg x 0 ((n : Int) - 1) = false) : AF y_LJ_sures c_LJ_sures 2 (some .int) 5 [vR 2, vI x] (M) (some (vI (-1))) (M) := by
  refine AF.of k_LJ_sures (lo := [some (vR 2), some (vI x)]) rfl (Nat.le_of_ble_eq_true rfl) (fun X hX hR => ?_)
  refine v_aload_n (pc := 0) hX rfl d_LJ_sures_0 ?_
  refine v_iload_n (pc := 1) hX rfl d_LJ_sures_1 ?_
  refine v_iconst (pc := 2) (v := 1) hX (by decide) d_LJ_sures_2 ?_
  refine v_bipush (pc := 3) (v := 10) hX (by decide) d_LJ_sures_3 ?_
  refine f_callV (pc := 5) hX k_LJ_possible ki_LJ_possible kv_LJ_possible ml_LJ_207 (C_LJ_possible_1_out hJ hx) rfl rfl rfl rfl rfl (Nat.le_of_ble_eq_true rfl) (Nat.le_of_ble_eq_true rfl) (Nat.le_of_ble_eq_true rfl) d_LJ_sures_5 ?_
  exact f_iret (pc := 8) hX hR (rfl) (rfl) d_LJ_sures_8
theorem C_LJ_sures_in {M : MM} {n j rc : Nat} {J : JT} {rj : Nat → Nat} {rt : JT} (hJ : CJ M n J) (hR0 : CR M n rc rj rt) (hj : j < n) : AF y_LJ_sures c_LJ_sures 2 (some .int) 5 [vR 2, vI (i3 j)] (M) (some (vI (i3 (gjN (fun v => soB (upM J j 1 (i3 v)) rc rj rt) 10)))) (M) := by
  refine AF.of k_LJ_sures (lo := [some (vR 2), some (vI (i3 j))]) rfl (Nat.le_of_ble_eq_true rfl) (fun X hX hR => ?_)
  refine v_aload_n (pc := 0) hX rfl d_LJ_sures_0 ?_
  refine v_iload_n (pc := 1) hX rfl d_LJ_sures_1 ?_
  refine v_iconst (pc := 2) (v := 1) hX (by decide) d_LJ_sures_2 ?_
  refine v_bipush (pc := 3) (v := 10) hX (by decide) d_LJ_sures_3 ?_
  refine f_callV (pc := 5) hX k_LJ_possible ki_LJ_possible kv_LJ_possible ml_LJ_207 (C_LJ_possible_1 hJ hR0 hj) rfl rfl rfl rfl rfl (Nat.le_of_ble_eq_true rfl) (Nat.le_of_ble_eq_true rfl) (Nat.le_of_ble_eq_true rfl) d_LJ_sures_5 ?_
  exact f_iret (pc := 8) hX hR (rfl) (rfl) d_LJ_sures_8
theorem C_LJ_possible_2_out {M : MM} {n : Nat} {J : JT} {x : Int32} (hJ : CJ M n J) (hx : rg x 0 ((n : Int) - 1) = false) : AF y_LJ_possible c_LJ_possible 8 (some .int) 4 [vR 2, vI x, vI 2, vI 10] (M) (some (vI (-1))) (M) := by
  refine AF.of k_LJ_possible (lo := [some (vR 2), some (vI x), some (vI 2), some (vI 10), none, none, none, none]) rfl (Nat.le_of_ble_eq_true rfl) (fun X hX hR => ?_)
  refine v_aload_n (pc := 0) hX rfl d_LJ_possible_0 ?_
  refine g_getR (pc := 1) hX fl_LJ_12 rfl rfl nf_2_0 d_LJ_possible_1 ?_
  refine v_iload_n (pc := 4) hX rfl d_LJ_possible_4 ?_
  refine f_callV (pc := 5) hX k_Sp_jarAt ki_Sp_jarAt kv_Sp_jarAt ml_LJ_92 (C_Sp_jarAt_out hJ.1 hJ.2.1 hx) rfl rfl rfl rfl rfl (Nat.le_of_ble_eq_true rfl) (Nat.le_of_ble_eq_true rfl) (Nat.le_of_ble_eq_true rfl) d_LJ_possible_5 ?_
  refine v_astore (pc := 8) (lo' := [some (vR _), some (vI _), some (vI _), some (vI _), some (vR _), none, none, none]) hX (Nat.le_of_ble_eq_true rfl) rfl d_LJ_possible_8 ?_
  refine v_aload (pc := 10) hX rfl d_LJ_possible_10 ?_
  refine v_ifnonnull (pc := 12) (tgt := 17) hX d_LJ_possible_12 rfl (fun h12 => False.elim (by revert h12; decide)) (fun h12 => ?_)
  refine v_iconst (pc := 15) (v := (-1)) hX (by decide) d_LJ_possible_15 ?_
  exact f_iret (pc := 16) hX hR (rfl) (rfl) d_LJ_possible_16
theorem C_LJ_possible_2 {M : MM} {n j rc : Nat} {J : JT} {rj : Nat → Nat} {rt : JT} (hJ : CJ M n J) (hR0 : CR M n rc rj rt) (hj : j < n) : AF y_LJ_possible c_LJ_possible 8 (some .int) 4 [vR 2, vI (i3 j), vI 2, vI 10] (M) (some (vI (i3 (gjN (fun v => soB (upM J j 2 (i3 v)) rc rj rt) 10)))) (M) := by
  have h6 := hJ.1
  have hsj := sh_jar j (by omega)
  have hMJ : M (6 + j) 2 = J j 2 := hJ.2.2 j hj 2 (by decide)
  refine AF.of k_LJ_possible (lo := [some (vR 2), some (vI (i3 j)), some (vI 2), some (vI 10), none, none, none, none]) rfl (Nat.le_of_ble_eq_true rfl) (fun X hX hR => ?_)
  refine v_aload_n (pc := 0) hX rfl d_LJ_possible_0 ?_
  refine g_getR (pc := 1) hX fl_LJ_12 rfl rfl nf_2_0 d_LJ_possible_1 ?_
  refine v_iload_n (pc := 4) hX rfl d_LJ_possible_4 ?_
  refine f_callV (pc := 5) hX k_Sp_jarAt ki_Sp_jarAt kv_Sp_jarAt ml_LJ_92 (C_Sp_jarAt_in hJ.1 hJ.2.1 hj) rfl rfl rfl rfl rfl (Nat.le_of_ble_eq_true rfl) (Nat.le_of_ble_eq_true rfl) (Nat.le_of_ble_eq_true rfl) d_LJ_possible_5 ?_
  refine v_astore (pc := 8) (lo' := [some (vR _), some (vI _), some (vI _), some (vI _), some (vR _), none, none, none]) hX (Nat.le_of_ble_eq_true rfl) rfl d_LJ_possible_8 ?_
  refine v_aload (pc := 10) hX rfl d_LJ_possible_10 ?_
  refine v_ifnonnull (pc := 12) (tgt := 17) hX d_LJ_possible_12 rfl (fun h12 => ?_) (fun h12 => False.elim (by have := sh_two (by assumption); omega))
  refine v_aload (pc := 17) hX rfl d_LJ_possible_17 ?_
  refine v_iload_n (pc := 19) hX rfl d_LJ_possible_19 ?_
  refine f_callV (pc := 20) hX k_Ja_part ki_Ja_part kv_Ja_part ml_LJ_96 (C_Ja_part (by assumption)) (by assumption) rfl rfl rfl rfl (Nat.le_of_ble_eq_true rfl) (Nat.le_of_ble_eq_true rfl) (Nat.le_of_ble_eq_true rfl) d_LJ_possible_20 ?_
  rw [jp2, hMJ]
  refine v_istore (pc := 23) (lo' := [some (vR _), some (vI _), some (vI _), some (vI _), some (vR _), some (vI _), none, none]) hX (Nat.le_of_ble_eq_true rfl) rfl d_LJ_possible_23 ?_
  refine v_iconst (pc := 25) (v := 0) hX (by decide) d_LJ_possible_25 ?_
  refine v_istore (pc := 26) (lo' := [some (vR _), some (vI _), some (vI _), some (vI _), some (vR _), some (vI _), some (vI _), none]) hX (Nat.le_of_ble_eq_true rfl) rfl d_LJ_possible_26 ?_
  refine v_iconst (pc := 28) (v := 0) hX (by decide) d_LJ_possible_28 ?_
  refine v_istore (pc := 29) (lo' := [some (vR _), some (vI _), some (vI _), some (vI _), some (vR _), some (vI _), some (vI _), some (vI _)]) hX (Nat.le_of_ble_eq_true rfl) rfl d_LJ_possible_29 ?_
  refine VW.cast (lo' := [some (vR 2), some (vI (i3 j)), some (vI 2), some (vI 10), some (vR (6 + j)), some (vI (J j 2)), some (vI (i3 (gjN (fun v => soB (upM J j 2 (i3 v)) rc rj rt) 0))), some (vI (i3 0))]) (st' := []) (G' := gM (pM M (6 + j) 2 0)) rfl rfl rfl ?_
  refine v_for (X := X) (head := 31) (10) (fun kk => [some (vR 2), some (vI (i3 j)), some (vI 2), some (vI 10), some (vR (6 + j)), some (vI (J j 2)), some (vI (i3 (gjN (fun v => soB (upM J j 2 (i3 v)) rc rj rt) kk))), some (vI (i3 kk))]) (fun kk => pM M (6 + j) 2 kk) (fun k hk ih31 => ?_) ?_
  · show VW X 31 [some (vR 2), some (vI (i3 j)), some (vI 2), some (vI 10), some (vR (6 + j)), some (vI (J j 2)), some (vI (i3 (gjN (fun v => soB (upM J j 2 (i3 v)) rc rj rt) k))), some (vI (i3 k))] [] (gM (pM M (6 + j) 2 k))
    have hb := shl_i3b k (by omega)
    have hl := gjN_lt (fun v => soB (upM J j 2 (i3 v)) rc rj rt) k
    refine v_iload (pc := 31) hX rfl d_LJ_possible_31 ?_
    refine v_iload_n (pc := 33) hX rfl d_LJ_possible_33 ?_
    refine v_icmp_ge (pc := 34) (tgt := 78) hX d_LJ_possible_34 rfl (fun h34 => False.elim (i3_ge_abs hk (by decide) h34)) (fun h34 => ?_)
    refine v_aload (pc := 37) hX rfl d_LJ_possible_37 ?_
    refine v_iload_n (pc := 39) hX rfl d_LJ_possible_39 ?_
    refine v_iload (pc := 40) hX rfl d_LJ_possible_40 ?_
    refine f_callV0 (pc := 42) hX k_Ja_become ki_Ja_become kv_Ja_become ml_LJ_280 (C_Ja_become_2 (by assumption)) (by assumption) rfl rfl rfl rfl (Nat.le_of_ble_eq_true rfl) (Nat.le_of_ble_eq_true rfl) (Nat.le_of_ble_eq_true rfl) d_LJ_possible_42 ?_
    rw [pM_up]
    refine v_iload (pc := 45) hX rfl d_LJ_possible_45 ?_
    refine v_aload_n (pc := 47) hX rfl d_LJ_possible_47 ?_
    refine g_getR (pc := 48) hX fl_LJ_35 rfl rfl nf_2_3 d_LJ_possible_48 ?_
    refine v_aload_n (pc := 51) hX rfl d_LJ_possible_51 ?_
    refine g_getR (pc := 52) hX fl_LJ_12 rfl rfl nf_2_0 d_LJ_possible_52 ?_
    refine f_callV (pc := 55) hX k_Re_areSo ki_Re_areSo kv_Re_areSo ml_LJ_284 (C_Re_areSo (hJ.set hj) (hR0.eq (fun a ha hb i => upM_ne (by omega)))) rfl rfl rfl rfl rfl (Nat.le_of_ble_eq_true rfl) (Nat.le_of_ble_eq_true rfl) (Nat.le_of_ble_eq_true rfl) d_LJ_possible_55 ?_
    refine f_ifeqB (pc := 58) (tgt := 68) hX d_LJ_possible_58 rfl (fun h58 => ?_) (fun h58 => ?_)
    · have e : gjN (fun v => soB (upM J j 2 (i3 v)) rc rj rt) (k + 1) = gjN (fun v => soB (upM J j 2 (i3 v)) rc rj rt) k := by simp [gjN, h58]
      refine v_iconst (pc := 68) (v := 0) hX (by decide) d_LJ_possible_68 ?_
      refine v_ior (pc := 69) hX d_LJ_possible_69 ?_
      refine v_istore (pc := 70) (lo' := [some (vR _), some (vI _), some (vI _), some (vI _), some (vR _), some (vI _), some (vI _), some (vI _)]) hX (Nat.le_of_ble_eq_true rfl) rfl d_LJ_possible_70 ?_
      refine v_iinc (pc := 72) (lo' := [some (vR _), some (vI _), some (vI _), some (vI _), some (vR _), some (vI _), some (vI _), some (vI _)]) hX rfl rfl d_LJ_possible_72 ?_
      refine v_goto (pc := 75) (tgt := 31) hX d_LJ_possible_75 rfl ?_
      exact VW.cast (by first | (rw [e, i3_succ, hb, or_i3b k (by omega) _ hl]; rfl) | (rw [e, i3_succ, or_0]; rfl)) rfl (by rw [pM_s]) ih31
    · have e : gjN (fun v => soB (upM J j 2 (i3 v)) rc rj rt) (k + 1) = gjN (fun v => soB (upM J j 2 (i3 v)) rc rj rt) k + 2 ^ k := by simp [gjN, h58]
      refine v_iconst (pc := 61) (v := 1) hX (by decide) d_LJ_possible_61 ?_
      refine v_iload (pc := 62) hX rfl d_LJ_possible_62 ?_
      refine v_ishl (pc := 64) hX d_LJ_possible_64 ?_
      refine v_goto (pc := 65) (tgt := 69) hX d_LJ_possible_65 rfl ?_
      refine v_ior (pc := 69) hX d_LJ_possible_69 ?_
      refine v_istore (pc := 70) (lo' := [some (vR _), some (vI _), some (vI _), some (vI _), some (vR _), some (vI _), some (vI _), some (vI _)]) hX (Nat.le_of_ble_eq_true rfl) rfl d_LJ_possible_70 ?_
      refine v_iinc (pc := 72) (lo' := [some (vR _), some (vI _), some (vI _), some (vI _), some (vR _), some (vI _), some (vI _), some (vI _)]) hX rfl rfl d_LJ_possible_72 ?_
      refine v_goto (pc := 75) (tgt := 31) hX d_LJ_possible_75 rfl ?_
      exact VW.cast (by first | (rw [e, i3_succ, hb, or_i3b k (by omega) _ hl]; rfl) | (rw [e, i3_succ, or_0]; rfl)) rfl (by rw [pM_s]) ih31
  · show VW X 31 [some (vR 2), some (vI (i3 j)), some (vI 2), some (vI 10), some (vR (6 + j)), some (vI (J j 2)), some (vI (i3 (gjN (fun v => soB (upM J j 2 (i3 v)) rc rj rt) (10)))), some (vI (i3 (10)))] [] (gM (pM M (6 + j) 2 (10)))
    refine v_iload (pc := 31) hX rfl d_LJ_possible_31 ?_
    refine v_iload_n (pc := 33) hX rfl d_LJ_possible_33 ?_
    refine v_icmp_ge (pc := 34) (tgt := 78) hX d_LJ_possible_34 rfl (fun h34 => ?_) (fun h34 => False.elim (by revert h34; decide))
    refine v_aload (pc := 78) hX rfl d_LJ_possible_78 ?_
    refine v_iload_n (pc := 80) hX rfl d_LJ_possible_80 ?_
    refine v_iload (pc := 81) hX rfl d_LJ_possible_81 ?_
    refine f_callV0 (pc := 83) hX k_Ja_become ki_Ja_become kv_Ja_become ml_LJ_280 (C_Ja_become_2 (by assumption)) (by assumption) rfl rfl rfl rfl (Nat.le_of_ble_eq_true rfl) (Nat.le_of_ble_eq_true rfl) (Nat.le_of_ble_eq_true rfl) d_LJ_possible_83 ?_
    rw [pM_up, upM_back2 hMJ]
    refine v_iload (pc := 86) hX rfl d_LJ_possible_86 ?_
    exact f_iret (pc := 88) hX hR (rfl) (rfl) d_LJ_possible_88
theorem d_LJ_fades_0 : decode c_LJ_fades 0 = .ok (.aload_n 0, 1) := by decide +kernel
theorem d_LJ_fades_1 : decode c_LJ_fades 1 = .ok (.iload_n 1, 1) := by decide +kernel
theorem d_LJ_fades_2 : decode c_LJ_fades 2 = .ok (.iconst 2, 1) := by decide +kernel
theorem d_LJ_fades_3 : decode c_LJ_fades 3 = .ok (.bipush 10, 2) := by decide +kernel
theorem d_LJ_fades_5 : decode c_LJ_fades 5 = .ok (.invokevirtual 207, 3) := by decide +kernel
theorem d_LJ_fades_8 : decode c_LJ_fades 8 = .ok (.ireturn, 1) := by decide +kernel
theorem C_LJ_fades_out {M : MM} {n : Nat} {J : JT} {x : Int32} (hJ : CJ M n J) (hx : rg x 0 ((n : Int) - 1) = false) : AF y_LJ_fades c_LJ_fades 2 (some .int) 5 [vR 2, vI x] (M) (some (vI (-1))) (M) := by
  refine AF.of k_LJ_fades (lo := [some (vR 2), some (vI x)]) rfl (Nat.le_of_ble_eq_true rfl) (fun X hX hR => ?_)
  refine v_aload_n (pc := 0) hX rfl d_LJ_fades_0 ?_
  refine v_iload_n (pc := 1) hX rfl d_LJ_fades_1 ?_
  refine v_iconst (pc := 2) (v := 2) hX (by decide) d_LJ_fades_2 ?_
  refine v_bipush (pc := 3) (v := 10) hX (by decide) d_LJ_fades_3 ?_
  refine f_callV (pc := 5) hX k_LJ_possible ki_LJ_possible kv_LJ_possible ml_LJ_207 (C_LJ_possible_2_out hJ hx) rfl rfl rfl rfl rfl (Nat.le_of_ble_eq_true rfl) (Nat.le_of_ble_eq_true rfl) (Nat.le_of_ble_eq_true rfl) d_LJ_fades_5 ?_
  exact f_iret (pc := 8) hX hR (rfl) (rfl) d_LJ_fades_8
theorem C_LJ_fades_in {M : MM} {n j rc : Nat} {J : JT} {rj : Nat → Nat} {rt : JT} (hJ : CJ M n J) (hR0 : CR M n rc rj rt) (hj : j < n) : AF y_LJ_fades c_LJ_fades 2 (some .int) 5 [vR 2, vI (i3 j)] (M) (some (vI (i3 (gjN (fun v => soB (upM J j 2 (i3 v)) rc rj rt) 10)))) (M) := by
  refine AF.of k_LJ_fades (lo := [some (vR 2), some (vI (i3 j))]) rfl (Nat.le_of_ble_eq_true rfl) (fun X hX hR => ?_)
  refine v_aload_n (pc := 0) hX rfl d_LJ_fades_0 ?_
  refine v_iload_n (pc := 1) hX rfl d_LJ_fades_1 ?_
  refine v_iconst (pc := 2) (v := 2) hX (by decide) d_LJ_fades_2 ?_
  refine v_bipush (pc := 3) (v := 10) hX (by decide) d_LJ_fades_3 ?_
  refine f_callV (pc := 5) hX k_LJ_possible ki_LJ_possible kv_LJ_possible ml_LJ_207 (C_LJ_possible_2 hJ hR0 hj) rfl rfl rfl rfl rfl (Nat.le_of_ble_eq_true rfl) (Nat.le_of_ble_eq_true rfl) (Nat.le_of_ble_eq_true rfl) d_LJ_fades_5 ?_
  exact f_iret (pc := 8) hX hR (rfl) (rfl) d_LJ_fades_8
theorem C_LJ_possible_0_out {M : MM} {n : Nat} {J : JT} {x : Int32} (hJ : CJ M n J) (hx : rg x 0 ((n : Int) - 1) = false) : AF y_LJ_possible c_LJ_possible 8 (some .int) 4 [vR 2, vI x, vI 0, vI 3] (M) (some (vI (-1))) (M) := by
  refine AF.of k_LJ_possible (lo := [some (vR 2), some (vI x), some (vI 0), some (vI 3), none, none, none, none]) rfl (Nat.le_of_ble_eq_true rfl) (fun X hX hR => ?_)
  refine v_aload_n (pc := 0) hX rfl d_LJ_possible_0 ?_
  refine g_getR (pc := 1) hX fl_LJ_12 rfl rfl nf_2_0 d_LJ_possible_1 ?_
  refine v_iload_n (pc := 4) hX rfl d_LJ_possible_4 ?_
  refine f_callV (pc := 5) hX k_Sp_jarAt ki_Sp_jarAt kv_Sp_jarAt ml_LJ_92 (C_Sp_jarAt_out hJ.1 hJ.2.1 hx) rfl rfl rfl rfl rfl (Nat.le_of_ble_eq_true rfl) (Nat.le_of_ble_eq_true rfl) (Nat.le_of_ble_eq_true rfl) d_LJ_possible_5 ?_
  refine v_astore (pc := 8) (lo' := [some (vR _), some (vI _), some (vI _), some (vI _), some (vR _), none, none, none]) hX (Nat.le_of_ble_eq_true rfl) rfl d_LJ_possible_8 ?_
  refine v_aload (pc := 10) hX rfl d_LJ_possible_10 ?_
  refine v_ifnonnull (pc := 12) (tgt := 17) hX d_LJ_possible_12 rfl (fun h12 => False.elim (by revert h12; decide)) (fun h12 => ?_)
  refine v_iconst (pc := 15) (v := (-1)) hX (by decide) d_LJ_possible_15 ?_
  exact f_iret (pc := 16) hX hR (rfl) (rfl) d_LJ_possible_16
theorem C_LJ_possible_0 {M : MM} {n j rc : Nat} {J : JT} {rj : Nat → Nat} {rt : JT} (hJ : CJ M n J) (hR0 : CR M n rc rj rt) (hj : j < n) : AF y_LJ_possible c_LJ_possible 8 (some .int) 4 [vR 2, vI (i3 j), vI 0, vI 3] (M) (some (vI (i3 (gjN (fun v => soB (upM J j 0 (i3 v)) rc rj rt) 3)))) (M) := by
  have h6 := hJ.1
  have hsj := sh_jar j (by omega)
  have hMJ : M (6 + j) 0 = J j 0 := hJ.2.2 j hj 0 (by decide)
  refine AF.of k_LJ_possible (lo := [some (vR 2), some (vI (i3 j)), some (vI 0), some (vI 3), none, none, none, none]) rfl (Nat.le_of_ble_eq_true rfl) (fun X hX hR => ?_)
  refine v_aload_n (pc := 0) hX rfl d_LJ_possible_0 ?_
  refine g_getR (pc := 1) hX fl_LJ_12 rfl rfl nf_2_0 d_LJ_possible_1 ?_
  refine v_iload_n (pc := 4) hX rfl d_LJ_possible_4 ?_
  refine f_callV (pc := 5) hX k_Sp_jarAt ki_Sp_jarAt kv_Sp_jarAt ml_LJ_92 (C_Sp_jarAt_in hJ.1 hJ.2.1 hj) rfl rfl rfl rfl rfl (Nat.le_of_ble_eq_true rfl) (Nat.le_of_ble_eq_true rfl) (Nat.le_of_ble_eq_true rfl) d_LJ_possible_5 ?_
  refine v_astore (pc := 8) (lo' := [some (vR _), some (vI _), some (vI _), some (vI _), some (vR _), none, none, none]) hX (Nat.le_of_ble_eq_true rfl) rfl d_LJ_possible_8 ?_
  refine v_aload (pc := 10) hX rfl d_LJ_possible_10 ?_
  refine v_ifnonnull (pc := 12) (tgt := 17) hX d_LJ_possible_12 rfl (fun h12 => ?_) (fun h12 => False.elim (by have := sh_two (by assumption); omega))
  refine v_aload (pc := 17) hX rfl d_LJ_possible_17 ?_
  refine v_iload_n (pc := 19) hX rfl d_LJ_possible_19 ?_
  refine f_callV (pc := 20) hX k_Ja_part ki_Ja_part kv_Ja_part ml_LJ_96 (C_Ja_part (by assumption)) (by assumption) rfl rfl rfl rfl (Nat.le_of_ble_eq_true rfl) (Nat.le_of_ble_eq_true rfl) (Nat.le_of_ble_eq_true rfl) d_LJ_possible_20 ?_
  rw [jp0, hMJ]
  refine v_istore (pc := 23) (lo' := [some (vR _), some (vI _), some (vI _), some (vI _), some (vR _), some (vI _), none, none]) hX (Nat.le_of_ble_eq_true rfl) rfl d_LJ_possible_23 ?_
  refine v_iconst (pc := 25) (v := 0) hX (by decide) d_LJ_possible_25 ?_
  refine v_istore (pc := 26) (lo' := [some (vR _), some (vI _), some (vI _), some (vI _), some (vR _), some (vI _), some (vI _), none]) hX (Nat.le_of_ble_eq_true rfl) rfl d_LJ_possible_26 ?_
  refine v_iconst (pc := 28) (v := 0) hX (by decide) d_LJ_possible_28 ?_
  refine v_istore (pc := 29) (lo' := [some (vR _), some (vI _), some (vI _), some (vI _), some (vR _), some (vI _), some (vI _), some (vI _)]) hX (Nat.le_of_ble_eq_true rfl) rfl d_LJ_possible_29 ?_
  refine VW.cast (lo' := [some (vR 2), some (vI (i3 j)), some (vI 0), some (vI 3), some (vR (6 + j)), some (vI (J j 0)), some (vI (i3 (gjN (fun v => soB (upM J j 0 (i3 v)) rc rj rt) 0))), some (vI (i3 0))]) (st' := []) (G' := gM (pM M (6 + j) 0 0)) rfl rfl rfl ?_
  refine v_for (X := X) (head := 31) (3) (fun kk => [some (vR 2), some (vI (i3 j)), some (vI 0), some (vI 3), some (vR (6 + j)), some (vI (J j 0)), some (vI (i3 (gjN (fun v => soB (upM J j 0 (i3 v)) rc rj rt) kk))), some (vI (i3 kk))]) (fun kk => pM M (6 + j) 0 kk) (fun k hk ih31 => ?_) ?_
  · show VW X 31 [some (vR 2), some (vI (i3 j)), some (vI 0), some (vI 3), some (vR (6 + j)), some (vI (J j 0)), some (vI (i3 (gjN (fun v => soB (upM J j 0 (i3 v)) rc rj rt) k))), some (vI (i3 k))] [] (gM (pM M (6 + j) 0 k))
    have hb := shl_i3b k (by omega)
    have hl := gjN_lt (fun v => soB (upM J j 0 (i3 v)) rc rj rt) k
    refine v_iload (pc := 31) hX rfl d_LJ_possible_31 ?_
    refine v_iload_n (pc := 33) hX rfl d_LJ_possible_33 ?_
    refine v_icmp_ge (pc := 34) (tgt := 78) hX d_LJ_possible_34 rfl (fun h34 => False.elim (i3_ge_abs hk (by decide) h34)) (fun h34 => ?_)
    refine v_aload (pc := 37) hX rfl d_LJ_possible_37 ?_
    refine v_iload_n (pc := 39) hX rfl d_LJ_possible_39 ?_
    refine v_iload (pc := 40) hX rfl d_LJ_possible_40 ?_
    refine f_callV0 (pc := 42) hX k_Ja_become ki_Ja_become kv_Ja_become ml_LJ_280 (C_Ja_become_0 (by assumption)) (by assumption) rfl rfl rfl rfl (Nat.le_of_ble_eq_true rfl) (Nat.le_of_ble_eq_true rfl) (Nat.le_of_ble_eq_true rfl) d_LJ_possible_42 ?_
    rw [pM_up]
    refine v_iload (pc := 45) hX rfl d_LJ_possible_45 ?_
    refine v_aload_n (pc := 47) hX rfl d_LJ_possible_47 ?_
    refine g_getR (pc := 48) hX fl_LJ_35 rfl rfl nf_2_3 d_LJ_possible_48 ?_
    refine v_aload_n (pc := 51) hX rfl d_LJ_possible_51 ?_
    refine g_getR (pc := 52) hX fl_LJ_12 rfl rfl nf_2_0 d_LJ_possible_52 ?_
    refine f_callV (pc := 55) hX k_Re_areSo ki_Re_areSo kv_Re_areSo ml_LJ_284 (C_Re_areSo (hJ.set hj) (hR0.eq (fun a ha hb i => upM_ne (by omega)))) rfl rfl rfl rfl rfl (Nat.le_of_ble_eq_true rfl) (Nat.le_of_ble_eq_true rfl) (Nat.le_of_ble_eq_true rfl) d_LJ_possible_55 ?_
    refine f_ifeqB (pc := 58) (tgt := 68) hX d_LJ_possible_58 rfl (fun h58 => ?_) (fun h58 => ?_)
    · have e : gjN (fun v => soB (upM J j 0 (i3 v)) rc rj rt) (k + 1) = gjN (fun v => soB (upM J j 0 (i3 v)) rc rj rt) k := by simp [gjN, h58]
      refine v_iconst (pc := 68) (v := 0) hX (by decide) d_LJ_possible_68 ?_
      refine v_ior (pc := 69) hX d_LJ_possible_69 ?_
      refine v_istore (pc := 70) (lo' := [some (vR _), some (vI _), some (vI _), some (vI _), some (vR _), some (vI _), some (vI _), some (vI _)]) hX (Nat.le_of_ble_eq_true rfl) rfl d_LJ_possible_70 ?_
      refine v_iinc (pc := 72) (lo' := [some (vR _), some (vI _), some (vI _), some (vI _), some (vR _), some (vI _), some (vI _), some (vI _)]) hX rfl rfl d_LJ_possible_72 ?_
      refine v_goto (pc := 75) (tgt := 31) hX d_LJ_possible_75 rfl ?_
      exact VW.cast (by first | (rw [e, i3_succ, hb, or_i3b k (by omega) _ hl]; rfl) | (rw [e, i3_succ, or_0]; rfl)) rfl (by rw [pM_s]) ih31
    · have e : gjN (fun v => soB (upM J j 0 (i3 v)) rc rj rt) (k + 1) = gjN (fun v => soB (upM J j 0 (i3 v)) rc rj rt) k + 2 ^ k := by simp [gjN, h58]
      refine v_iconst (pc := 61) (v := 1) hX (by decide) d_LJ_possible_61 ?_
      refine v_iload (pc := 62) hX rfl d_LJ_possible_62 ?_
      refine v_ishl (pc := 64) hX d_LJ_possible_64 ?_
      refine v_goto (pc := 65) (tgt := 69) hX d_LJ_possible_65 rfl ?_
      refine v_ior (pc := 69) hX d_LJ_possible_69 ?_
      refine v_istore (pc := 70) (lo' := [some (vR _), some (vI _), some (vI _), some (vI _), some (vR _), some (vI _), some (vI _), some (vI _)]) hX (Nat.le_of_ble_eq_true rfl) rfl d_LJ_possible_70 ?_
      refine v_iinc (pc := 72) (lo' := [some (vR _), some (vI _), some (vI _), some (vI _), some (vR _), some (vI _), some (vI _), some (vI _)]) hX rfl rfl d_LJ_possible_72 ?_
      refine v_goto (pc := 75) (tgt := 31) hX d_LJ_possible_75 rfl ?_
      exact VW.cast (by first | (rw [e, i3_succ, hb, or_i3b k (by omega) _ hl]; rfl) | (rw [e, i3_succ, or_0]; rfl)) rfl (by rw [pM_s]) ih31
  · show VW X 31 [some (vR 2), some (vI (i3 j)), some (vI 0), some (vI 3), some (vR (6 + j)), some (vI (J j 0)), some (vI (i3 (gjN (fun v => soB (upM J j 0 (i3 v)) rc rj rt) (3)))), some (vI (i3 (3)))] [] (gM (pM M (6 + j) 0 (3)))
    refine v_iload (pc := 31) hX rfl d_LJ_possible_31 ?_
    refine v_iload_n (pc := 33) hX rfl d_LJ_possible_33 ?_
    refine v_icmp_ge (pc := 34) (tgt := 78) hX d_LJ_possible_34 rfl (fun h34 => ?_) (fun h34 => False.elim (by revert h34; decide))
    refine v_aload (pc := 78) hX rfl d_LJ_possible_78 ?_
    refine v_iload_n (pc := 80) hX rfl d_LJ_possible_80 ?_
    refine v_iload (pc := 81) hX rfl d_LJ_possible_81 ?_
    refine f_callV0 (pc := 83) hX k_Ja_become ki_Ja_become kv_Ja_become ml_LJ_280 (C_Ja_become_0 (by assumption)) (by assumption) rfl rfl rfl rfl (Nat.le_of_ble_eq_true rfl) (Nat.le_of_ble_eq_true rfl) (Nat.le_of_ble_eq_true rfl) d_LJ_possible_83 ?_
    rw [pM_up, upM_back2 hMJ]
    refine v_iload (pc := 86) hX rfl d_LJ_possible_86 ?_
    exact f_iret (pc := 88) hX hR (rfl) (rfl) d_LJ_possible_88
theorem d_LJ_kinds_0 : decode c_LJ_kinds 0 = .ok (.aload_n 0, 1) := by decide +kernel
theorem d_LJ_kinds_1 : decode c_LJ_kinds 1 = .ok (.iload_n 1, 1) := by decide +kernel
theorem d_LJ_kinds_2 : decode c_LJ_kinds 2 = .ok (.iconst 0, 1) := by decide +kernel
theorem d_LJ_kinds_3 : decode c_LJ_kinds 3 = .ok (.iconst 3, 1) := by decide +kernel
theorem d_LJ_kinds_4 : decode c_LJ_kinds 4 = .ok (.invokevirtual 207, 3) := by decide +kernel
theorem d_LJ_kinds_7 : decode c_LJ_kinds 7 = .ok (.ireturn, 1) := by decide +kernel
theorem C_LJ_kinds_out {M : MM} {n : Nat} {J : JT} {x : Int32} (hJ : CJ M n J) (hx : rg x 0 ((n : Int) - 1) = false) : AF y_LJ_kinds c_LJ_kinds 2 (some .int) 5 [vR 2, vI x] (M) (some (vI (-1))) (M) := by
  refine AF.of k_LJ_kinds (lo := [some (vR 2), some (vI x)]) rfl (Nat.le_of_ble_eq_true rfl) (fun X hX hR => ?_)
  refine v_aload_n (pc := 0) hX rfl d_LJ_kinds_0 ?_
  refine v_iload_n (pc := 1) hX rfl d_LJ_kinds_1 ?_
  refine v_iconst (pc := 2) (v := 0) hX (by decide) d_LJ_kinds_2 ?_
  refine v_iconst (pc := 3) (v := 3) hX (by decide) d_LJ_kinds_3 ?_
  refine f_callV (pc := 4) hX k_LJ_possible ki_LJ_possible kv_LJ_possible ml_LJ_207 (C_LJ_possible_0_out hJ hx) rfl rfl rfl rfl rfl (Nat.le_of_ble_eq_true rfl) (Nat.le_of_ble_eq_true rfl) (Nat.le_of_ble_eq_true rfl) d_LJ_kinds_4 ?_
  exact f_iret (pc := 7) hX hR (rfl) (rfl) d_LJ_kinds_7
theorem C_LJ_kinds_in {M : MM} {n j rc : Nat} {J : JT} {rj : Nat → Nat} {rt : JT} (hJ : CJ M n J) (hR0 : CR M n rc rj rt) (hj : j < n) : AF y_LJ_kinds c_LJ_kinds 2 (some .int) 5 [vR 2, vI (i3 j)] (M) (some (vI (i3 (gjN (fun v => soB (upM J j 0 (i3 v)) rc rj rt) 3)))) (M) := by
  refine AF.of k_LJ_kinds (lo := [some (vR 2), some (vI (i3 j))]) rfl (Nat.le_of_ble_eq_true rfl) (fun X hX hR => ?_)
  refine v_aload_n (pc := 0) hX rfl d_LJ_kinds_0 ?_
  refine v_iload_n (pc := 1) hX rfl d_LJ_kinds_1 ?_
  refine v_iconst (pc := 2) (v := 0) hX (by decide) d_LJ_kinds_2 ?_
  refine v_iconst (pc := 3) (v := 3) hX (by decide) d_LJ_kinds_3 ?_
  refine f_callV (pc := 4) hX k_LJ_possible ki_LJ_possible kv_LJ_possible ml_LJ_207 (C_LJ_possible_0 hJ hR0 hj) rfl rfl rfl rfl rfl (Nat.le_of_ble_eq_true rfl) (Nat.le_of_ble_eq_true rfl) (Nat.le_of_ble_eq_true rfl) d_LJ_kinds_4 ?_
  exact f_iret (pc := 7) hX hR (rfl) (rfl) d_LJ_kinds_7
def odN (J B : JT) (n b w : Nat) : Nat :=
  if 2 ^ pop 6 (stN J n) - 1 = 0 then w
  else if w = 0 then cntB (fun s => sb s (stN J n) && dcB J (B b 0) (B b 1) n s) (2 ^ n - 1) / Nat.gcd (cntB (fun s => sb s (stN J n) && dcB J (B b 0) (B b 1) n s) (2 ^ n - 1)) (2 ^ pop 6 (stN J n) - 1)
  else (2 ^ pop 6 (stN J n) - 1) / Nat.gcd (cntB (fun s => sb s (stN J n) && dcB J (B b 0) (B b 1) n s) (2 ^ n - 1)) (2 ^ pop 6 (stN J n) - 1)
theorem div_i3 : ∀ u, u < 64 → ∀ d, d < 64 → d ≠ 0 → i3 u / i3 d = i3 (u / d) := by decide +kernel
theorem d_LJ_odds_0 : decode c_LJ_odds 0 = .ok (.aload_n 0, 1) := by decide +kernel
theorem d_LJ_odds_1 : decode c_LJ_odds 1 = .ok (.getfield 12, 3) := by decide +kernel
theorem d_LJ_odds_4 : decode c_LJ_odds 4 = .ok (.iload_n 1, 1) := by decide +kernel
theorem d_LJ_odds_5 : decode c_LJ_odds 5 = .ok (.invokevirtual 101, 3) := by decide +kernel
theorem d_LJ_odds_8 : decode c_LJ_odds 8 = .ok (.astore_n 3, 1) := by decide +kernel
theorem d_LJ_odds_9 : decode c_LJ_odds 9 = .ok (.aload_n 3, 1) := by decide +kernel
theorem d_LJ_odds_10 : decode c_LJ_odds 10 = .ok (.ifnull 11, 3) := by decide +kernel
theorem d_LJ_odds_13 : decode c_LJ_odds 13 = .ok (.iload_n 2, 1) := by decide +kernel
theorem d_LJ_odds_14 : decode c_LJ_odds 14 = .ok (.iconst 2, 1) := by decide +kernel
theorem d_LJ_odds_15 : decode c_LJ_odds 15 = .ok (.invokestatic 65, 3) := by decide +kernel
theorem d_LJ_odds_18 : decode c_LJ_odds 18 = .ok (.ifCond .ne 7, 3) := by decide +kernel
theorem d_LJ_odds_21 : decode c_LJ_odds 21 = .ok (.ldc2_w 210, 3) := by decide +kernel
theorem d_LJ_odds_24 : decode c_LJ_odds 24 = .ok (.lreturn, 1) := by decide +kernel
theorem d_LJ_odds_25 : decode c_LJ_odds 25 = .ok (.aload_n 0, 1) := by decide +kernel
theorem d_LJ_odds_26 : decode c_LJ_odds 26 = .ok (.getfield 12, 3) := by decide +kernel
theorem d_LJ_odds_29 : decode c_LJ_odds 29 = .ok (.invokestatic 212, 3) := by decide +kernel
theorem d_LJ_odds_32 : decode c_LJ_odds 32 = .ok (.istore 4, 2) := by decide +kernel
theorem d_LJ_odds_34 : decode c_LJ_odds 34 = .ok (.iload 4, 2) := by decide +kernel
theorem d_LJ_odds_36 : decode c_LJ_odds 36 = .ok (.ifCond .ne 6, 3) := by decide +kernel
theorem d_LJ_odds_39 : decode c_LJ_odds 39 = .ok (.iload_n 2, 1) := by decide +kernel
theorem d_LJ_odds_40 : decode c_LJ_odds 40 = .ok (.i2l, 1) := by decide +kernel
theorem d_LJ_odds_41 : decode c_LJ_odds 41 = .ok (.lreturn, 1) := by decide +kernel
theorem d_LJ_odds_42 : decode c_LJ_odds 42 = .ok (.aload_n 0, 1) := by decide +kernel
theorem d_LJ_odds_43 : decode c_LJ_odds 43 = .ok (.getfield 12, 3) := by decide +kernel
theorem d_LJ_odds_46 : decode c_LJ_odds 46 = .ok (.aload_n 3, 1) := by decide +kernel
theorem d_LJ_odds_47 : decode c_LJ_odds 47 = .ok (.invokestatic 215, 3) := by decide +kernel
theorem d_LJ_odds_50 : decode c_LJ_odds 50 = .ok (.istore 5, 2) := by decide +kernel
theorem d_LJ_odds_52 : decode c_LJ_odds 52 = .ok (.iload 5, 2) := by decide +kernel
theorem d_LJ_odds_54 : decode c_LJ_odds 54 = .ok (.iload 4, 2) := by decide +kernel
theorem d_LJ_odds_56 : decode c_LJ_odds 56 = .ok (.invokestatic 218, 3) := by decide +kernel
theorem d_LJ_odds_59 : decode c_LJ_odds 59 = .ok (.istore 6, 2) := by decide +kernel
theorem d_LJ_odds_61 : decode c_LJ_odds 61 = .ok (.iload_n 2, 1) := by decide +kernel
theorem d_LJ_odds_62 : decode c_LJ_odds 62 = .ok (.ifCond .ne 12, 3) := by decide +kernel
theorem d_LJ_odds_65 : decode c_LJ_odds 65 = .ok (.iload 5, 2) := by decide +kernel
theorem d_LJ_odds_67 : decode c_LJ_odds 67 = .ok (.iload 6, 2) := by decide +kernel
theorem d_LJ_odds_69 : decode c_LJ_odds 69 = .ok (.idiv, 1) := by decide +kernel
theorem d_LJ_odds_70 : decode c_LJ_odds 70 = .ok (.i2l, 1) := by decide +kernel
theorem d_LJ_odds_71 : decode c_LJ_odds 71 = .ok (.goto 9, 3) := by decide +kernel
theorem d_LJ_odds_74 : decode c_LJ_odds 74 = .ok (.iload 4, 2) := by decide +kernel
theorem d_LJ_odds_76 : decode c_LJ_odds 76 = .ok (.iload 6, 2) := by decide +kernel
theorem d_LJ_odds_78 : decode c_LJ_odds 78 = .ok (.idiv, 1) := by decide +kernel
theorem d_LJ_odds_79 : decode c_LJ_odds 79 = .ok (.i2l, 1) := by decide +kernel
theorem d_LJ_odds_80 : decode c_LJ_odds 80 = .ok (.lreturn, 1) := by decide +kernel
theorem C_LJ_odds_out {M : MM} {n : Nat} {B : JT} {x : Int32} (hB : CB M n B) (hx : rg x 0 ((n : Int) - 1) = false) {u : Int32} : AF y_LJ_odds c_LJ_odds 7 (some .long) 5 [vR 2, vI x, vI u] (M) (some (vL (-9223372036854775808))) (M) := by
  refine AF.of k_LJ_odds (lo := [some (vR 2), some (vI x), some (vI u), none, none, none, none]) rfl (Nat.le_of_ble_eq_true rfl) (fun X hX hR => ?_)
  refine v_aload_n (pc := 0) hX rfl d_LJ_odds_0 ?_
  refine g_getR (pc := 1) hX fl_LJ_12 rfl rfl nf_2_0 d_LJ_odds_1 ?_
  refine v_iload_n (pc := 4) hX rfl d_LJ_odds_4 ?_
  refine f_callV (pc := 5) hX k_Sp_deciderAt ki_Sp_deciderAt kv_Sp_deciderAt ml_LJ_101 (C_Sp_deciderAt_out hB.1 hB.2.1 hx) rfl rfl rfl rfl rfl (Nat.le_of_ble_eq_true rfl) (Nat.le_of_ble_eq_true rfl) (Nat.le_of_ble_eq_true rfl) d_LJ_odds_5 ?_
  refine v_astore_n (pc := 8) (lo' := [some (vR _), some (vI _), some (vI _), some (vR _), none, none, none]) hX (Nat.le_of_ble_eq_true rfl) rfl d_LJ_odds_8 ?_
  refine v_aload_n (pc := 9) hX rfl d_LJ_odds_9 ?_
  refine v_ifnull (pc := 10) (tgt := 21) hX d_LJ_odds_10 rfl (fun h10 => ?_) (fun h10 => False.elim (by revert h10; decide))
  refine v_ldc2_w (pc := 21) hX kl_LJ_210 d_LJ_odds_21 ?_
  exact f_lret (pc := 24) hX hR (rfl) (rfl) d_LJ_odds_24
theorem C_LJ_odds_bad {M : MM} {n nd b : Nat} {J B : JT} (hJ : CJ M n J) (hB : CB M nd B) (hb : b < nd) {u : Int32} (hu : rg u 0 1 = false) : AF y_LJ_odds c_LJ_odds 7 (some .long) 5 [vR 2, vI (i3 b), vI u] (M) (some (vL (-9223372036854775808))) (M) := by
  have h4 := hB.1
  have hp := pow6 hJ.1
  have hsd := sh_dec b (by omega)
  refine AF.of k_LJ_odds (lo := [some (vR 2), some (vI (i3 b)), some (vI u), none, none, none, none]) rfl (Nat.le_of_ble_eq_true rfl) (fun X hX hR => ?_)
  refine v_aload_n (pc := 0) hX rfl d_LJ_odds_0 ?_
  refine g_getR (pc := 1) hX fl_LJ_12 rfl rfl nf_2_0 d_LJ_odds_1 ?_
  refine v_iload_n (pc := 4) hX rfl d_LJ_odds_4 ?_
  refine f_callV (pc := 5) hX k_Sp_deciderAt ki_Sp_deciderAt kv_Sp_deciderAt ml_LJ_101 (C_Sp_deciderAt_in hB.1 hB.2.1 hb) rfl rfl rfl rfl rfl (Nat.le_of_ble_eq_true rfl) (Nat.le_of_ble_eq_true rfl) (Nat.le_of_ble_eq_true rfl) d_LJ_odds_5 ?_
  refine v_astore_n (pc := 8) (lo' := [some (vR _), some (vI _), some (vI _), some (vR _), none, none, none]) hX (Nat.le_of_ble_eq_true rfl) rfl d_LJ_odds_8 ?_
  refine v_aload_n (pc := 9) hX rfl d_LJ_odds_9 ?_
  refine v_ifnull (pc := 10) (tgt := 21) hX d_LJ_odds_10 rfl (fun h10 => False.elim (by have := sh_two (by assumption); omega)) (fun h10 => ?_)
  refine v_iload_n (pc := 13) hX rfl d_LJ_odds_13 ?_
  refine v_iconst (pc := 14) (v := 2) hX (by decide) d_LJ_odds_14 ?_
  refine f_callS (pc := 15) hX k_LJ_isBelow ks_LJ_isBelow ml_LJ_65 (C_LJ_isBelow) rfl rfl rfl (Nat.le_of_ble_eq_true rfl) (Nat.le_of_ble_eq_true rfl) (Nat.le_of_ble_eq_true rfl) d_LJ_odds_15 ?_
  rw [show (2 : Int32).toInt - 1 = 1 from rfl]
  refine f_ifneB (pc := 18) (tgt := 25) hX d_LJ_odds_18 rfl (fun h18 => False.elim (by rw [hu] at h18; cases h18)) (fun h18 => ?_)
  refine v_ldc2_w (pc := 21) hX kl_LJ_210 d_LJ_odds_21 ?_
  exact f_lret (pc := 24) hX hR (rfl) (rfl) d_LJ_odds_24
theorem C_LJ_odds_ok {M : MM} {n nd b : Nat} {J B : JT} (hJ : CJ M n J) (hB : CB M nd B) (hb : b < nd) {w : Nat} (hw : w < 2) : AF y_LJ_odds c_LJ_odds 7 (some .long) 5 [vR 2, vI (i3 b), vI (i3 w)] (M) (some (vL (i3 (odN J B n b w)).toInt64)) (M) := by
  have h4 := hB.1
  have hp := pow6 hJ.1
  have hsd := sh_dec b (by omega)
  have hc := cntB_le (fun s => sb s (stN J n) && dcB J (B b 0) (B b 1) n s) (2 ^ n - 1)
  have hc6 : (cntB (fun s => sb s (stN J n) && dcB J (B b 0) (B b 1) n s) (2 ^ n - 1)) < 64 := by omega
  have ha6 : (2 ^ pop 6 (stN J n) - 1) < 64 := by have := pow6 (pop_le (stN J n) 6); omega
  refine AF.of k_LJ_odds (lo := [some (vR 2), some (vI (i3 b)), some (vI (i3 w)), none, none, none, none]) rfl (Nat.le_of_ble_eq_true rfl) (fun X hX hR => ?_)
  refine v_aload_n (pc := 0) hX rfl d_LJ_odds_0 ?_
  refine g_getR (pc := 1) hX fl_LJ_12 rfl rfl nf_2_0 d_LJ_odds_1 ?_
  refine v_iload_n (pc := 4) hX rfl d_LJ_odds_4 ?_
  refine f_callV (pc := 5) hX k_Sp_deciderAt ki_Sp_deciderAt kv_Sp_deciderAt ml_LJ_101 (C_Sp_deciderAt_in hB.1 hB.2.1 hb) rfl rfl rfl rfl rfl (Nat.le_of_ble_eq_true rfl) (Nat.le_of_ble_eq_true rfl) (Nat.le_of_ble_eq_true rfl) d_LJ_odds_5 ?_
  refine v_astore_n (pc := 8) (lo' := [some (vR _), some (vI _), some (vI _), some (vR _), none, none, none]) hX (Nat.le_of_ble_eq_true rfl) rfl d_LJ_odds_8 ?_
  refine v_aload_n (pc := 9) hX rfl d_LJ_odds_9 ?_
  refine v_ifnull (pc := 10) (tgt := 21) hX d_LJ_odds_10 rfl (fun h10 => False.elim (by have := sh_two (by assumption); omega)) (fun h10 => ?_)
  refine v_iload_n (pc := 13) hX rfl d_LJ_odds_13 ?_
  refine v_iconst (pc := 14) (v := 2) hX (by decide) d_LJ_odds_14 ?_
  refine f_callS (pc := 15) hX k_LJ_isBelow ks_LJ_isBelow ml_LJ_65 (C_LJ_isBelow) rfl rfl rfl (Nat.le_of_ble_eq_true rfl) (Nat.le_of_ble_eq_true rfl) (Nat.le_of_ble_eq_true rfl) d_LJ_odds_15 ?_
  rw [show (2 : Int32).toInt - 1 = 1 from rfl]
  refine f_ifneB (pc := 18) (tgt := 25) hX d_LJ_odds_18 rfl (fun h18 => ?_) (fun h18 => False.elim (by rw [show rg (i3 w) 0 1 = true from rg_i3 (n := 2) hw (by decide)] at h18; cases h18))
  refine v_aload_n (pc := 25) hX rfl d_LJ_odds_25 ?_
  refine g_getR (pc := 26) hX fl_LJ_12 rfl rfl nf_2_0 d_LJ_odds_26 ?_
  refine f_callS (pc := 29) hX k_Bl_howManyStocked ks_Bl_howManyStocked ml_LJ_212 (C_Bl_howManyStocked hJ) rfl rfl rfl (Nat.le_of_ble_eq_true rfl) (Nat.le_of_ble_eq_true rfl) (Nat.le_of_ble_eq_true rfl) d_LJ_odds_29 ?_
  refine v_istore (pc := 32) (lo' := [some (vR _), some (vI _), some (vI _), some (vR _), some (vI _), none, none]) hX (Nat.le_of_ble_eq_true rfl) rfl d_LJ_odds_32 ?_
  refine v_iload (pc := 34) hX rfl d_LJ_odds_34 ?_
  refine v_if_ne (pc := 36) (tgt := 42) hX d_LJ_odds_36 rfl (fun h36 => ?_) (fun h36 => ?_)
  · have a0 : ¬ (2 ^ pop 6 (stN J n) - 1) = 0 := fun e => h36 (by rw [e]; rfl)
    have hg := gdv_gcd (cntB (fun s => sb s (stN J n) && dcB J (B b 0) (B b 1) n s) (2 ^ n - 1)) hc6 (2 ^ pop 6 (stN J n) - 1) ha6 a0
    have hg1 : Nat.gcd (cntB (fun s => sb s (stN J n) && dcB J (B b 0) (B b 1) n s) (2 ^ n - 1)) (2 ^ pop 6 (stN J n) - 1) ≤ (2 ^ pop 6 (stN J n) - 1) := Nat.gcd_le_right _ (Nat.pos_of_ne_zero a0)
    have hg0 : Nat.gcd (cntB (fun s => sb s (stN J n) && dcB J (B b 0) (B b 1) n s) (2 ^ n - 1)) (2 ^ pop 6 (stN J n) - 1) ≠ 0 := fun e => a0 (Nat.gcd_eq_zero_iff.mp e).2
    refine v_aload_n (pc := 42) hX rfl d_LJ_odds_42 ?_
    refine g_getR (pc := 43) hX fl_LJ_12 rfl rfl nf_2_0 d_LJ_odds_43 ?_
    refine v_aload_n (pc := 46) hX rfl d_LJ_odds_46 ?_
    refine f_callS (pc := 47) hX k_Bl_howManyDeciding ks_Bl_howManyDeciding ml_LJ_215 (C_Bl_howManyDeciding hJ (by assumption)) rfl rfl rfl (Nat.le_of_ble_eq_true rfl) (Nat.le_of_ble_eq_true rfl) (Nat.le_of_ble_eq_true rfl) d_LJ_odds_47 ?_
    rw [hB.2.2 b hb 0 (by decide), hB.2.2 b hb 1 (by decide)]
    refine v_istore (pc := 50) (lo' := [some (vR _), some (vI _), some (vI _), some (vR _), some (vI _), some (vI _), none]) hX (Nat.le_of_ble_eq_true rfl) rfl d_LJ_odds_50 ?_
    refine v_iload (pc := 52) hX rfl d_LJ_odds_52 ?_
    refine v_iload (pc := 54) hX rfl d_LJ_odds_54 ?_
    refine f_callS (pc := 56) hX k_Bl_greatestDivisor ks_Bl_greatestDivisor ml_LJ_218 (C_Bl_greatestDivisor hc6 ha6 a0) rfl rfl rfl (Nat.le_of_ble_eq_true rfl) (Nat.le_of_ble_eq_true rfl) (Nat.le_of_ble_eq_true rfl) d_LJ_odds_56 ?_
    rw [hg]
    refine v_istore (pc := 59) (lo' := [some (vR _), some (vI _), some (vI _), some (vR _), some (vI _), some (vI _), some (vI _)]) hX (Nat.le_of_ble_eq_true rfl) rfl d_LJ_odds_59 ?_
    refine v_iload_n (pc := 61) hX rfl d_LJ_odds_61 ?_
    refine v_if_ne (pc := 62) (tgt := 74) hX d_LJ_odds_62 rfl (fun h62 => ?_) (fun h62 => ?_)
    · have w0 : ¬ w = 0 := fun e => h62 (by rw [e]; rfl)
      refine v_iload (pc := 74) hX rfl d_LJ_odds_74 ?_
      refine v_iload (pc := 76) hX rfl d_LJ_odds_76 ?_
      refine v_idiv (pc := 78) hX (i3_ne0 hg0 (by omega)) d_LJ_odds_78 ?_
      rw [div_i3 _ ha6 _ (by omega) hg0]
      refine v_i2l (pc := 79) hX d_LJ_odds_79 ?_
      exact f_lret (pc := 80) hX hR (by unfold odN; rw [if_neg a0]; first | rw [if_pos w0] | rw [if_neg w0]) (rfl) d_LJ_odds_80
    · have w0 : w = 0 := by
        by_cases e : w = 0
        · exact e
        · exact absurd h62 (i3_ne0 e (by omega))
      refine v_iload (pc := 65) hX rfl d_LJ_odds_65 ?_
      refine v_iload (pc := 67) hX rfl d_LJ_odds_67 ?_
      refine v_idiv (pc := 69) hX (i3_ne0 hg0 (by omega)) d_LJ_odds_69 ?_
      rw [div_i3 _ hc6 _ (by omega) hg0]
      refine v_i2l (pc := 70) hX d_LJ_odds_70 ?_
      refine v_goto (pc := 71) (tgt := 80) hX d_LJ_odds_71 rfl ?_
      exact f_lret (pc := 80) hX hR (by unfold odN; rw [if_neg a0]; first | rw [if_pos w0] | rw [if_neg w0]) (rfl) d_LJ_odds_80
  · have a0 : (2 ^ pop 6 (stN J n) - 1) = 0 := by
      by_cases e : (2 ^ pop 6 (stN J n) - 1) = 0
      · exact e
      · exact absurd h36 (i3_ne0 e (by omega))
    refine v_iload_n (pc := 39) hX rfl d_LJ_odds_39 ?_
    refine v_i2l (pc := 40) hX d_LJ_odds_40 ?_
    exact f_lret (pc := 41) hX hR (by unfold odN; rw [if_pos a0]) (rfl) d_LJ_odds_41
theorem d_LJ_tell_0 : decode c_LJ_tell 0 = .ok (.aload_n 0, 1) := by decide +kernel
theorem d_LJ_tell_1 : decode c_LJ_tell 1 = .ok (.getfield 12, 3) := by decide +kernel
theorem d_LJ_tell_4 : decode c_LJ_tell 4 = .ok (.iload_n 1, 1) := by decide +kernel
theorem d_LJ_tell_5 : decode c_LJ_tell 5 = .ok (.invokevirtual 92, 3) := by decide +kernel
theorem d_LJ_tell_8 : decode c_LJ_tell 8 = .ok (.astore_n 2, 1) := by decide +kernel
theorem d_LJ_tell_9 : decode c_LJ_tell 9 = .ok (.aload_n 2, 1) := by decide +kernel
theorem d_LJ_tell_10 : decode c_LJ_tell 10 = .ok (.ifnonnull 5, 3) := by decide +kernel
theorem d_LJ_tell_13 : decode c_LJ_tell 13 = .ok (.iconst (-1), 1) := by decide +kernel
theorem d_LJ_tell_14 : decode c_LJ_tell 14 = .ok (.ireturn, 1) := by decide +kernel
theorem d_LJ_tell_15 : decode c_LJ_tell 15 = .ok (.aload_n 2, 1) := by decide +kernel
theorem d_LJ_tell_16 : decode c_LJ_tell 16 = .ok (.getfield 251, 3) := by decide +kernel
theorem d_LJ_tell_19 : decode c_LJ_tell 19 = .ok (.lookupswitch 43 #[(0, 25), (1, 34)], 25) := by decide +kernel
theorem d_LJ_tell_44 : decode c_LJ_tell 44 = .ok (.aload_n 0, 1) := by decide +kernel
theorem d_LJ_tell_45 : decode c_LJ_tell 45 = .ok (.getfield 42, 3) := by decide +kernel
theorem d_LJ_tell_48 : decode c_LJ_tell 48 = .ok (.aload_n 2, 1) := by decide +kernel
theorem d_LJ_tell_49 : decode c_LJ_tell 49 = .ok (.invokevirtual 254, 3) := by decide +kernel
theorem d_LJ_tell_52 : decode c_LJ_tell 52 = .ok (.ireturn, 1) := by decide +kernel
theorem d_LJ_tell_53 : decode c_LJ_tell 53 = .ok (.aload_n 0, 1) := by decide +kernel
theorem d_LJ_tell_54 : decode c_LJ_tell 54 = .ok (.getfield 42, 3) := by decide +kernel
theorem d_LJ_tell_57 : decode c_LJ_tell 57 = .ok (.aload_n 2, 1) := by decide +kernel
theorem d_LJ_tell_58 : decode c_LJ_tell 58 = .ok (.invokevirtual 258, 3) := by decide +kernel
theorem d_LJ_tell_61 : decode c_LJ_tell 61 = .ok (.ireturn, 1) := by decide +kernel
theorem d_LJ_tell_62 : decode c_LJ_tell 62 = .ok (.aload_n 0, 1) := by decide +kernel
theorem d_LJ_tell_63 : decode c_LJ_tell 63 = .ok (.getfield 42, 3) := by decide +kernel
theorem d_LJ_tell_66 : decode c_LJ_tell 66 = .ok (.aload_n 2, 1) := by decide +kernel
theorem d_LJ_tell_67 : decode c_LJ_tell 67 = .ok (.invokevirtual 261, 3) := by decide +kernel
theorem d_LJ_tell_70 : decode c_LJ_tell 70 = .ok (.ireturn, 1) := by decide +kernel
theorem C_LJ_tell_out {M : MM} {n : Nat} {J : JT} {x : Int32} (hJ : CJ M n J) (hx : rg x 0 ((n : Int) - 1) = false) : AF y_LJ_tell c_LJ_tell 3 (some .int) 5 [vR 2, vI x] (M) (some (vI (-1))) (M) := by
  refine AF.of k_LJ_tell (lo := [some (vR 2), some (vI x), none]) rfl (Nat.le_of_ble_eq_true rfl) (fun X hX hR => ?_)
  refine v_aload_n (pc := 0) hX rfl d_LJ_tell_0 ?_
  refine g_getR (pc := 1) hX fl_LJ_12 rfl rfl nf_2_0 d_LJ_tell_1 ?_
  refine v_iload_n (pc := 4) hX rfl d_LJ_tell_4 ?_
  refine f_callV (pc := 5) hX k_Sp_jarAt ki_Sp_jarAt kv_Sp_jarAt ml_LJ_92 (C_Sp_jarAt_out hJ.1 hJ.2.1 hx) rfl rfl rfl rfl rfl (Nat.le_of_ble_eq_true rfl) (Nat.le_of_ble_eq_true rfl) (Nat.le_of_ble_eq_true rfl) d_LJ_tell_5 ?_
  refine v_astore_n (pc := 8) (lo' := [some (vR _), some (vI _), some (vR _)]) hX (Nat.le_of_ble_eq_true rfl) rfl d_LJ_tell_8 ?_
  refine v_aload_n (pc := 9) hX rfl d_LJ_tell_9 ?_
  refine v_ifnonnull (pc := 10) (tgt := 15) hX d_LJ_tell_10 rfl (fun h10 => False.elim (by revert h10; decide)) (fun h10 => ?_)
  refine v_iconst (pc := 13) (v := (-1)) hX (by decide) d_LJ_tell_13 ?_
  exact f_iret (pc := 14) hX hR (rfl) (rfl) d_LJ_tell_14
theorem C_LJ_tell_0 {M : MM} {n j : Nat} {J : JT} (hJ : CJ M n J) (hj : j < n) (hk : J j 0 = 0) : AF y_LJ_tell c_LJ_tell 3 (some .int) 5 [vR 2, vI (i3 j)] (M) (some (vI (J j 1))) (lvM M 1) := by
  have h6 := hJ.1
  have hsj := sh_jar j (by omega)
  refine AF.of k_LJ_tell (lo := [some (vR 2), some (vI (i3 j)), none]) rfl (Nat.le_of_ble_eq_true rfl) (fun X hX hR => ?_)
  refine v_aload_n (pc := 0) hX rfl d_LJ_tell_0 ?_
  refine g_getR (pc := 1) hX fl_LJ_12 rfl rfl nf_2_0 d_LJ_tell_1 ?_
  refine v_iload_n (pc := 4) hX rfl d_LJ_tell_4 ?_
  refine f_callV (pc := 5) hX k_Sp_jarAt ki_Sp_jarAt kv_Sp_jarAt ml_LJ_92 (C_Sp_jarAt_in hJ.1 hJ.2.1 hj) rfl rfl rfl rfl rfl (Nat.le_of_ble_eq_true rfl) (Nat.le_of_ble_eq_true rfl) (Nat.le_of_ble_eq_true rfl) d_LJ_tell_5 ?_
  refine v_astore_n (pc := 8) (lo' := [some (vR _), some (vI _), some (vR _)]) hX (Nat.le_of_ble_eq_true rfl) rfl d_LJ_tell_8 ?_
  refine v_aload_n (pc := 9) hX rfl d_LJ_tell_9 ?_
  refine v_ifnonnull (pc := 10) (tgt := 15) hX d_LJ_tell_10 rfl (fun h10 => ?_) (fun h10 => False.elim (by have := sh_two (by assumption); omega))
  refine v_aload_n (pc := 15) hX rfl d_LJ_tell_15 ?_
  refine g_getI (pc := 16) hX fl_LJ_251 rfl (by assumption) d_LJ_tell_16 ?_
  refine v_top (fun y19 q19 => ?_)
  by_cases e19_0 : y19 = 0
  · subst e19_0
    refine v_look (pc := 19) (tgt := 44) (off := 25) hX d_LJ_tell_19 (by decide) (by decide) rfl ?_
    refine v_aload_n (pc := 44) hX rfl d_LJ_tell_44 ?_
    refine g_getR (pc := 45) hX fl_LJ_42 rfl rfl nf_2_4 d_LJ_tell_45 ?_
    refine v_aload_n (pc := 48) hX rfl d_LJ_tell_48 ?_
    refine f_callV (pc := 49) hX k_Te_tellLeaf ki_Te_tellLeaf kv_Te_tellLeaf ml_LJ_254 (C_Te_tellLeaf (by assumption)) rfl rfl rfl rfl rfl (Nat.le_of_ble_eq_true rfl) (Nat.le_of_ble_eq_true rfl) (Nat.le_of_ble_eq_true rfl) d_LJ_tell_49 ?_
    exact f_iret (pc := 52) hX hR (hJ.2.2 j hj 1 (by decide)) (rfl) d_LJ_tell_52
  exact False.elim (e19_0 (by rw [← q19, hJ.2.2 j hj 0 (by decide)]; exact hk))
theorem C_LJ_tell_1 {M : MM} {n j : Nat} {J : JT} (hJ : CJ M n J) (hj : j < n) (hk : J j 0 = 1) : AF y_LJ_tell c_LJ_tell 3 (some .int) 5 [vR 2, vI (i3 j)] (M) (some (vI (J j 1 + 100))) (lvM (lvM M 2) 1) := by
  have h6 := hJ.1
  have hsj := sh_jar j (by omega)
  refine AF.of k_LJ_tell (lo := [some (vR 2), some (vI (i3 j)), none]) rfl (Nat.le_of_ble_eq_true rfl) (fun X hX hR => ?_)
  refine v_aload_n (pc := 0) hX rfl d_LJ_tell_0 ?_
  refine g_getR (pc := 1) hX fl_LJ_12 rfl rfl nf_2_0 d_LJ_tell_1 ?_
  refine v_iload_n (pc := 4) hX rfl d_LJ_tell_4 ?_
  refine f_callV (pc := 5) hX k_Sp_jarAt ki_Sp_jarAt kv_Sp_jarAt ml_LJ_92 (C_Sp_jarAt_in hJ.1 hJ.2.1 hj) rfl rfl rfl rfl rfl (Nat.le_of_ble_eq_true rfl) (Nat.le_of_ble_eq_true rfl) (Nat.le_of_ble_eq_true rfl) d_LJ_tell_5 ?_
  refine v_astore_n (pc := 8) (lo' := [some (vR _), some (vI _), some (vR _)]) hX (Nat.le_of_ble_eq_true rfl) rfl d_LJ_tell_8 ?_
  refine v_aload_n (pc := 9) hX rfl d_LJ_tell_9 ?_
  refine v_ifnonnull (pc := 10) (tgt := 15) hX d_LJ_tell_10 rfl (fun h10 => ?_) (fun h10 => False.elim (by have := sh_two (by assumption); omega))
  refine v_aload_n (pc := 15) hX rfl d_LJ_tell_15 ?_
  refine g_getI (pc := 16) hX fl_LJ_251 rfl (by assumption) d_LJ_tell_16 ?_
  refine v_top (fun y19 q19 => ?_)
  by_cases e19_1 : y19 = 1
  · subst e19_1
    refine v_look (pc := 19) (tgt := 53) (off := 34) hX d_LJ_tell_19 (by decide) (by decide) rfl ?_
    refine v_aload_n (pc := 53) hX rfl d_LJ_tell_53 ?_
    refine g_getR (pc := 54) hX fl_LJ_42 rfl rfl nf_2_4 d_LJ_tell_54 ?_
    refine v_aload_n (pc := 57) hX rfl d_LJ_tell_57 ?_
    refine f_callV (pc := 58) hX k_Te_tellTwist ki_Te_tellTwist kv_Te_tellTwist ml_LJ_258 (C_Te_tellTwist (by assumption)) rfl rfl rfl rfl rfl (Nat.le_of_ble_eq_true rfl) (Nat.le_of_ble_eq_true rfl) (Nat.le_of_ble_eq_true rfl) d_LJ_tell_58 ?_
    exact f_iret (pc := 61) hX hR (by rw [hJ.2.2 j hj 1 (by decide)]) (rfl) d_LJ_tell_61
  exact False.elim (e19_1 (by rw [← q19, hJ.2.2 j hj 0 (by decide)]; exact hk))
theorem C_LJ_tell_2 {M : MM} {n j : Nat} {J : JT} (hJ : CJ M n J) (hj : j < n) (hk : J j 0 = 2) : AF y_LJ_tell c_LJ_tell 3 (some .int) 5 [vR 2, vI (i3 j)] (M) (some (vI (J j 1 + 100 + J j 1))) (lvM (lvM (lvM (lvM M 3) 2) 1) 1) := by
  have h6 := hJ.1
  have hsj := sh_jar j (by omega)
  refine AF.of k_LJ_tell (lo := [some (vR 2), some (vI (i3 j)), none]) rfl (Nat.le_of_ble_eq_true rfl) (fun X hX hR => ?_)
  refine v_aload_n (pc := 0) hX rfl d_LJ_tell_0 ?_
  refine g_getR (pc := 1) hX fl_LJ_12 rfl rfl nf_2_0 d_LJ_tell_1 ?_
  refine v_iload_n (pc := 4) hX rfl d_LJ_tell_4 ?_
  refine f_callV (pc := 5) hX k_Sp_jarAt ki_Sp_jarAt kv_Sp_jarAt ml_LJ_92 (C_Sp_jarAt_in hJ.1 hJ.2.1 hj) rfl rfl rfl rfl rfl (Nat.le_of_ble_eq_true rfl) (Nat.le_of_ble_eq_true rfl) (Nat.le_of_ble_eq_true rfl) d_LJ_tell_5 ?_
  refine v_astore_n (pc := 8) (lo' := [some (vR _), some (vI _), some (vR _)]) hX (Nat.le_of_ble_eq_true rfl) rfl d_LJ_tell_8 ?_
  refine v_aload_n (pc := 9) hX rfl d_LJ_tell_9 ?_
  refine v_ifnonnull (pc := 10) (tgt := 15) hX d_LJ_tell_10 rfl (fun h10 => ?_) (fun h10 => False.elim (by have := sh_two (by assumption); omega))
  refine v_aload_n (pc := 15) hX rfl d_LJ_tell_15 ?_
  refine g_getI (pc := 16) hX fl_LJ_251 rfl (by assumption) d_LJ_tell_16 ?_
  refine v_top (fun y19 q19 => ?_)
  have e19_0 : ¬ y19 = 0 := by rw [← q19, hJ.2.2 j hj 0 (by decide), hk]; decide
  have e19_1 : ¬ y19 = 1 := by rw [← q19, hJ.2.2 j hj 0 (by decide), hk]; decide
  refine v_look (pc := 19) (tgt := 62) hX d_LJ_tell_19 (by decide) (look_out (by simp only [eq32, q_0, q_1, q_2, q_3, q_4, q_5, q_6, q_7, q_8, q_9, q_10, q_11, q_12, q_15, q_16, q_20, q_21, q_23, q_24, q_29, q_31, q_44, q_48, q_59, q_60, q_61, q_63, q_99, q_100, q_108, q_112, q_116, q_119, q_240, q_m1, q_m9] at e19_0 e19_1; simp; omega)) rfl ?_
  refine v_aload_n (pc := 62) hX rfl d_LJ_tell_62 ?_
  refine g_getR (pc := 63) hX fl_LJ_42 rfl rfl nf_2_4 d_LJ_tell_63 ?_
  refine v_aload_n (pc := 66) hX rfl d_LJ_tell_66 ?_
  refine f_callV (pc := 67) hX k_Te_tellPlug ki_Te_tellPlug kv_Te_tellPlug ml_LJ_261 (C_Te_tellPlug (by assumption)) rfl rfl rfl rfl rfl (Nat.le_of_ble_eq_true rfl) (Nat.le_of_ble_eq_true rfl) (Nat.le_of_ble_eq_true rfl) d_LJ_tell_67 ?_
  exact f_iret (pc := 70) hX hR (by rw [hJ.2.2 j hj 1 (by decide)]) (rfl) d_LJ_tell_70
theorem d_LJ_sniff_0 : decode c_LJ_sniff 0 = .ok (.aload_n 0, 1) := by decide +kernel
theorem d_LJ_sniff_1 : decode c_LJ_sniff 1 = .ok (.getfield 12, 3) := by decide +kernel
theorem d_LJ_sniff_4 : decode c_LJ_sniff 4 = .ok (.iload_n 1, 1) := by decide +kernel
theorem d_LJ_sniff_5 : decode c_LJ_sniff 5 = .ok (.invokevirtual 92, 3) := by decide +kernel
theorem d_LJ_sniff_8 : decode c_LJ_sniff 8 = .ok (.astore_n 2, 1) := by decide +kernel
theorem d_LJ_sniff_9 : decode c_LJ_sniff 9 = .ok (.aload_n 2, 1) := by decide +kernel
theorem d_LJ_sniff_10 : decode c_LJ_sniff 10 = .ok (.ifnonnull 5, 3) := by decide +kernel
theorem d_LJ_sniff_13 : decode c_LJ_sniff 13 = .ok (.iconst (-1), 1) := by decide +kernel
theorem d_LJ_sniff_14 : decode c_LJ_sniff 14 = .ok (.ireturn, 1) := by decide +kernel
theorem d_LJ_sniff_15 : decode c_LJ_sniff 15 = .ok (.aload_n 2, 1) := by decide +kernel
theorem d_LJ_sniff_16 : decode c_LJ_sniff 16 = .ok (.getfield 251, 3) := by decide +kernel
theorem d_LJ_sniff_19 : decode c_LJ_sniff 19 = .ok (.iconst 2, 1) := by decide +kernel
theorem d_LJ_sniff_20 : decode c_LJ_sniff 20 = .ok (.if_icmp .ne 13, 3) := by decide +kernel
theorem d_LJ_sniff_23 : decode c_LJ_sniff 23 = .ok (.aload_n 0, 1) := by decide +kernel
theorem d_LJ_sniff_24 : decode c_LJ_sniff 24 = .ok (.getfield 42, 3) := by decide +kernel
theorem d_LJ_sniff_27 : decode c_LJ_sniff 27 = .ok (.invokevirtual 264, 3) := by decide +kernel
theorem d_LJ_sniff_30 : decode c_LJ_sniff 30 = .ok (.goto 11, 3) := by decide +kernel
theorem d_LJ_sniff_33 : decode c_LJ_sniff 33 = .ok (.aload_n 0, 1) := by decide +kernel
theorem d_LJ_sniff_34 : decode c_LJ_sniff 34 = .ok (.getfield 42, 3) := by decide +kernel
theorem d_LJ_sniff_37 : decode c_LJ_sniff 37 = .ok (.iload_n 1, 1) := by decide +kernel
theorem d_LJ_sniff_38 : decode c_LJ_sniff 38 = .ok (.invokevirtual 268, 3) := by decide +kernel
theorem d_LJ_sniff_41 : decode c_LJ_sniff 41 = .ok (.ireturn, 1) := by decide +kernel
theorem C_LJ_sniff_out {M : MM} {n : Nat} {J : JT} {x : Int32} (hJ : CJ M n J) (hx : rg x 0 ((n : Int) - 1) = false) : AF y_LJ_sniff c_LJ_sniff 3 (some .int) 3 [vR 2, vI x] (M) (some (vI (-1))) (M) := by
  refine AF.of k_LJ_sniff (lo := [some (vR 2), some (vI x), none]) rfl (Nat.le_of_ble_eq_true rfl) (fun X hX hR => ?_)
  refine v_aload_n (pc := 0) hX rfl d_LJ_sniff_0 ?_
  refine g_getR (pc := 1) hX fl_LJ_12 rfl rfl nf_2_0 d_LJ_sniff_1 ?_
  refine v_iload_n (pc := 4) hX rfl d_LJ_sniff_4 ?_
  refine f_callV (pc := 5) hX k_Sp_jarAt ki_Sp_jarAt kv_Sp_jarAt ml_LJ_92 (C_Sp_jarAt_out hJ.1 hJ.2.1 hx) rfl rfl rfl rfl rfl (Nat.le_of_ble_eq_true rfl) (Nat.le_of_ble_eq_true rfl) (Nat.le_of_ble_eq_true rfl) d_LJ_sniff_5 ?_
  refine v_astore_n (pc := 8) (lo' := [some (vR _), some (vI _), some (vR _)]) hX (Nat.le_of_ble_eq_true rfl) rfl d_LJ_sniff_8 ?_
  refine v_aload_n (pc := 9) hX rfl d_LJ_sniff_9 ?_
  refine v_ifnonnull (pc := 10) (tgt := 15) hX d_LJ_sniff_10 rfl (fun h10 => False.elim (by revert h10; decide)) (fun h10 => ?_)
  refine v_iconst (pc := 13) (v := (-1)) hX (by decide) d_LJ_sniff_13 ?_
  exact f_iret (pc := 14) hX hR (rfl) (rfl) d_LJ_sniff_14
theorem C_LJ_sniff_p {M : MM} {n j : Nat} {J : JT} (hJ : CJ M n J) (hj : j < n) (hk : J j 0 = 2) : AF y_LJ_sniff c_LJ_sniff 3 (some .int) 3 [vR 2, vI (i3 j)] (M) (some (vI 80)) (lvM M 5) := by
  have h6 := hJ.1
  have hsj := sh_jar j (by omega)
  refine AF.of k_LJ_sniff (lo := [some (vR 2), some (vI (i3 j)), none]) rfl (Nat.le_of_ble_eq_true rfl) (fun X hX hR => ?_)
  refine v_aload_n (pc := 0) hX rfl d_LJ_sniff_0 ?_
  refine g_getR (pc := 1) hX fl_LJ_12 rfl rfl nf_2_0 d_LJ_sniff_1 ?_
  refine v_iload_n (pc := 4) hX rfl d_LJ_sniff_4 ?_
  refine f_callV (pc := 5) hX k_Sp_jarAt ki_Sp_jarAt kv_Sp_jarAt ml_LJ_92 (C_Sp_jarAt_in hJ.1 hJ.2.1 hj) rfl rfl rfl rfl rfl (Nat.le_of_ble_eq_true rfl) (Nat.le_of_ble_eq_true rfl) (Nat.le_of_ble_eq_true rfl) d_LJ_sniff_5 ?_
  refine v_astore_n (pc := 8) (lo' := [some (vR _), some (vI _), some (vR _)]) hX (Nat.le_of_ble_eq_true rfl) rfl d_LJ_sniff_8 ?_
  refine v_aload_n (pc := 9) hX rfl d_LJ_sniff_9 ?_
  refine v_ifnonnull (pc := 10) (tgt := 15) hX d_LJ_sniff_10 rfl (fun h10 => ?_) (fun h10 => False.elim (by have := sh_two (by assumption); omega))
  refine v_aload_n (pc := 15) hX rfl d_LJ_sniff_15 ?_
  refine g_getI (pc := 16) hX fl_LJ_251 rfl (by assumption) d_LJ_sniff_16 ?_
  rw [hJ.2.2 j hj 0 (by decide)]
  refine v_iconst (pc := 19) (v := 2) hX (by decide) d_LJ_sniff_19 ?_
  refine v_icmp_ne (pc := 20) (tgt := 33) hX d_LJ_sniff_20 rfl (fun h20 => False.elim (h20 hk)) (fun h20 => ?_)
  refine v_aload_n (pc := 23) hX rfl d_LJ_sniff_23 ?_
  refine g_getR (pc := 24) hX fl_LJ_42 rfl rfl nf_2_4 d_LJ_sniff_24 ?_
  refine f_callV (pc := 27) hX k_Te_sniffPlug ki_Te_sniffPlug kv_Te_sniffPlug ml_LJ_264 (C_Te_sniffPlug) rfl rfl rfl rfl rfl (Nat.le_of_ble_eq_true rfl) (Nat.le_of_ble_eq_true rfl) (Nat.le_of_ble_eq_true rfl) d_LJ_sniff_27 ?_
  refine v_goto (pc := 30) (tgt := 41) hX d_LJ_sniff_30 rfl ?_
  exact f_iret (pc := 41) hX hR (rfl) (rfl) d_LJ_sniff_41
theorem C_LJ_sniff_l {M : MM} {n j : Nat} {J : JT} (hJ : CJ M n J) (hj : j < n) (hk : ¬ J j 0 = 2) : AF y_LJ_sniff c_LJ_sniff 3 (some .int) 3 [vR 2, vI (i3 j)] (M) (some (vI (i3 j))) (lvM M 4) := by
  have h6 := hJ.1
  have hsj := sh_jar j (by omega)
  refine AF.of k_LJ_sniff (lo := [some (vR 2), some (vI (i3 j)), none]) rfl (Nat.le_of_ble_eq_true rfl) (fun X hX hR => ?_)
  refine v_aload_n (pc := 0) hX rfl d_LJ_sniff_0 ?_
  refine g_getR (pc := 1) hX fl_LJ_12 rfl rfl nf_2_0 d_LJ_sniff_1 ?_
  refine v_iload_n (pc := 4) hX rfl d_LJ_sniff_4 ?_
  refine f_callV (pc := 5) hX k_Sp_jarAt ki_Sp_jarAt kv_Sp_jarAt ml_LJ_92 (C_Sp_jarAt_in hJ.1 hJ.2.1 hj) rfl rfl rfl rfl rfl (Nat.le_of_ble_eq_true rfl) (Nat.le_of_ble_eq_true rfl) (Nat.le_of_ble_eq_true rfl) d_LJ_sniff_5 ?_
  refine v_astore_n (pc := 8) (lo' := [some (vR _), some (vI _), some (vR _)]) hX (Nat.le_of_ble_eq_true rfl) rfl d_LJ_sniff_8 ?_
  refine v_aload_n (pc := 9) hX rfl d_LJ_sniff_9 ?_
  refine v_ifnonnull (pc := 10) (tgt := 15) hX d_LJ_sniff_10 rfl (fun h10 => ?_) (fun h10 => False.elim (by have := sh_two (by assumption); omega))
  refine v_aload_n (pc := 15) hX rfl d_LJ_sniff_15 ?_
  refine g_getI (pc := 16) hX fl_LJ_251 rfl (by assumption) d_LJ_sniff_16 ?_
  rw [hJ.2.2 j hj 0 (by decide)]
  refine v_iconst (pc := 19) (v := 2) hX (by decide) d_LJ_sniff_19 ?_
  refine v_icmp_ne (pc := 20) (tgt := 33) hX d_LJ_sniff_20 rfl (fun h20 => ?_) (fun h20 => False.elim (hk h20))
  refine v_aload_n (pc := 33) hX rfl d_LJ_sniff_33 ?_
  refine g_getR (pc := 34) hX fl_LJ_42 rfl rfl nf_2_4 d_LJ_sniff_34 ?_
  refine v_iload_n (pc := 37) hX rfl d_LJ_sniff_37 ?_
  refine f_callV (pc := 38) hX k_Te_sniffLent ki_Te_sniffLent kv_Te_sniffLent ml_LJ_268 (C_Te_sniffLent) rfl rfl rfl rfl rfl (Nat.le_of_ble_eq_true rfl) (Nat.le_of_ble_eq_true rfl) (Nat.le_of_ble_eq_true rfl) d_LJ_sniff_38 ?_
  exact f_iret (pc := 41) hX hR (rfl) (rfl) d_LJ_sniff_41
theorem d_LJ_as_0 : decode c_LJ_as 0 = .ok (.aload_n 0, 1) := by decide +kernel
theorem d_LJ_as_1 : decode c_LJ_as 1 = .ok (.getfield 12, 3) := by decide +kernel
theorem d_LJ_as_4 : decode c_LJ_as 4 = .ok (.iload_n 1, 1) := by decide +kernel
theorem d_LJ_as_5 : decode c_LJ_as 5 = .ok (.invokevirtual 92, 3) := by decide +kernel
theorem d_LJ_as_8 : decode c_LJ_as 8 = .ok (.astore_n 3, 1) := by decide +kernel
theorem d_LJ_as_9 : decode c_LJ_as 9 = .ok (.aload_n 3, 1) := by decide +kernel
theorem d_LJ_as_10 : decode c_LJ_as 10 = .ok (.ifnonnull 9, 3) := by decide +kernel
theorem d_LJ_as_13 : decode c_LJ_as 13 = .ok (.aload_n 0, 1) := by decide +kernel
theorem d_LJ_as_14 : decode c_LJ_as 14 = .ok (.iconst (-1), 1) := by decide +kernel
theorem d_LJ_as_15 : decode c_LJ_as 15 = .ok (.invokevirtual 61, 3) := by decide +kernel
theorem d_LJ_as_18 : decode c_LJ_as 18 = .ok (.ireturn, 1) := by decide +kernel
theorem d_LJ_as_19 : decode c_LJ_as 19 = .ok (.iload_n 2, 1) := by decide +kernel
theorem d_LJ_as_20 : decode c_LJ_as 20 = .ok (.iconst 3, 1) := by decide +kernel
theorem d_LJ_as_21 : decode c_LJ_as 21 = .ok (.invokestatic 65, 3) := by decide +kernel
theorem d_LJ_as_24 : decode c_LJ_as 24 = .ok (.ifCond .ne 10, 3) := by decide +kernel
theorem d_LJ_as_27 : decode c_LJ_as 27 = .ok (.aload_n 0, 1) := by decide +kernel
theorem d_LJ_as_28 : decode c_LJ_as 28 = .ok (.bipush (-2), 2) := by decide +kernel
theorem d_LJ_as_30 : decode c_LJ_as 30 = .ok (.invokevirtual 61, 3) := by decide +kernel
theorem d_LJ_as_33 : decode c_LJ_as 33 = .ok (.ireturn, 1) := by decide +kernel
theorem d_LJ_as_34 : decode c_LJ_as 34 = .ok (.aload_n 3, 1) := by decide +kernel
theorem d_LJ_as_35 : decode c_LJ_as 35 = .ok (.getfield 251, 3) := by decide +kernel
theorem d_LJ_as_38 : decode c_LJ_as 38 = .ok (.iload_n 2, 1) := by decide +kernel
theorem d_LJ_as_39 : decode c_LJ_as 39 = .ok (.if_icmp .ge 9, 3) := by decide +kernel
theorem d_LJ_as_42 : decode c_LJ_as 42 = .ok (.aload_n 0, 1) := by decide +kernel
theorem d_LJ_as_43 : decode c_LJ_as 43 = .ok (.iconst 2, 1) := by decide +kernel
theorem d_LJ_as_44 : decode c_LJ_as 44 = .ok (.invokevirtual 73, 3) := by decide +kernel
theorem d_LJ_as_47 : decode c_LJ_as 47 = .ok (.ireturn, 1) := by decide +kernel
theorem d_LJ_as_48 : decode c_LJ_as 48 = .ok (.aload_n 0, 1) := by decide +kernel
theorem d_LJ_as_49 : decode c_LJ_as 49 = .ok (.iconst 0, 1) := by decide +kernel
theorem d_LJ_as_50 : decode c_LJ_as 50 = .ok (.putfield 52, 3) := by decide +kernel
theorem d_LJ_as_53 : decode c_LJ_as 53 = .ok (.iconst 1, 1) := by decide +kernel
theorem d_LJ_as_54 : decode c_LJ_as 54 = .ok (.ireturn, 1) := by decide +kernel
theorem C_LJ_as_out {M : MM} {n : Nat} {J : JT} {x : Int32} (hJ : CJ M n J) (hx : rg x 0 ((n : Int) - 1) = false) {u : Int32} : AF y_LJ_as c_LJ_as 4 (some .int) 3 [vR 2, vI x, vI u] (M) (some (vI (-1))) (upM M 2 6 0) := by
  refine AF.of k_LJ_as (lo := [some (vR 2), some (vI x), some (vI u), none]) rfl (Nat.le_of_ble_eq_true rfl) (fun X hX hR => ?_)
  refine v_aload_n (pc := 0) hX rfl d_LJ_as_0 ?_
  refine g_getR (pc := 1) hX fl_LJ_12 rfl rfl nf_2_0 d_LJ_as_1 ?_
  refine v_iload_n (pc := 4) hX rfl d_LJ_as_4 ?_
  refine f_callV (pc := 5) hX k_Sp_jarAt ki_Sp_jarAt kv_Sp_jarAt ml_LJ_92 (C_Sp_jarAt_out hJ.1 hJ.2.1 hx) rfl rfl rfl rfl rfl (Nat.le_of_ble_eq_true rfl) (Nat.le_of_ble_eq_true rfl) (Nat.le_of_ble_eq_true rfl) d_LJ_as_5 ?_
  refine v_astore_n (pc := 8) (lo' := [some (vR _), some (vI _), some (vI _), some (vR _)]) hX (Nat.le_of_ble_eq_true rfl) rfl d_LJ_as_8 ?_
  refine v_aload_n (pc := 9) hX rfl d_LJ_as_9 ?_
  refine v_ifnonnull (pc := 10) (tgt := 19) hX d_LJ_as_10 rfl (fun h10 => False.elim (by revert h10; decide)) (fun h10 => ?_)
  refine v_aload_n (pc := 13) hX rfl d_LJ_as_13 ?_
  refine v_iconst (pc := 14) (v := (-1)) hX (by decide) d_LJ_as_14 ?_
  refine f_callV (pc := 15) hX k_LJ_refused ki_LJ_refused kv_LJ_refused ml_LJ_61 (C_LJ_refused) rfl rfl rfl rfl rfl (Nat.le_of_ble_eq_true rfl) (Nat.le_of_ble_eq_true rfl) (Nat.le_of_ble_eq_true rfl) d_LJ_as_15 ?_
  exact f_iret (pc := 18) hX hR (rfl) (rfl) d_LJ_as_18
theorem C_LJ_as_bad {M : MM} {n j : Nat} {J : JT} (hJ : CJ M n J) (hj : j < n) {u : Int32} (hu : rg u 0 2 = false) : AF y_LJ_as c_LJ_as 4 (some .int) 3 [vR 2, vI (i3 j), vI u] (M) (some (vI (-2))) (upM M 2 6 0) := by
  have h6 := hJ.1
  have hsj := sh_jar j (by omega)
  refine AF.of k_LJ_as (lo := [some (vR 2), some (vI (i3 j)), some (vI u), none]) rfl (Nat.le_of_ble_eq_true rfl) (fun X hX hR => ?_)
  refine v_aload_n (pc := 0) hX rfl d_LJ_as_0 ?_
  refine g_getR (pc := 1) hX fl_LJ_12 rfl rfl nf_2_0 d_LJ_as_1 ?_
  refine v_iload_n (pc := 4) hX rfl d_LJ_as_4 ?_
  refine f_callV (pc := 5) hX k_Sp_jarAt ki_Sp_jarAt kv_Sp_jarAt ml_LJ_92 (C_Sp_jarAt_in hJ.1 hJ.2.1 hj) rfl rfl rfl rfl rfl (Nat.le_of_ble_eq_true rfl) (Nat.le_of_ble_eq_true rfl) (Nat.le_of_ble_eq_true rfl) d_LJ_as_5 ?_
  refine v_astore_n (pc := 8) (lo' := [some (vR _), some (vI _), some (vI _), some (vR _)]) hX (Nat.le_of_ble_eq_true rfl) rfl d_LJ_as_8 ?_
  refine v_aload_n (pc := 9) hX rfl d_LJ_as_9 ?_
  refine v_ifnonnull (pc := 10) (tgt := 19) hX d_LJ_as_10 rfl (fun h10 => ?_) (fun h10 => False.elim (by have := sh_two (by assumption); omega))
  refine v_iload_n (pc := 19) hX rfl d_LJ_as_19 ?_
  refine v_iconst (pc := 20) (v := 3) hX (by decide) d_LJ_as_20 ?_
  refine f_callS (pc := 21) hX k_LJ_isBelow ks_LJ_isBelow ml_LJ_65 (C_LJ_isBelow) rfl rfl rfl (Nat.le_of_ble_eq_true rfl) (Nat.le_of_ble_eq_true rfl) (Nat.le_of_ble_eq_true rfl) d_LJ_as_21 ?_
  rw [show (3 : Int32).toInt - 1 = 2 from rfl]
  refine f_ifneB (pc := 24) (tgt := 34) hX d_LJ_as_24 rfl (fun h24 => False.elim (by rw [hu] at h24; cases h24)) (fun h24 => ?_)
  refine v_aload_n (pc := 27) hX rfl d_LJ_as_27 ?_
  refine v_bipush (pc := 28) (v := (-2)) hX (by decide) d_LJ_as_28 ?_
  refine f_callV (pc := 30) hX k_LJ_refused ki_LJ_refused kv_LJ_refused ml_LJ_61 (C_LJ_refused) rfl rfl rfl rfl rfl (Nat.le_of_ble_eq_true rfl) (Nat.le_of_ble_eq_true rfl) (Nat.le_of_ble_eq_true rfl) d_LJ_as_30 ?_
  exact f_iret (pc := 33) hX hR (rfl) (rfl) d_LJ_as_33
theorem C_LJ_as_no {M : MM} {n j : Nat} {J : JT} (hJ : CJ M n J) (hj : j < n) {u : Int32} (hu : rg u 0 2 = true) (hk : J j 0 < u) : AF y_LJ_as c_LJ_as 4 (some .int) 3 [vR 2, vI (i3 j), vI u] (M) (some (vI (-12))) (upM M 2 6 2) := by
  have h6 := hJ.1
  have hsj := sh_jar j (by omega)
  refine AF.of k_LJ_as (lo := [some (vR 2), some (vI (i3 j)), some (vI u), none]) rfl (Nat.le_of_ble_eq_true rfl) (fun X hX hR => ?_)
  refine v_aload_n (pc := 0) hX rfl d_LJ_as_0 ?_
  refine g_getR (pc := 1) hX fl_LJ_12 rfl rfl nf_2_0 d_LJ_as_1 ?_
  refine v_iload_n (pc := 4) hX rfl d_LJ_as_4 ?_
  refine f_callV (pc := 5) hX k_Sp_jarAt ki_Sp_jarAt kv_Sp_jarAt ml_LJ_92 (C_Sp_jarAt_in hJ.1 hJ.2.1 hj) rfl rfl rfl rfl rfl (Nat.le_of_ble_eq_true rfl) (Nat.le_of_ble_eq_true rfl) (Nat.le_of_ble_eq_true rfl) d_LJ_as_5 ?_
  refine v_astore_n (pc := 8) (lo' := [some (vR _), some (vI _), some (vI _), some (vR _)]) hX (Nat.le_of_ble_eq_true rfl) rfl d_LJ_as_8 ?_
  refine v_aload_n (pc := 9) hX rfl d_LJ_as_9 ?_
  refine v_ifnonnull (pc := 10) (tgt := 19) hX d_LJ_as_10 rfl (fun h10 => ?_) (fun h10 => False.elim (by have := sh_two (by assumption); omega))
  refine v_iload_n (pc := 19) hX rfl d_LJ_as_19 ?_
  refine v_iconst (pc := 20) (v := 3) hX (by decide) d_LJ_as_20 ?_
  refine f_callS (pc := 21) hX k_LJ_isBelow ks_LJ_isBelow ml_LJ_65 (C_LJ_isBelow) rfl rfl rfl (Nat.le_of_ble_eq_true rfl) (Nat.le_of_ble_eq_true rfl) (Nat.le_of_ble_eq_true rfl) d_LJ_as_21 ?_
  rw [show (3 : Int32).toInt - 1 = 2 from rfl]
  refine f_ifneB (pc := 24) (tgt := 34) hX d_LJ_as_24 rfl (fun h24 => ?_) (fun h24 => False.elim (by rw [hu] at h24; cases h24))
  refine v_aload_n (pc := 34) hX rfl d_LJ_as_34 ?_
  refine g_getI (pc := 35) hX fl_LJ_251 rfl (by assumption) d_LJ_as_35 ?_
  rw [hJ.2.2 j hj 0 (by decide)]
  refine v_iload_n (pc := 38) hX rfl d_LJ_as_38 ?_
  refine v_icmp_ge (pc := 39) (tgt := 48) hX d_LJ_as_39 rfl (fun h39 => False.elim (absurd hk (Int32.not_lt.mpr h39))) (fun h39 => ?_)
  refine v_aload_n (pc := 42) hX rfl d_LJ_as_42 ?_
  refine v_iconst (pc := 43) (v := 2) hX (by decide) d_LJ_as_43 ?_
  refine f_callV (pc := 44) hX k_LJ_failed ki_LJ_failed kv_LJ_failed ml_LJ_73 (C_LJ_failed) rfl rfl rfl rfl rfl (Nat.le_of_ble_eq_true rfl) (Nat.le_of_ble_eq_true rfl) (Nat.le_of_ble_eq_true rfl) d_LJ_as_44 ?_
  exact f_iret (pc := 47) hX hR (rfl) (rfl) d_LJ_as_47
theorem C_LJ_as_ok {M : MM} {n j : Nat} {J : JT} (hJ : CJ M n J) (hj : j < n) {u : Int32} (hu : rg u 0 2 = true) (hk : ¬ J j 0 < u) : AF y_LJ_as c_LJ_as 4 (some .int) 3 [vR 2, vI (i3 j), vI u] (M) (some (vI 1)) (upM M 2 6 0) := by
  have h6 := hJ.1
  have hsj := sh_jar j (by omega)
  refine AF.of k_LJ_as (lo := [some (vR 2), some (vI (i3 j)), some (vI u), none]) rfl (Nat.le_of_ble_eq_true rfl) (fun X hX hR => ?_)
  refine v_aload_n (pc := 0) hX rfl d_LJ_as_0 ?_
  refine g_getR (pc := 1) hX fl_LJ_12 rfl rfl nf_2_0 d_LJ_as_1 ?_
  refine v_iload_n (pc := 4) hX rfl d_LJ_as_4 ?_
  refine f_callV (pc := 5) hX k_Sp_jarAt ki_Sp_jarAt kv_Sp_jarAt ml_LJ_92 (C_Sp_jarAt_in hJ.1 hJ.2.1 hj) rfl rfl rfl rfl rfl (Nat.le_of_ble_eq_true rfl) (Nat.le_of_ble_eq_true rfl) (Nat.le_of_ble_eq_true rfl) d_LJ_as_5 ?_
  refine v_astore_n (pc := 8) (lo' := [some (vR _), some (vI _), some (vI _), some (vR _)]) hX (Nat.le_of_ble_eq_true rfl) rfl d_LJ_as_8 ?_
  refine v_aload_n (pc := 9) hX rfl d_LJ_as_9 ?_
  refine v_ifnonnull (pc := 10) (tgt := 19) hX d_LJ_as_10 rfl (fun h10 => ?_) (fun h10 => False.elim (by have := sh_two (by assumption); omega))
  refine v_iload_n (pc := 19) hX rfl d_LJ_as_19 ?_
  refine v_iconst (pc := 20) (v := 3) hX (by decide) d_LJ_as_20 ?_
  refine f_callS (pc := 21) hX k_LJ_isBelow ks_LJ_isBelow ml_LJ_65 (C_LJ_isBelow) rfl rfl rfl (Nat.le_of_ble_eq_true rfl) (Nat.le_of_ble_eq_true rfl) (Nat.le_of_ble_eq_true rfl) d_LJ_as_21 ?_
  rw [show (3 : Int32).toInt - 1 = 2 from rfl]
  refine f_ifneB (pc := 24) (tgt := 34) hX d_LJ_as_24 rfl (fun h24 => ?_) (fun h24 => False.elim (by rw [hu] at h24; cases h24))
  refine v_aload_n (pc := 34) hX rfl d_LJ_as_34 ?_
  refine g_getI (pc := 35) hX fl_LJ_251 rfl (by assumption) d_LJ_as_35 ?_
  rw [hJ.2.2 j hj 0 (by decide)]
  refine v_iload_n (pc := 38) hX rfl d_LJ_as_38 ?_
  refine v_icmp_ge (pc := 39) (tgt := 48) hX d_LJ_as_39 rfl (fun h39 => ?_) (fun h39 => False.elim (h39 (Int32.not_lt.mp hk)))
  refine v_aload_n (pc := 48) hX rfl d_LJ_as_48 ?_
  refine v_iconst (pc := 49) (v := 0) hX (by decide) d_LJ_as_49 ?_
  refine g_putI (pc := 50) hX fl_LJ_52 rfl (finI rfl rfl) rfl rfl rfl d_LJ_as_50 ?_
  refine v_iconst (pc := 53) (v := 1) hX (by decide) d_LJ_as_53 ?_
  exact f_iret (pc := 54) hX hR (rfl) (rfl) d_LJ_as_54
theorem d_LJ_trace_0 : decode c_LJ_trace 0 = .ok (.aload_n 0, 1) := by decide +kernel
theorem d_LJ_trace_1 : decode c_LJ_trace 1 = .ok (.getfield 42, 3) := by decide +kernel
theorem d_LJ_trace_4 : decode c_LJ_trace 4 = .ok (.getfield 271, 3) := by decide +kernel
theorem d_LJ_trace_7 : decode c_LJ_trace 7 = .ok (.ireturn, 1) := by decide +kernel
theorem C_LJ_trace {M : MM} : AF y_LJ_trace c_LJ_trace 1 (some .int) 1 [vR 2] (M) (some (vI (M 26 0))) (M) := by
  refine AF.of k_LJ_trace (lo := [some (vR 2)]) rfl (Nat.le_of_ble_eq_true rfl) (fun X hX hR => ?_)
  refine v_aload_n (pc := 0) hX rfl d_LJ_trace_0 ?_
  refine g_getR (pc := 1) hX fl_LJ_42 rfl rfl nf_2_4 d_LJ_trace_1 ?_
  refine g_getI (pc := 4) hX fl_LJ_271 rfl rfl d_LJ_trace_4 ?_
  exact f_iret (pc := 7) hX hR (rfl) (rfl) d_LJ_trace_7
theorem d_LJ_fault_0 : decode c_LJ_fault 0 = .ok (.aload_n 0, 1) := by decide +kernel
theorem d_LJ_fault_1 : decode c_LJ_fault 1 = .ok (.getfield 52, 3) := by decide +kernel
theorem d_LJ_fault_4 : decode c_LJ_fault 4 = .ok (.ireturn, 1) := by decide +kernel
theorem C_LJ_fault {M : MM} : AF y_LJ_fault c_LJ_fault 1 (some .int) 1 [vR 2] (M) (some (vI (M 2 6))) (M) := by
  refine AF.of k_LJ_fault (lo := [some (vR 2)]) rfl (Nat.le_of_ble_eq_true rfl) (fun X hX hR => ?_)
  refine v_aload_n (pc := 0) hX rfl d_LJ_fault_0 ?_
  refine g_getI (pc := 1) hX fl_LJ_52 rfl rfl d_LJ_fault_1 ?_
  exact f_iret (pc := 4) hX hR (rfl) (rfl) d_LJ_fault_4
def mnN (J : JT) (n nd rc : Nat) (w : Int32) : Int32 := if w = 0 then i3 n else if w = 1 then i3 nd else if w = 2 then hvS J n else if w = 3 then i3 rc else -2
theorem d_LJ_many_0 : decode c_LJ_many 0 = .ok (.iload_n 1, 1) := by decide +kernel
theorem d_LJ_many_1 : decode c_LJ_many 1 = .ok (.tableswitch 63 0 3 #[31, 39, 47, 55], 31) := by decide +kernel
theorem d_LJ_many_32 : decode c_LJ_many 32 = .ok (.aload_n 0, 1) := by decide +kernel
theorem d_LJ_many_33 : decode c_LJ_many 33 = .ok (.getfield 12, 3) := by decide +kernel
theorem d_LJ_many_36 : decode c_LJ_many 36 = .ok (.getfield 89, 3) := by decide +kernel
theorem d_LJ_many_39 : decode c_LJ_many 39 = .ok (.ireturn, 1) := by decide +kernel
theorem d_LJ_many_40 : decode c_LJ_many 40 = .ok (.aload_n 0, 1) := by decide +kernel
theorem d_LJ_many_41 : decode c_LJ_many 41 = .ok (.getfield 12, 3) := by decide +kernel
theorem d_LJ_many_44 : decode c_LJ_many 44 = .ok (.getfield 274, 3) := by decide +kernel
theorem d_LJ_many_47 : decode c_LJ_many 47 = .ok (.ireturn, 1) := by decide +kernel
theorem d_LJ_many_48 : decode c_LJ_many 48 = .ok (.aload_n 0, 1) := by decide +kernel
theorem d_LJ_many_49 : decode c_LJ_many 49 = .ok (.getfield 12, 3) := by decide +kernel
theorem d_LJ_many_52 : decode c_LJ_many 52 = .ok (.invokevirtual 277, 3) := by decide +kernel
theorem d_LJ_many_55 : decode c_LJ_many 55 = .ok (.ireturn, 1) := by decide +kernel
theorem d_LJ_many_56 : decode c_LJ_many 56 = .ok (.aload_n 0, 1) := by decide +kernel
theorem d_LJ_many_57 : decode c_LJ_many 57 = .ok (.getfield 35, 3) := by decide +kernel
theorem d_LJ_many_60 : decode c_LJ_many 60 = .ok (.getfield 86, 3) := by decide +kernel
theorem d_LJ_many_63 : decode c_LJ_many 63 = .ok (.ireturn, 1) := by decide +kernel
theorem d_LJ_many_64 : decode c_LJ_many 64 = .ok (.bipush (-2), 2) := by decide +kernel
theorem d_LJ_many_66 : decode c_LJ_many 66 = .ok (.ireturn, 1) := by decide +kernel
theorem C_LJ_many {M : MM} {n nd rc : Nat} {J B : JT} {x : Int32} (hJ : CJ M n J) (hB : CB M nd B) (hM : M 22 3 = i3 rc) : AF y_LJ_many c_LJ_many 2 (some .int) 2 [vR 2, vI x] (M) (some (vI (mnN J n nd rc x))) (M) := by
  refine AF.of k_LJ_many (lo := [some (vR 2), some (vI x)]) rfl (Nat.le_of_ble_eq_true rfl) (fun X hX hR => ?_)
  refine v_iload_n (pc := 0) hX rfl d_LJ_many_0 ?_
  refine v_top (fun y1 q1 => ?_)
  by_cases e1_0 : y1 = 0
  · refine v_tabIn (pc := 1) (tgt := 32) (off := 31) (y := 0) hX e1_0 d_LJ_many_1 (by decide) (by decide) (by decide) rfl ?_
    refine v_aload_n (pc := 32) hX rfl d_LJ_many_32 ?_
    refine g_getR (pc := 33) hX fl_LJ_12 rfl rfl nf_2_0 d_LJ_many_33 ?_
    refine g_getI (pc := 36) hX fl_LJ_89 rfl rfl d_LJ_many_36 ?_
    exact f_iret (pc := 39) hX hR (by unfold mnN; subst q1; rw [if_pos e1_0]; exact hJ.2.1) (rfl) d_LJ_many_39
  by_cases e1_1 : y1 = 1
  · refine v_tabIn (pc := 1) (tgt := 40) (off := 39) (y := 1) hX e1_1 d_LJ_many_1 (by decide) (by decide) (by decide) rfl ?_
    refine v_aload_n (pc := 40) hX rfl d_LJ_many_40 ?_
    refine g_getR (pc := 41) hX fl_LJ_12 rfl rfl nf_2_0 d_LJ_many_41 ?_
    refine g_getI (pc := 44) hX fl_LJ_274 rfl rfl d_LJ_many_44 ?_
    exact f_iret (pc := 47) hX hR (by unfold mnN; subst q1; rw [if_neg e1_0, if_pos e1_1]; exact hB.2.1) (rfl) d_LJ_many_47
  by_cases e1_2 : y1 = 2
  · refine v_tabIn (pc := 1) (tgt := 48) (off := 47) (y := 2) hX e1_2 d_LJ_many_1 (by decide) (by decide) (by decide) rfl ?_
    refine v_aload_n (pc := 48) hX rfl d_LJ_many_48 ?_
    refine g_getR (pc := 49) hX fl_LJ_12 rfl rfl nf_2_0 d_LJ_many_49 ?_
    refine f_callV (pc := 52) hX k_Sp_allHalves ki_Sp_allHalves kv_Sp_allHalves ml_LJ_277 (C_Sp_allHalves hJ) rfl rfl rfl rfl rfl (Nat.le_of_ble_eq_true rfl) (Nat.le_of_ble_eq_true rfl) (Nat.le_of_ble_eq_true rfl) d_LJ_many_52 ?_
    exact f_iret (pc := 55) hX hR (by unfold mnN; subst q1; rw [if_neg e1_0, if_neg e1_1, if_pos e1_2]) (rfl) d_LJ_many_55
  by_cases e1_3 : y1 = 3
  · refine v_tabIn (pc := 1) (tgt := 56) (off := 55) (y := 3) hX e1_3 d_LJ_many_1 (by decide) (by decide) (by decide) rfl ?_
    refine v_aload_n (pc := 56) hX rfl d_LJ_many_56 ?_
    refine g_getR (pc := 57) hX fl_LJ_35 rfl rfl nf_2_3 d_LJ_many_57 ?_
    refine g_getI (pc := 60) hX fl_LJ_86 rfl rfl d_LJ_many_60 ?_
    exact f_iret (pc := 63) hX hR (by unfold mnN; subst q1; rw [if_neg e1_0, if_neg e1_1, if_neg e1_2, if_pos e1_3]; exact hM) (rfl) d_LJ_many_63
  refine v_tabOut (pc := 1) (tgt := 64) hX d_LJ_many_1 (by simp only [eq32, q_0, q_1, q_2, q_3, q_4, q_5, q_6, q_7, q_8, q_9, q_10, q_11, q_12, q_15, q_16, q_20, q_21, q_23, q_24, q_29, q_31, q_44, q_48, q_59, q_60, q_61, q_63, q_99, q_100, q_108, q_112, q_116, q_119, q_240, q_m1, q_m9] at e1_0 e1_1 e1_2 e1_3; omega) rfl ?_
  refine v_bipush (pc := 64) (v := (-2)) hX (by decide) d_LJ_many_64 ?_
  exact f_iret (pc := 66) hX hR (by unfold mnN; subst q1; rw [if_neg e1_0, if_neg e1_1, if_neg e1_2, if_neg e1_3]) (rfl) d_LJ_many_66
