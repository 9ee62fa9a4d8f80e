/-! Jars and deciders. -/
-- what a jar's mark is
def lfM (su fa t : Int32) : Int32 := if 0 < su - fa * t then su - fa * t else 0
def mkA (kd t : Int32) : Int32 := if kd = 0 then t else t - 1
def mkW (kd su fa t : Int32) : Int32 := if mkA kd t < 0 then 0 else lfM su fa (mkA kd t)
def mkM (kd su fa t : Int32) : Int32 := if kd = 2 then mkW kd su fa t / 2 else mkW kd su fa t
def fmax (f : Nat → Int32) : Nat → Int32
  | 0 => 0
  | k + 1 => if fmax f k < f k then f k else fmax f k
def gtM (kd su fa : Int32) : Int32 := fmax (fun k => mkM kd su fa (i3 k)) 10
def jpart (f : Nat → Int32) (w : Int32) : Int32 := if w = 0 then f 0 else if w = 1 then f 1 else if w = 2 then f 2 else if w = 3 then f 3 else if w = 4 then f 4 else if w = 5 then gtM (f 0) (f 1) (f 2) else -2
def dpart (f : Nat → Int32) (w : Int32) : Int32 := if w = 0 then f 0 else if w = 1 then f 1 else if w = 2 then f 2 else if w = 3 then f 3 else -2
theorem i3_ge_abs {k n : Nat} (h : k < n) (hn : n ≤ 1000) (hc : i3 n ≤ i3 k) : False := by
  have := (i3_le (by omega) (by omega)).mp hc
  omega
theorem d_LJ_isBelow_0 : decode c_LJ_isBelow 0 = .ok (.iload_n 0, 1) := by decide +kernel
theorem d_LJ_isBelow_1 : decode c_LJ_isBelow 1 = .ok (.ifCond .lt 12, 3) := by decide +kernel
theorem d_LJ_isBelow_4 : decode c_LJ_isBelow 4 = .ok (.iload_n 0, 1) := by decide +kernel
theorem d_LJ_isBelow_5 : decode c_LJ_isBelow 5 = .ok (.iload_n 1, 1) := by decide +kernel
theorem d_LJ_isBelow_6 : decode c_LJ_isBelow 6 = .ok (.if_icmp .ge 7, 3) := by decide +kernel
theorem d_LJ_isBelow_9 : decode c_LJ_isBelow 9 = .ok (.iconst 1, 1) := by decide +kernel
theorem d_LJ_isBelow_10 : decode c_LJ_isBelow 10 = .ok (.goto 4, 3) := by decide +kernel
theorem d_LJ_isBelow_13 : decode c_LJ_isBelow 13 = .ok (.iconst 0, 1) := by decide +kernel
theorem d_LJ_isBelow_14 : decode c_LJ_isBelow 14 = .ok (.ireturn, 1) := by decide +kernel
theorem C_LJ_isBelow {M : MM} {v e : Int32} : AF y_LJ_isBelow c_LJ_isBelow 2 (some .boolean) 1 [vI v, vI e] (M) (some (vI (bI (rg v 0 (e.toInt - 1))))) (M) := by
  refine AF.of k_LJ_isBelow (lo := [some (vI v), some (vI e)]) rfl (Nat.le_of_ble_eq_true rfl) (fun X hX hR => ?_)
  refine v_iload_n (pc := 0) hX rfl d_LJ_isBelow_0 ?_
  refine v_if_lt (pc := 1) (tgt := 13) hX d_LJ_isBelow_1 rfl (fun h1 => ?_) (fun h1 => ?_)
  · refine v_iconst (pc := 13) (v := 0) hX (by decide) d_LJ_isBelow_13 ?_
    exact f_zret (pc := 14) hX hR (by first | exact rgF (by simp only [lt32, le32, eq32, q_0, q_1, q_2, q_3, q_4, q_5, q_6, q_7, q_8, q_9, q_10, q_11, q_12, q_15, q_16, q_20, q_21, q_23, q_24, q_29, q_31, q_44, q_48, q_59, q_60, q_61, q_63, q_99, q_100, q_108, q_112, q_116, q_119, q_240, q_m1, q_m9] at *; omega) | exact rgT (by simp only [lt32, le32, eq32, q_0, q_1, q_2, q_3, q_4, q_5, q_6, q_7, q_8, q_9, q_10, q_11, q_12, q_15, q_16, q_20, q_21, q_23, q_24, q_29, q_31, q_44, q_48, q_59, q_60, q_61, q_63, q_99, q_100, q_108, q_112, q_116, q_119, q_240, q_m1, q_m9] at *; omega)) (rfl) d_LJ_isBelow_14
  · refine v_iload_n (pc := 4) hX rfl d_LJ_isBelow_4 ?_
    refine v_iload_n (pc := 5) hX rfl d_LJ_isBelow_5 ?_
    refine v_icmp_ge (pc := 6) (tgt := 13) hX d_LJ_isBelow_6 rfl (fun h6 => ?_) (fun h6 => ?_)
    · refine v_iconst (pc := 13) (v := 0) hX (by decide) d_LJ_isBelow_13 ?_
      exact f_zret (pc := 14) hX hR (by first | exact rgF (by simp only [lt32, le32, eq32, q_0, q_1, q_2, q_3, q_4, q_5, q_6, q_7, q_8, q_9, q_10, q_11, q_12, q_15, q_16, q_20, q_21, q_23, q_24, q_29, q_31, q_44, q_48, q_59, q_60, q_61, q_63, q_99, q_100, q_108, q_112, q_116, q_119, q_240, q_m1, q_m9] at *; omega) | exact rgT (by simp only [lt32, le32, eq32, q_0, q_1, q_2, q_3, q_4, q_5, q_6, q_7, q_8, q_9, q_10, q_11, q_12, q_15, q_16, q_20, q_21, q_23, q_24, q_29, q_31, q_44, q_48, q_59, q_60, q_61, q_63, q_99, q_100, q_108, q_112, q_116, q_119, q_240, q_m1, q_m9] at *; omega)) (rfl) d_LJ_isBelow_14
    · refine v_iconst (pc := 9) (v := 1) hX (by decide) d_LJ_isBelow_9 ?_
      refine v_goto (pc := 10) (tgt := 14) hX d_LJ_isBelow_10 rfl ?_
      exact f_zret (pc := 14) hX hR (by first | exact rgF (by simp only [lt32, le32, eq32, q_0, q_1, q_2, q_3, q_4, q_5, q_6, q_7, q_8, q_9, q_10, q_11, q_12, q_15, q_16, q_20, q_21, q_23, q_24, q_29, q_31, q_44, q_48, q_59, q_60, q_61, q_63, q_99, q_100, q_108, q_112, q_116, q_119, q_240, q_m1, q_m9] at *; omega) | exact rgT (by simp only [lt32, le32, eq32, q_0, q_1, q_2, q_3, q_4, q_5, q_6, q_7, q_8, q_9, q_10, q_11, q_12, q_15, q_16, q_20, q_21, q_23, q_24, q_29, q_31, q_44, q_48, q_59, q_60, q_61, q_63, q_99, q_100, q_108, q_112, q_116, q_119, q_240, q_m1, q_m9] at *; omega)) (rfl) d_LJ_isBelow_14
theorem d_Ja_markIn_0 : decode c_Ja_markIn 0 = .ok (.aload_n 0, 1) := by decide +kernel
theorem d_Ja_markIn_1 : decode c_Ja_markIn 1 = .ok (.getfield 9, 3) := by decide +kernel
theorem d_Ja_markIn_4 : decode c_Ja_markIn 4 = .ok (.ifCond .ne 7, 3) := by decide +kernel
theorem d_Ja_markIn_7 : decode c_Ja_markIn 7 = .ok (.iload_n 1, 1) := by decide +kernel
theorem d_Ja_markIn_8 : decode c_Ja_markIn 8 = .ok (.goto 6, 3) := by decide +kernel
theorem d_Ja_markIn_11 : decode c_Ja_markIn 11 = .ok (.iload_n 1, 1) := by decide +kernel
theorem d_Ja_markIn_12 : decode c_Ja_markIn 12 = .ok (.iconst 1, 1) := by decide +kernel
theorem d_Ja_markIn_13 : decode c_Ja_markIn 13 = .ok (.isub, 1) := by decide +kernel
theorem d_Ja_markIn_14 : decode c_Ja_markIn 14 = .ok (.istore_n 2, 1) := by decide +kernel
theorem d_Ja_markIn_15 : decode c_Ja_markIn 15 = .ok (.iload_n 2, 1) := by decide +kernel
theorem d_Ja_markIn_16 : decode c_Ja_markIn 16 = .ok (.ifCond .ge 7, 3) := by decide +kernel
theorem d_Ja_markIn_19 : decode c_Ja_markIn 19 = .ok (.iconst 0, 1) := by decide +kernel
theorem d_Ja_markIn_20 : decode c_Ja_markIn 20 = .ok (.goto 18, 3) := by decide +kernel
theorem d_Ja_markIn_23 : decode c_Ja_markIn 23 = .ok (.iconst 0, 1) := by decide +kernel
theorem d_Ja_markIn_24 : decode c_Ja_markIn 24 = .ok (.aload_n 0, 1) := by decide +kernel
theorem d_Ja_markIn_25 : decode c_Ja_markIn 25 = .ok (.getfield 15, 3) := by decide +kernel
theorem d_Ja_markIn_28 : decode c_Ja_markIn 28 = .ok (.aload_n 0, 1) := by decide +kernel
theorem d_Ja_markIn_29 : decode c_Ja_markIn 29 = .ok (.getfield 18, 3) := by decide +kernel
theorem d_Ja_markIn_32 : decode c_Ja_markIn 32 = .ok (.iload_n 2, 1) := by decide +kernel
theorem d_Ja_markIn_33 : decode c_Ja_markIn 33 = .ok (.imul, 1) := by decide +kernel
theorem d_Ja_markIn_34 : decode c_Ja_markIn 34 = .ok (.isub, 1) := by decide +kernel
theorem d_Ja_markIn_35 : decode c_Ja_markIn 35 = .ok (.invokestatic 31, 3) := by decide +kernel
theorem d_Ja_markIn_38 : decode c_Ja_markIn 38 = .ok (.istore_n 3, 1) := by decide +kernel
theorem d_Ja_markIn_39 : decode c_Ja_markIn 39 = .ok (.aload_n 0, 1) := by decide +kernel
theorem d_Ja_markIn_40 : decode c_Ja_markIn 40 = .ok (.getfield 9, 3) := by decide +kernel
theorem d_Ja_markIn_43 : decode c_Ja_markIn 43 = .ok (.iconst 2, 1) := by decide +kernel
theorem d_Ja_markIn_44 : decode c_Ja_markIn 44 = .ok (.if_icmp .ne 9, 3) := by decide +kernel
theorem d_Ja_markIn_47 : decode c_Ja_markIn 47 = .ok (.iload_n 3, 1) := by decide +kernel
theorem d_Ja_markIn_48 : decode c_Ja_markIn 48 = .ok (.iconst 2, 1) := by decide +kernel
theorem d_Ja_markIn_49 : decode c_Ja_markIn 49 = .ok (.idiv, 1) := by decide +kernel
theorem d_Ja_markIn_50 : decode c_Ja_markIn 50 = .ok (.goto 4, 3) := by decide +kernel
theorem d_Ja_markIn_53 : decode c_Ja_markIn 53 = .ok (.iload_n 3, 1) := by decide +kernel
theorem d_Ja_markIn_54 : decode c_Ja_markIn 54 = .ok (.ireturn, 1) := by decide +kernel
theorem C_Ja_markIn {M : MM} {r : Nat} {t : Int32} (hr : SH[r]? = some (0, 1)) : AF y_Ja_markIn c_Ja_markIn 4 (some .int) 1 [vR r, vI t] (M) (some (vI (mkM (M r 0) (M r 1) (M r 2) t))) (M) := by
  refine AF.of k_Ja_markIn (lo := [some (vR r), some (vI t), none, none]) rfl (Nat.le_of_ble_eq_true rfl) (fun X hX hR => ?_)
  refine v_aload_n (pc := 0) hX rfl d_Ja_markIn_0 ?_
  refine g_getI (pc := 1) hX fl_Ja_9 rfl (by assumption) d_Ja_markIn_1 ?_
  refine v_if_ne (pc := 4) (tgt := 11) hX d_Ja_markIn_4 rfl (fun h4 => ?_) (fun h4 => ?_)
  · have ea : mkA (M r 0) t = t - 1 := if_neg h4
    refine v_iload_n (pc := 11) hX rfl d_Ja_markIn_11 ?_
    refine v_iconst (pc := 12) (v := 1) hX (by decide) d_Ja_markIn_12 ?_
    refine v_isub (pc := 13) hX d_Ja_markIn_13 ?_
    refine v_istore_n (pc := 14) (lo' := [some (vR _), some (vI _), some (vI _), none]) hX (Nat.le_of_ble_eq_true rfl) rfl d_Ja_markIn_14 ?_
    refine v_iload_n (pc := 15) hX rfl d_Ja_markIn_15 ?_
    refine v_if_ge (pc := 16) (tgt := 23) hX d_Ja_markIn_16 rfl (fun h16 => ?_) (fun h16 => ?_)
    · have ew : mkW (M r 0) (M r 1) (M r 2) t = lfM (M r 1) (M r 2) (mkA (M r 0) t) := if_neg (by rw [ea]; exact Int32.not_lt.mpr h16)
      rw [ea] at ew
      refine v_iconst (pc := 23) (v := 0) hX (by decide) d_Ja_markIn_23 ?_
      refine v_aload_n (pc := 24) hX rfl d_Ja_markIn_24 ?_
      refine g_getI (pc := 25) hX fl_Ja_15 rfl (by assumption) d_Ja_markIn_25 ?_
      refine v_aload_n (pc := 28) hX rfl d_Ja_markIn_28 ?_
      refine g_getI (pc := 29) hX fl_Ja_18 rfl (by assumption) d_Ja_markIn_29 ?_
      refine v_iload_n (pc := 32) hX rfl d_Ja_markIn_32 ?_
      refine v_imul (pc := 33) hX d_Ja_markIn_33 ?_
      refine v_isub (pc := 34) hX d_Ja_markIn_34 ?_
      refine g_max (pc := 35) hX ml_Ja_31 rfl (Nat.le_of_ble_eq_true rfl) (Nat.le_of_ble_eq_true rfl) d_Ja_markIn_35 ?_
      refine v_istore_n (pc := 38) (lo' := [some (vR _), some (vI _), some (vI _), some (vI _)]) hX (Nat.le_of_ble_eq_true rfl) rfl d_Ja_markIn_38 ?_
      refine v_aload_n (pc := 39) hX rfl d_Ja_markIn_39 ?_
      refine g_getI (pc := 40) hX fl_Ja_9 rfl (by assumption) d_Ja_markIn_40 ?_
      refine v_iconst (pc := 43) (v := 2) hX (by decide) d_Ja_markIn_43 ?_
      refine v_icmp_ne (pc := 44) (tgt := 53) hX d_Ja_markIn_44 rfl (fun h44 => ?_) (fun h44 => ?_)
      · refine v_iload_n (pc := 53) hX rfl d_Ja_markIn_53 ?_
        exact f_iret (pc := 54) hX hR (by first | exact ew.symm.trans (if_neg h44).symm | exact (congrArg (fun x : Int32 => x / 2) ew).symm.trans (if_pos h44).symm) (rfl) d_Ja_markIn_54
      · refine v_iload_n (pc := 47) hX rfl d_Ja_markIn_47 ?_
        refine v_iconst (pc := 48) (v := 2) hX (by decide) d_Ja_markIn_48 ?_
        refine v_idiv (pc := 49) hX (by decide) d_Ja_markIn_49 ?_
        refine v_goto (pc := 50) (tgt := 54) hX d_Ja_markIn_50 rfl ?_
        exact f_iret (pc := 54) hX hR (by first | exact ew.symm.trans (if_neg h44).symm | exact (congrArg (fun x : Int32 => x / 2) ew).symm.trans (if_pos h44).symm) (rfl) d_Ja_markIn_54
    · have ew : mkW (M r 0) (M r 1) (M r 2) t = 0 := if_pos (by rw [ea]; exact Int32.not_le.mp h16)
      refine v_iconst (pc := 19) (v := 0) hX (by decide) d_Ja_markIn_19 ?_
      refine v_goto (pc := 20) (tgt := 38) hX d_Ja_markIn_20 rfl ?_
      refine v_istore_n (pc := 38) (lo' := [some (vR _), some (vI _), some (vI _), some (vI _)]) hX (Nat.le_of_ble_eq_true rfl) rfl d_Ja_markIn_38 ?_
      refine v_aload_n (pc := 39) hX rfl d_Ja_markIn_39 ?_
      refine g_getI (pc := 40) hX fl_Ja_9 rfl (by assumption) d_Ja_markIn_40 ?_
      refine v_iconst (pc := 43) (v := 2) hX (by decide) d_Ja_markIn_43 ?_
      refine v_icmp_ne (pc := 44) (tgt := 53) hX d_Ja_markIn_44 rfl (fun h44 => ?_) (fun h44 => ?_)
      · refine v_iload_n (pc := 53) hX rfl d_Ja_markIn_53 ?_
        exact f_iret (pc := 54) hX hR (by first | exact ew.symm.trans (if_neg h44).symm | exact (congrArg (fun x : Int32 => x / 2) ew).symm.trans (if_pos h44).symm) (rfl) d_Ja_markIn_54
      · refine v_iload_n (pc := 47) hX rfl d_Ja_markIn_47 ?_
        refine v_iconst (pc := 48) (v := 2) hX (by decide) d_Ja_markIn_48 ?_
        refine v_idiv (pc := 49) hX (by decide) d_Ja_markIn_49 ?_
        refine v_goto (pc := 50) (tgt := 54) hX d_Ja_markIn_50 rfl ?_
        exact f_iret (pc := 54) hX hR (by first | exact ew.symm.trans (if_neg h44).symm | exact (congrArg (fun x : Int32 => x / 2) ew).symm.trans (if_pos h44).symm) (rfl) d_Ja_markIn_54
  · have ea : mkA (M r 0) t = t := if_pos h4
    refine v_iload_n (pc := 7) hX rfl d_Ja_markIn_7 ?_
    refine v_goto (pc := 8) (tgt := 14) hX d_Ja_markIn_8 rfl ?_
    refine v_istore_n (pc := 14) (lo' := [some (vR _), some (vI _), some (vI _), none]) hX (Nat.le_of_ble_eq_true rfl) rfl d_Ja_markIn_14 ?_
    refine v_iload_n (pc := 15) hX rfl d_Ja_markIn_15 ?_
    refine v_if_ge (pc := 16) (tgt := 23) hX d_Ja_markIn_16 rfl (fun h16 => ?_) (fun h16 => ?_)
    · have ew : mkW (M r 0) (M r 1) (M r 2) t = lfM (M r 1) (M r 2) (mkA (M r 0) t) := if_neg (by rw [ea]; exact Int32.not_lt.mpr h16)
      rw [ea] at ew
      refine v_iconst (pc := 23) (v := 0) hX (by decide) d_Ja_markIn_23 ?_
      refine v_aload_n (pc := 24) hX rfl d_Ja_markIn_24 ?_
      refine g_getI (pc := 25) hX fl_Ja_15 rfl (by assumption) d_Ja_markIn_25 ?_
      refine v_aload_n (pc := 28) hX rfl d_Ja_markIn_28 ?_
      refine g_getI (pc := 29) hX fl_Ja_18 rfl (by assumption) d_Ja_markIn_29 ?_
      refine v_iload_n (pc := 32) hX rfl d_Ja_markIn_32 ?_
      refine v_imul (pc := 33) hX d_Ja_markIn_33 ?_
      refine v_isub (pc := 34) hX d_Ja_markIn_34 ?_
      refine g_max (pc := 35) hX ml_Ja_31 rfl (Nat.le_of_ble_eq_true rfl) (Nat.le_of_ble_eq_true rfl) d_Ja_markIn_35 ?_
      refine v_istore_n (pc := 38) (lo' := [some (vR _), some (vI _), some (vI _), some (vI _)]) hX (Nat.le_of_ble_eq_true rfl) rfl d_Ja_markIn_38 ?_
      refine v_aload_n (pc := 39) hX rfl d_Ja_markIn_39 ?_
      refine g_getI (pc := 40) hX fl_Ja_9 rfl (by assumption) d_Ja_markIn_40 ?_
      refine v_iconst (pc := 43) (v := 2) hX (by decide) d_Ja_markIn_43 ?_
      refine v_icmp_ne (pc := 44) (tgt := 53) hX d_Ja_markIn_44 rfl (fun h44 => ?_) (fun h44 => ?_)
      · refine v_iload_n (pc := 53) hX rfl d_Ja_markIn_53 ?_
        exact f_iret (pc := 54) hX hR (by first | exact ew.symm.trans (if_neg h44).symm | exact (congrArg (fun x : Int32 => x / 2) ew).symm.trans (if_pos h44).symm) (rfl) d_Ja_markIn_54
      · refine v_iload_n (pc := 47) hX rfl d_Ja_markIn_47 ?_
        refine v_iconst (pc := 48) (v := 2) hX (by decide) d_Ja_markIn_48 ?_
        refine v_idiv (pc := 49) hX (by decide) d_Ja_markIn_49 ?_
        refine v_goto (pc := 50) (tgt := 54) hX d_Ja_markIn_50 rfl ?_
        exact f_iret (pc := 54) hX hR (by first | exact ew.symm.trans (if_neg h44).symm | exact (congrArg (fun x : Int32 => x / 2) ew).symm.trans (if_pos h44).symm) (rfl) d_Ja_markIn_54
    · have ew : mkW (M r 0) (M r 1) (M r 2) t = 0 := if_pos (by rw [ea]; exact Int32.not_le.mp h16)
      refine v_iconst (pc := 19) (v := 0) hX (by decide) d_Ja_markIn_19 ?_
      refine v_goto (pc := 20) (tgt := 38) hX d_Ja_markIn_20 rfl ?_
      refine v_istore_n (pc := 38) (lo' := [some (vR _), some (vI _), some (vI _), some (vI _)]) hX (Nat.le_of_ble_eq_true rfl) rfl d_Ja_markIn_38 ?_
      refine v_aload_n (pc := 39) hX rfl d_Ja_markIn_39 ?_
      refine g_getI (pc := 40) hX fl_Ja_9 rfl (by assumption) d_Ja_markIn_40 ?_
      refine v_iconst (pc := 43) (v := 2) hX (by decide) d_Ja_markIn_43 ?_
      refine v_icmp_ne (pc := 44) (tgt := 53) hX d_Ja_markIn_44 rfl (fun h44 => ?_) (fun h44 => ?_)
      · refine v_iload_n (pc := 53) hX rfl d_Ja_markIn_53 ?_
        exact f_iret (pc := 54) hX hR (by first | exact ew.symm.trans (if_neg h44).symm | exact (congrArg (fun x : Int32 => x / 2) ew).symm.trans (if_pos h44).symm) (rfl) d_Ja_markIn_54
      · refine v_iload_n (pc := 47) hX rfl d_Ja_markIn_47 ?_
        refine v_iconst (pc := 48) (v := 2) hX (by decide) d_Ja_markIn_48 ?_
        refine v_idiv (pc := 49) hX (by decide) d_Ja_markIn_49 ?_
        refine v_goto (pc := 50) (tgt := 54) hX d_Ja_markIn_50 rfl ?_
        exact f_iret (pc := 54) hX hR (by first | exact ew.symm.trans (if_neg h44).symm | exact (congrArg (fun x : Int32 => x / 2) ew).symm.trans (if_pos h44).symm) (rfl) d_Ja_markIn_54
theorem d_Ja_greatest_0 : decode c_Ja_greatest 0 = .ok (.iconst 0, 1) := by decide +kernel
theorem d_Ja_greatest_1 : decode c_Ja_greatest 1 = .ok (.istore_n 1, 1) := by decide +kernel
theorem d_Ja_greatest_2 : decode c_Ja_greatest 2 = .ok (.iconst 0, 1) := by decide +kernel
theorem d_Ja_greatest_3 : decode c_Ja_greatest 3 = .ok (.istore_n 2, 1) := by decide +kernel
theorem d_Ja_greatest_4 : decode c_Ja_greatest 4 = .ok (.iload_n 2, 1) := by decide +kernel
theorem d_Ja_greatest_5 : decode c_Ja_greatest 5 = .ok (.bipush 10, 2) := by decide +kernel
theorem d_Ja_greatest_7 : decode c_Ja_greatest 7 = .ok (.if_icmp .ge 19, 3) := by decide +kernel
theorem d_Ja_greatest_10 : decode c_Ja_greatest 10 = .ok (.iload_n 1, 1) := by decide +kernel
theorem d_Ja_greatest_11 : decode c_Ja_greatest 11 = .ok (.aload_n 0, 1) := by decide +kernel
theorem d_Ja_greatest_12 : decode c_Ja_greatest 12 = .ok (.iload_n 2, 1) := by decide +kernel
theorem d_Ja_greatest_13 : decode c_Ja_greatest 13 = .ok (.invokevirtual 37, 3) := by decide +kernel
theorem d_Ja_greatest_16 : decode c_Ja_greatest 16 = .ok (.invokestatic 31, 3) := by decide +kernel
theorem d_Ja_greatest_19 : decode c_Ja_greatest 19 = .ok (.istore_n 1, 1) := by decide +kernel
theorem d_Ja_greatest_20 : decode c_Ja_greatest 20 = .ok (.iinc 2 1, 3) := by decide +kernel
theorem d_Ja_greatest_23 : decode c_Ja_greatest 23 = .ok (.goto (-19), 3) := by decide +kernel
theorem d_Ja_greatest_26 : decode c_Ja_greatest 26 = .ok (.iload_n 1, 1) := by decide +kernel
theorem d_Ja_greatest_27 : decode c_Ja_greatest 27 = .ok (.ireturn, 1) := by decide +kernel
theorem C_Ja_greatest {M : MM} {r : Nat} (hr : SH[r]? = some (0, 1)) : AF y_Ja_greatest c_Ja_greatest 3 (some .int) 2 [vR r] (M) (some (vI (gtM (M r 0) (M r 1) (M r 2)))) (M) := by
  refine AF.of k_Ja_greatest (lo := [some (vR r), none, none]) rfl (Nat.le_of_ble_eq_true rfl) (fun X hX hR => ?_)
  refine v_iconst (pc := 0) (v := 0) hX (by decide) d_Ja_greatest_0 ?_
  refine v_istore_n (pc := 1) (lo' := [some (vR _), some (vI _), none]) hX (Nat.le_of_ble_eq_true rfl) rfl d_Ja_greatest_1 ?_
  refine v_iconst (pc := 2) (v := 0) hX (by decide) d_Ja_greatest_2 ?_
  refine v_istore_n (pc := 3) (lo' := [some (vR _), some (vI _), some (vI _)]) hX (Nat.le_of_ble_eq_true rfl) rfl d_Ja_greatest_3 ?_
  refine VW.cast (lo' := [some (vR r), some (vI (fmax (fun k => mkM (M r 0) (M r 1) (M r 2) (i3 k)) 0)), some (vI (i3 0))]) (st' := []) (G' := gM (M)) rfl rfl rfl ?_
  refine v_for (X := X) (head := 4) (10) (fun kk => [some (vR r), some (vI (fmax (fun k => mkM (M r 0) (M r 1) (M r 2) (i3 k)) kk)), some (vI (i3 kk))]) (fun kk => M) (fun k hk ih4 => ?_) ?_
  · show VW X 4 [some (vR r), some (vI (fmax (fun k => mkM (M r 0) (M r 1) (M r 2) (i3 k)) k)), some (vI (i3 k))] [] (gM (M))
    refine v_iload_n (pc := 4) hX rfl d_Ja_greatest_4 ?_
    refine v_bipush (pc := 5) (v := 10) hX (by decide) d_Ja_greatest_5 ?_
    refine v_icmp_ge (pc := 7) (tgt := 26) hX d_Ja_greatest_7 rfl (fun h7 => False.elim (i3_ge_abs (n := 10) hk (by decide) h7)) (fun h7 => ?_)
    refine v_iload_n (pc := 10) hX rfl d_Ja_greatest_10 ?_
    refine v_aload_n (pc := 11) hX rfl d_Ja_greatest_11 ?_
    refine v_iload_n (pc := 12) hX rfl d_Ja_greatest_12 ?_
    refine f_callV (pc := 13) hX k_Ja_markIn ki_Ja_markIn kv_Ja_markIn ml_Ja_37 (C_Ja_markIn (by assumption)) (by assumption) rfl rfl rfl rfl (Nat.le_of_ble_eq_true rfl) (Nat.le_of_ble_eq_true rfl) (Nat.le_of_ble_eq_true rfl) d_Ja_greatest_13 ?_
    refine g_max (pc := 16) hX ml_Ja_31 rfl (Nat.le_of_ble_eq_true rfl) (Nat.le_of_ble_eq_true rfl) d_Ja_greatest_16 ?_
    refine v_istore_n (pc := 19) (lo' := [some (vR _), some (vI _), some (vI _)]) hX (Nat.le_of_ble_eq_true rfl) rfl d_Ja_greatest_19 ?_
    refine v_iinc (pc := 20) (lo' := [some (vR _), some (vI _), some (vI _)]) hX rfl rfl d_Ja_greatest_20 ?_
    refine v_goto (pc := 23) (tgt := 4) hX d_Ja_greatest_23 rfl ?_
    exact VW.cast (by rw [i3_succ]; rfl) rfl rfl ih4
  · show VW X 4 [some (vR r), some (vI (fmax (fun k => mkM (M r 0) (M r 1) (M r 2) (i3 k)) (10))), some (vI (i3 (10)))] [] (gM (M))
    refine v_iload_n (pc := 4) hX rfl d_Ja_greatest_4 ?_
    refine v_bipush (pc := 5) (v := 10) hX (by decide) d_Ja_greatest_5 ?_
    refine v_icmp_ge (pc := 7) (tgt := 26) hX d_Ja_greatest_7 rfl (fun h7 => ?_) (fun h7 => False.elim (by revert h7; decide))
    refine v_iload_n (pc := 26) hX rfl d_Ja_greatest_26 ?_
    exact f_iret (pc := 27) hX hR (rfl) (rfl) d_Ja_greatest_27
theorem d_Ja_part_0 : decode c_Ja_part 0 = .ok (.iload_n 1, 1) := by decide +kernel
theorem d_Ja_part_1 : decode c_Ja_part 1 = .ok (.tableswitch 69 0 5 #[39, 44, 49, 54, 59, 64], 39) := by decide +kernel
theorem d_Ja_part_40 : decode c_Ja_part 40 = .ok (.aload_n 0, 1) := by decide +kernel
theorem d_Ja_part_41 : decode c_Ja_part 41 = .ok (.getfield 9, 3) := by decide +kernel
theorem d_Ja_part_44 : decode c_Ja_part 44 = .ok (.ireturn, 1) := by decide +kernel
theorem d_Ja_part_45 : decode c_Ja_part 45 = .ok (.aload_n 0, 1) := by decide +kernel
theorem d_Ja_part_46 : decode c_Ja_part 46 = .ok (.getfield 15, 3) := by decide +kernel
theorem d_Ja_part_49 : decode c_Ja_part 49 = .ok (.ireturn, 1) := by decide +kernel
theorem d_Ja_part_50 : decode c_Ja_part 50 = .ok (.aload_n 0, 1) := by decide +kernel
theorem d_Ja_part_51 : decode c_Ja_part 51 = .ok (.getfield 18, 3) := by decide +kernel
theorem d_Ja_part_54 : decode c_Ja_part 54 = .ok (.ireturn, 1) := by decide +kernel
theorem d_Ja_part_55 : decode c_Ja_part 55 = .ok (.aload_n 0, 1) := by decide +kernel
theorem d_Ja_part_56 : decode c_Ja_part 56 = .ok (.getfield 21, 3) := by decide +kernel
theorem d_Ja_part_59 : decode c_Ja_part 59 = .ok (.ireturn, 1) := by decide +kernel
theorem d_Ja_part_60 : decode c_Ja_part 60 = .ok (.aload_n 0, 1) := by decide +kernel
theorem d_Ja_part_61 : decode c_Ja_part 61 = .ok (.getfield 24, 3) := by decide +kernel
theorem d_Ja_part_64 : decode c_Ja_part 64 = .ok (.ireturn, 1) := by decide +kernel
theorem d_Ja_part_65 : decode c_Ja_part 65 = .ok (.aload_n 0, 1) := by decide +kernel
theorem d_Ja_part_66 : decode c_Ja_part 66 = .ok (.invokevirtual 27, 3) := by decide +kernel
theorem d_Ja_part_69 : decode c_Ja_part 69 = .ok (.ireturn, 1) := by decide +kernel
theorem d_Ja_part_70 : decode c_Ja_part 70 = .ok (.bipush (-2), 2) := by decide +kernel
theorem d_Ja_part_72 : decode c_Ja_part 72 = .ok (.ireturn, 1) := by decide +kernel
theorem C_Ja_part {M : MM} {r : Nat} {t : Int32} (hr : SH[r]? = some (0, 1)) : AF y_Ja_part c_Ja_part 2 (some .int) 3 [vR r, vI t] (M) (some (vI (jpart (M r) t))) (M) := by
  refine AF.of k_Ja_part (lo := [some (vR r), some (vI t)]) rfl (Nat.le_of_ble_eq_true rfl) (fun X hX hR => ?_)
  refine v_iload_n (pc := 0) hX rfl d_Ja_part_0 ?_
  refine v_top (fun y1 q1 => ?_)
  by_cases e1_0 : y1 = 0
  · refine v_tabIn (pc := 1) (tgt := 40) (off := 39) (y := 0) hX e1_0 d_Ja_part_1 (by decide) (by decide) (by decide) rfl ?_
    refine v_aload_n (pc := 40) hX rfl d_Ja_part_40 ?_
    refine g_getI (pc := 41) hX fl_Ja_9 rfl (by assumption) d_Ja_part_41 ?_
    exact f_iret (pc := 44) hX hR (by simp [jpart, *]) (rfl) d_Ja_part_44
  by_cases e1_1 : y1 = 1
  · refine v_tabIn (pc := 1) (tgt := 45) (off := 44) (y := 1) hX e1_1 d_Ja_part_1 (by decide) (by decide) (by decide) rfl ?_
    refine v_aload_n (pc := 45) hX rfl d_Ja_part_45 ?_
    refine g_getI (pc := 46) hX fl_Ja_15 rfl (by assumption) d_Ja_part_46 ?_
    exact f_iret (pc := 49) hX hR (by simp [jpart, *]) (rfl) d_Ja_part_49
  by_cases e1_2 : y1 = 2
  · refine v_tabIn (pc := 1) (tgt := 50) (off := 49) (y := 2) hX e1_2 d_Ja_part_1 (by decide) (by decide) (by decide) rfl ?_
    refine v_aload_n (pc := 50) hX rfl d_Ja_part_50 ?_
    refine g_getI (pc := 51) hX fl_Ja_18 rfl (by assumption) d_Ja_part_51 ?_
    exact f_iret (pc := 54) hX hR (by simp [jpart, *]) (rfl) d_Ja_part_54
  by_cases e1_3 : y1 = 3
  · refine v_tabIn (pc := 1) (tgt := 55) (off := 54) (y := 3) hX e1_3 d_Ja_part_1 (by decide) (by decide) (by decide) rfl ?_
    refine v_aload_n (pc := 55) hX rfl d_Ja_part_55 ?_
    refine g_getI (pc := 56) hX fl_Ja_21 rfl (by assumption) d_Ja_part_56 ?_
    exact f_iret (pc := 59) hX hR (by simp [jpart, *]) (rfl) d_Ja_part_59
  by_cases e1_4 : y1 = 4
  · refine v_tabIn (pc := 1) (tgt := 60) (off := 59) (y := 4) hX e1_4 d_Ja_part_1 (by decide) (by decide) (by decide) rfl ?_
    refine v_aload_n (pc := 60) hX rfl d_Ja_part_60 ?_
    refine g_getI (pc := 61) hX fl_Ja_24 rfl (by assumption) d_Ja_part_61 ?_
    exact f_iret (pc := 64) hX hR (by simp [jpart, *]) (rfl) d_Ja_part_64
  by_cases e1_5 : y1 = 5
  · refine v_tabIn (pc := 1) (tgt := 65) (off := 64) (y := 5) hX e1_5 d_Ja_part_1 (by decide) (by decide) (by decide) rfl ?_
    refine v_aload_n (pc := 65) hX rfl d_Ja_part_65 ?_
    refine f_callV (pc := 66) hX k_Ja_greatest ki_Ja_greatest kv_Ja_greatest ml_Ja_27 (C_Ja_greatest (by assumption)) (by assumption) rfl rfl rfl rfl (Nat.le_of_ble_eq_true rfl) (Nat.le_of_ble_eq_true rfl) (Nat.le_of_ble_eq_true rfl) d_Ja_part_66 ?_
    exact f_iret (pc := 69) hX hR (by simp [jpart, *]) (rfl) d_Ja_part_69
  refine v_tabOut (pc := 1) (tgt := 70) hX d_Ja_part_1 (by simp only [eq32, q_0, q_1, q_2, q_3, q_4, q_5, q_6, q_7, q_8, q_9, q_10, q_11, q_12, q_15, q_16, q_20, q_21, q_23, q_24, q_29, q_31, q_44, q_48, q_59, q_60, q_61, q_63, q_99, q_100, q_108, q_112, q_116, q_119, q_240, q_m1, q_m9] at e1_0 e1_1 e1_2 e1_3 e1_4 e1_5; omega) rfl ?_
  refine v_bipush (pc := 70) (v := (-2)) hX (by decide) d_Ja_part_70 ?_
  exact f_iret (pc := 72) hX hR (by simp [jpart, *]) (rfl) d_Ja_part_72
theorem d_Ja_become_0 : decode c_Ja_become 0 = .ok (.iload_n 1, 1) := by decide +kernel
theorem d_Ja_become_1 : decode c_Ja_become 1 = .ok (.tableswitch 75 0 4 #[35, 43, 51, 59, 67], 35) := by decide +kernel
theorem d_Ja_become_36 : decode c_Ja_become 36 = .ok (.aload_n 0, 1) := by decide +kernel
theorem d_Ja_become_37 : decode c_Ja_become 37 = .ok (.iload_n 2, 1) := by decide +kernel
theorem d_Ja_become_38 : decode c_Ja_become 38 = .ok (.putfield 9, 3) := by decide +kernel
theorem d_Ja_become_41 : decode c_Ja_become 41 = .ok (.goto 35, 3) := by decide +kernel
theorem d_Ja_become_44 : decode c_Ja_become 44 = .ok (.aload_n 0, 1) := by decide +kernel
theorem d_Ja_become_45 : decode c_Ja_become 45 = .ok (.iload_n 2, 1) := by decide +kernel
theorem d_Ja_become_46 : decode c_Ja_become 46 = .ok (.putfield 15, 3) := by decide +kernel
theorem d_Ja_become_49 : decode c_Ja_become 49 = .ok (.goto 27, 3) := by decide +kernel
theorem d_Ja_become_52 : decode c_Ja_become 52 = .ok (.aload_n 0, 1) := by decide +kernel
theorem d_Ja_become_53 : decode c_Ja_become 53 = .ok (.iload_n 2, 1) := by decide +kernel
theorem d_Ja_become_54 : decode c_Ja_become 54 = .ok (.putfield 18, 3) := by decide +kernel
theorem d_Ja_become_57 : decode c_Ja_become 57 = .ok (.goto 19, 3) := by decide +kernel
theorem d_Ja_become_60 : decode c_Ja_become 60 = .ok (.aload_n 0, 1) := by decide +kernel
theorem d_Ja_become_61 : decode c_Ja_become 61 = .ok (.iload_n 2, 1) := by decide +kernel
theorem d_Ja_become_62 : decode c_Ja_become 62 = .ok (.putfield 21, 3) := by decide +kernel
theorem d_Ja_become_65 : decode c_Ja_become 65 = .ok (.goto 11, 3) := by decide +kernel
theorem d_Ja_become_68 : decode c_Ja_become 68 = .ok (.aload_n 0, 1) := by decide +kernel
theorem d_Ja_become_69 : decode c_Ja_become 69 = .ok (.iload_n 2, 1) := by decide +kernel
theorem d_Ja_become_70 : decode c_Ja_become 70 = .ok (.putfield 24, 3) := by decide +kernel
theorem d_Ja_become_73 : decode c_Ja_become 73 = .ok (.goto 3, 3) := by decide +kernel
theorem d_Ja_become_76 : decode c_Ja_become 76 = .ok (.return_, 1) := by decide +kernel
theorem C_Ja_become_0 {M : MM} {r : Nat} {t : Int32} (hr : SH[r]? = some (0, 1)) : AF y_Ja_become c_Ja_become 3 none 1 [vR r, vI 0, vI t] (M) (none) (upM M r 0 t) := by
  refine AF.of k_Ja_become (lo := [some (vR r), some (vI 0), some (vI t)]) rfl (Nat.le_of_ble_eq_true rfl) (fun X hX hR => ?_)
  refine v_iload_n (pc := 0) hX rfl d_Ja_become_0 ?_
  refine v_top (fun y1 q1 => ?_)
  by_cases e1_0 : y1 = 0
  · refine v_tabIn (pc := 1) (tgt := 36) (off := 35) (y := 0) hX e1_0 d_Ja_become_1 (by decide) (by decide) (by decide) rfl ?_
    refine v_aload_n (pc := 36) hX rfl d_Ja_become_36 ?_
    refine v_iload_n (pc := 37) hX rfl d_Ja_become_37 ?_
    refine g_putI (pc := 38) hX fl_Ja_9 rfl (finI rfl rfl) (by assumption) rfl rfl d_Ja_become_38 ?_
    refine v_goto (pc := 41) (tgt := 76) hX d_Ja_become_41 rfl ?_
    exact f_vret (pc := 76) hX hR (rfl) d_Ja_become_76
  exact False.elim (e1_0 q1.symm)
theorem C_Ja_become_1 {M : MM} {r : Nat} {t : Int32} (hr : SH[r]? = some (0, 1)) : AF y_Ja_become c_Ja_become 3 none 1 [vR r, vI 1, vI t] (M) (none) (upM M r 1 t) := by
  refine AF.of k_Ja_become (lo := [some (vR r), some (vI 1), some (vI t)]) rfl (Nat.le_of_ble_eq_true rfl) (fun X hX hR => ?_)
  refine v_iload_n (pc := 0) hX rfl d_Ja_become_0 ?_
  refine v_top (fun y1 q1 => ?_)
  by_cases e1_1 : y1 = 1
  · refine v_tabIn (pc := 1) (tgt := 44) (off := 43) (y := 1) hX e1_1 d_Ja_become_1 (by decide) (by decide) (by decide) rfl ?_
    refine v_aload_n (pc := 44) hX rfl d_Ja_become_44 ?_
    refine v_iload_n (pc := 45) hX rfl d_Ja_become_45 ?_
    refine g_putI (pc := 46) hX fl_Ja_15 rfl (finI rfl rfl) (by assumption) rfl rfl d_Ja_become_46 ?_
    refine v_goto (pc := 49) (tgt := 76) hX d_Ja_become_49 rfl ?_
    exact f_vret (pc := 76) hX hR (rfl) d_Ja_become_76
  exact False.elim (e1_1 q1.symm)
theorem C_Ja_become_2 {M : MM} {r : Nat} {t : Int32} (hr : SH[r]? = some (0, 1)) : AF y_Ja_become c_Ja_become 3 none 1 [vR r, vI 2, vI t] (M) (none) (upM M r 2 t) := by
  refine AF.of k_Ja_become (lo := [some (vR r), some (vI 2), some (vI t)]) rfl (Nat.le_of_ble_eq_true rfl) (fun X hX hR => ?_)
  refine v_iload_n (pc := 0) hX rfl d_Ja_become_0 ?_
  refine v_top (fun y1 q1 => ?_)
  by_cases e1_2 : y1 = 2
  · refine v_tabIn (pc := 1) (tgt := 52) (off := 51) (y := 2) hX e1_2 d_Ja_become_1 (by decide) (by decide) (by decide) rfl ?_
    refine v_aload_n (pc := 52) hX rfl d_Ja_become_52 ?_
    refine v_iload_n (pc := 53) hX rfl d_Ja_become_53 ?_
    refine g_putI (pc := 54) hX fl_Ja_18 rfl (finI rfl rfl) (by assumption) rfl rfl d_Ja_become_54 ?_
    refine v_goto (pc := 57) (tgt := 76) hX d_Ja_become_57 rfl ?_
    exact f_vret (pc := 76) hX hR (rfl) d_Ja_become_76
  exact False.elim (e1_2 q1.symm)
theorem C_Ja_become_3 {M : MM} {r : Nat} {t : Int32} (hr : SH[r]? = some (0, 1)) : AF y_Ja_become c_Ja_become 3 none 1 [vR r, vI 3, vI t] (M) (none) (upM M r 3 t) := by
  refine AF.of k_Ja_become (lo := [some (vR r), some (vI 3), some (vI t)]) rfl (Nat.le_of_ble_eq_true rfl) (fun X hX hR => ?_)
  refine v_iload_n (pc := 0) hX rfl d_Ja_become_0 ?_
  refine v_top (fun y1 q1 => ?_)
  by_cases e1_3 : y1 = 3
  · refine v_tabIn (pc := 1) (tgt := 60) (off := 59) (y := 3) hX e1_3 d_Ja_become_1 (by decide) (by decide) (by decide) rfl ?_
    refine v_aload_n (pc := 60) hX rfl d_Ja_become_60 ?_
    refine v_iload_n (pc := 61) hX rfl d_Ja_become_61 ?_
    refine g_putI (pc := 62) hX fl_Ja_21 rfl (finI rfl rfl) (by assumption) rfl rfl d_Ja_become_62 ?_
    refine v_goto (pc := 65) (tgt := 76) hX d_Ja_become_65 rfl ?_
    exact f_vret (pc := 76) hX hR (rfl) d_Ja_become_76
  exact False.elim (e1_3 q1.symm)
theorem C_Ja_become_4 {M : MM} {r : Nat} {t : Int32} (hr : SH[r]? = some (0, 1)) : AF y_Ja_become c_Ja_become 3 none 1 [vR r, vI 4, vI t] (M) (none) (upM M r 4 t) := by
  refine AF.of k_Ja_become (lo := [some (vR r), some (vI 4), some (vI t)]) rfl (Nat.le_of_ble_eq_true rfl) (fun X hX hR => ?_)
  refine v_iload_n (pc := 0) hX rfl d_Ja_become_0 ?_
  refine v_top (fun y1 q1 => ?_)
  by_cases e1_4 : y1 = 4
  · refine v_tabIn (pc := 1) (tgt := 68) (off := 67) (y := 4) hX e1_4 d_Ja_become_1 (by decide) (by decide) (by decide) rfl ?_
    refine v_aload_n (pc := 68) hX rfl d_Ja_become_68 ?_
    refine v_iload_n (pc := 69) hX rfl d_Ja_become_69 ?_
    refine g_putI (pc := 70) hX fl_Ja_24 rfl (finI rfl rfl) (by assumption) rfl rfl d_Ja_become_70 ?_
    refine v_goto (pc := 73) (tgt := 76) hX d_Ja_become_73 rfl ?_
    exact f_vret (pc := 76) hX hR (rfl) d_Ja_become_76
  exact False.elim (e1_4 q1.symm)
theorem d_De_part_0 : decode c_De_part 0 = .ok (.iload_n 1, 1) := by decide +kernel
theorem d_De_part_1 : decode c_De_part 1 = .ok (.tableswitch 51 0 3 #[31, 36, 41, 46], 31) := by decide +kernel
theorem d_De_part_32 : decode c_De_part 32 = .ok (.aload_n 0, 1) := by decide +kernel
theorem d_De_part_33 : decode c_De_part 33 = .ok (.getfield 9, 3) := by decide +kernel
theorem d_De_part_36 : decode c_De_part 36 = .ok (.ireturn, 1) := by decide +kernel
theorem d_De_part_37 : decode c_De_part 37 = .ok (.aload_n 0, 1) := by decide +kernel
theorem d_De_part_38 : decode c_De_part 38 = .ok (.getfield 15, 3) := by decide +kernel
theorem d_De_part_41 : decode c_De_part 41 = .ok (.ireturn, 1) := by decide +kernel
theorem d_De_part_42 : decode c_De_part 42 = .ok (.aload_n 0, 1) := by decide +kernel
theorem d_De_part_43 : decode c_De_part 43 = .ok (.getfield 18, 3) := by decide +kernel
theorem d_De_part_46 : decode c_De_part 46 = .ok (.ireturn, 1) := by decide +kernel
theorem d_De_part_47 : decode c_De_part 47 = .ok (.aload_n 0, 1) := by decide +kernel
theorem d_De_part_48 : decode c_De_part 48 = .ok (.getfield 21, 3) := by decide +kernel
theorem d_De_part_51 : decode c_De_part 51 = .ok (.ireturn, 1) := by decide +kernel
theorem d_De_part_52 : decode c_De_part 52 = .ok (.bipush (-2), 2) := by decide +kernel
theorem d_De_part_54 : decode c_De_part 54 = .ok (.ireturn, 1) := by decide +kernel
theorem C_De_part {M : MM} {r : Nat} {t : Int32} (hr : SH[r]? = some (0, 0)) : AF y_De_part c_De_part 2 (some .int) 1 [vR r, vI t] (M) (some (vI (dpart (M r) t))) (M) := by
  refine AF.of k_De_part (lo := [some (vR r), some (vI t)]) rfl (Nat.le_of_ble_eq_true rfl) (fun X hX hR => ?_)
  refine v_iload_n (pc := 0) hX rfl d_De_part_0 ?_
  refine v_top (fun y1 q1 => ?_)
  by_cases e1_0 : y1 = 0
  · refine v_tabIn (pc := 1) (tgt := 32) (off := 31) (y := 0) hX e1_0 d_De_part_1 (by decide) (by decide) (by decide) rfl ?_
    refine v_aload_n (pc := 32) hX rfl d_De_part_32 ?_
    refine g_getI (pc := 33) hX fl_De_9 rfl (by assumption) d_De_part_33 ?_
    exact f_iret (pc := 36) hX hR (by simp [dpart, *]) (rfl) d_De_part_36
  by_cases e1_1 : y1 = 1
  · refine v_tabIn (pc := 1) (tgt := 37) (off := 36) (y := 1) hX e1_1 d_De_part_1 (by decide) (by decide) (by decide) rfl ?_
    refine v_aload_n (pc := 37) hX rfl d_De_part_37 ?_
    refine g_getI (pc := 38) hX fl_De_15 rfl (by assumption) d_De_part_38 ?_
    exact f_iret (pc := 41) hX hR (by simp [dpart, *]) (rfl) d_De_part_41
  by_cases e1_2 : y1 = 2
  · refine v_tabIn (pc := 1) (tgt := 42) (off := 41) (y := 2) hX e1_2 d_De_part_1 (by decide) (by decide) (by decide) rfl ?_
    refine v_aload_n (pc := 42) hX rfl d_De_part_42 ?_
    refine g_getI (pc := 43) hX fl_De_18 rfl (by assumption) d_De_part_43 ?_
    exact f_iret (pc := 46) hX hR (by simp [dpart, *]) (rfl) d_De_part_46
  by_cases e1_3 : y1 = 3
  · refine v_tabIn (pc := 1) (tgt := 47) (off := 46) (y := 3) hX e1_3 d_De_part_1 (by decide) (by decide) (by decide) rfl ?_
    refine v_aload_n (pc := 47) hX rfl d_De_part_47 ?_
    refine g_getI (pc := 48) hX fl_De_21 rfl (by assumption) d_De_part_48 ?_
    exact f_iret (pc := 51) hX hR (by simp [dpart, *]) (rfl) d_De_part_51
  refine v_tabOut (pc := 1) (tgt := 52) hX d_De_part_1 (by simp only [eq32, q_0, q_1, q_2, q_3, q_4, q_5, q_6, q_7, q_8, q_9, q_10, q_11, q_12, q_15, q_16, q_20, q_21, q_23, q_24, q_29, q_31, q_44, q_48, q_59, q_60, q_61, q_63, q_99, q_100, q_108, q_112, q_116, q_119, q_240, q_m1, q_m9] at e1_0 e1_1 e1_2 e1_3; omega) rfl ?_
  refine v_bipush (pc := 52) (v := (-2)) hX (by decide) d_De_part_52 ?_
  exact f_iret (pc := 54) hX hR (by simp [dpart, *]) (rfl) d_De_part_54
theorem d_De_become_0 : decode c_De_become 0 = .ok (.iload_n 1, 1) := by decide +kernel
theorem d_De_become_1 : decode c_De_become 1 = .ok (.lookupswitch 43 #[(0, 27), (2, 35)], 27) := by decide +kernel
theorem d_De_become_28 : decode c_De_become 28 = .ok (.aload_n 0, 1) := by decide +kernel
theorem d_De_become_29 : decode c_De_become 29 = .ok (.iload_n 2, 1) := by decide +kernel
theorem d_De_become_30 : decode c_De_become 30 = .ok (.putfield 9, 3) := by decide +kernel
theorem d_De_become_33 : decode c_De_become 33 = .ok (.goto 11, 3) := by decide +kernel
theorem d_De_become_36 : decode c_De_become 36 = .ok (.aload_n 0, 1) := by decide +kernel
theorem d_De_become_37 : decode c_De_become 37 = .ok (.iload_n 2, 1) := by decide +kernel
theorem d_De_become_38 : decode c_De_become 38 = .ok (.putfield 18, 3) := by decide +kernel
theorem d_De_become_41 : decode c_De_become 41 = .ok (.goto 3, 3) := by decide +kernel
theorem d_De_become_44 : decode c_De_become 44 = .ok (.return_, 1) := by decide +kernel
theorem C_De_become_0 {M : MM} {r : Nat} {t : Int32} (hr : SH[r]? = some (0, 0)) : AF y_De_become c_De_become 3 none 1 [vR r, vI 0, vI t] (M) (none) (upM M r 0 t) := by
  refine AF.of k_De_become (lo := [some (vR r), some (vI 0), some (vI t)]) rfl (Nat.le_of_ble_eq_true rfl) (fun X hX hR => ?_)
  refine v_iload_n (pc := 0) hX rfl d_De_become_0 ?_
  refine v_top (fun y1 q1 => ?_)
  by_cases e1_0 : y1 = 0
  · subst e1_0
    refine v_look (pc := 1) (tgt := 28) (off := 27) hX d_De_become_1 (by decide) (by decide) rfl ?_
    refine v_aload_n (pc := 28) hX rfl d_De_become_28 ?_
    refine v_iload_n (pc := 29) hX rfl d_De_become_29 ?_
    refine g_putI (pc := 30) hX fl_De_9 rfl (finI rfl rfl) (by assumption) rfl rfl d_De_become_30 ?_
    refine v_goto (pc := 33) (tgt := 44) hX d_De_become_33 rfl ?_
    exact f_vret (pc := 44) hX hR (rfl) d_De_become_44
  exact False.elim (e1_0 q1.symm)
theorem C_De_become_2 {M : MM} {r : Nat} {t : Int32} (hr : SH[r]? = some (0, 0)) : AF y_De_become c_De_become 3 none 1 [vR r, vI 2, vI t] (M) (none) (upM M r 2 t) := by
  refine AF.of k_De_become (lo := [some (vR r), some (vI 2), some (vI t)]) rfl (Nat.le_of_ble_eq_true rfl) (fun X hX hR => ?_)
  refine v_iload_n (pc := 0) hX rfl d_De_become_0 ?_
  refine v_top (fun y1 q1 => ?_)
  by_cases e1_2 : y1 = 2
  · subst e1_2
    refine v_look (pc := 1) (tgt := 36) (off := 35) hX d_De_become_1 (by decide) (by decide) rfl ?_
    refine v_aload_n (pc := 36) hX rfl d_De_become_36 ?_
    refine v_iload_n (pc := 37) hX rfl d_De_become_37 ?_
    refine g_putI (pc := 38) hX fl_De_18 rfl (finI rfl rfl) (by assumption) rfl rfl d_De_become_38 ?_
    refine v_goto (pc := 41) (tgt := 44) hX d_De_become_41 rfl ?_
    exact f_vret (pc := 44) hX hR (rfl) d_De_become_44
  exact False.elim (e1_2 q1.symm)
theorem d_De_decidesBy_0 : decode c_De_decidesBy 0 = .ok (.aload_n 1, 1) := by decide +kernel
theorem d_De_decidesBy_1 : decode c_De_decidesBy 1 = .ok (.aload_n 0, 1) := by decide +kernel
theorem d_De_decidesBy_2 : decode c_De_decidesBy 2 = .ok (.getfield 15, 3) := by decide +kernel
theorem d_De_decidesBy_5 : decode c_De_decidesBy 5 = .ok (.invokevirtual 24, 3) := by decide +kernel
theorem d_De_decidesBy_8 : decode c_De_decidesBy 8 = .ok (.aload_n 0, 1) := by decide +kernel
theorem d_De_decidesBy_9 : decode c_De_decidesBy 9 = .ok (.getfield 9, 3) := by decide +kernel
theorem d_De_decidesBy_12 : decode c_De_decidesBy 12 = .ok (.if_icmp .lt 7, 3) := by decide +kernel
theorem d_De_decidesBy_15 : decode c_De_decidesBy 15 = .ok (.iconst 1, 1) := by decide +kernel
theorem d_De_decidesBy_16 : decode c_De_decidesBy 16 = .ok (.goto 4, 3) := by decide +kernel
theorem d_De_decidesBy_19 : decode c_De_decidesBy 19 = .ok (.iconst 0, 1) := by decide +kernel
theorem d_De_decidesBy_20 : decode c_De_decidesBy 20 = .ok (.ireturn, 1) := by decide +kernel
theorem C_De_decidesBy {M : MM} {r j : Nat} (hr : SH[r]? = some (0, 0)) (hj : SH[j]? = some (0, 1)) : AF y_De_decidesBy c_De_decidesBy 2 (some .boolean) 2 [vR r, vR j] (M) (some (vI (bI (decide (M r 0 ≤ mkM (M j 0) (M j 1) (M j 2) (M r 1)))))) (M) := by
  refine AF.of k_De_decidesBy (lo := [some (vR r), some (vR j)]) rfl (Nat.le_of_ble_eq_true rfl) (fun X hX hR => ?_)
  refine v_aload_n (pc := 0) hX rfl d_De_decidesBy_0 ?_
  refine v_aload_n (pc := 1) hX rfl d_De_decidesBy_1 ?_
  refine g_getI (pc := 2) hX fl_De_15 rfl (by assumption) d_De_decidesBy_2 ?_
  refine f_callV (pc := 5) hX k_Ja_markIn ki_Ja_markIn kv_Ja_markIn ml_De_24 (C_Ja_markIn (by assumption)) (by assumption) rfl rfl rfl rfl (Nat.le_of_ble_eq_true rfl) (Nat.le_of_ble_eq_true rfl) (Nat.le_of_ble_eq_true rfl) d_De_decidesBy_5 ?_
  refine v_aload_n (pc := 8) hX rfl d_De_decidesBy_8 ?_
  refine g_getI (pc := 9) hX fl_De_9 rfl (by assumption) d_De_decidesBy_9 ?_
  refine v_icmp_lt (pc := 12) (tgt := 19) hX d_De_decidesBy_12 rfl (fun h12 => ?_) (fun h12 => ?_)
  · refine v_iconst (pc := 19) (v := 0) hX (by decide) d_De_decidesBy_19 ?_
    exact f_zret (pc := 20) hX hR (by first | exact bT (decide_eq_true (by simp only [lt32, le32, eq32, q_0, q_1, q_2, q_3, q_4, q_5, q_6, q_7, q_8, q_9, q_10, q_11, q_12, q_15, q_16, q_20, q_21, q_23, q_24, q_29, q_31, q_44, q_48, q_59, q_60, q_61, q_63, q_99, q_100, q_108, q_112, q_116, q_119, q_240, q_m1, q_m9] at *; omega)) | exact bF (decide_eq_false (by simp only [lt32, le32, eq32, q_0, q_1, q_2, q_3, q_4, q_5, q_6, q_7, q_8, q_9, q_10, q_11, q_12, q_15, q_16, q_20, q_21, q_23, q_24, q_29, q_31, q_44, q_48, q_59, q_60, q_61, q_63, q_99, q_100, q_108, q_112, q_116, q_119, q_240, q_m1, q_m9] at *; omega))) (rfl) d_De_decidesBy_20
  · refine v_iconst (pc := 15) (v := 1) hX (by decide) d_De_decidesBy_15 ?_
    refine v_goto (pc := 16) (tgt := 20) hX d_De_decidesBy_16 rfl ?_
    exact f_zret (pc := 20) hX hR (by first | exact bT (decide_eq_true (by simp only [lt32, le32, eq32, q_0, q_1, q_2, q_3, q_4, q_5, q_6, q_7, q_8, q_9, q_10, q_11, q_12, q_15, q_16, q_20, q_21, q_23, q_24, q_29, q_31, q_44, q_48, q_59, q_60, q_61, q_63, q_99, q_100, q_108, q_112, q_116, q_119, q_240, q_m1, q_m9] at *; omega)) | exact bF (decide_eq_false (by simp only [lt32, le32, eq32, q_0, q_1, q_2, q_3, q_4, q_5, q_6, q_7, q_8, q_9, q_10, q_11, q_12, q_15, q_16, q_20, q_21, q_23, q_24, q_29, q_31, q_44, q_48, q_59, q_60, q_61, q_63, q_99, q_100, q_108, q_112, q_116, q_119, q_240, q_m1, q_m9] at *; omega))) (rfl) d_De_decidesBy_20
