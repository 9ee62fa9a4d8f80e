/-! The model: a store read from a text. -/
theorem nJ_le (q : Nat → Int32) (m : Nat) : nJ q m ≤ 6 := chs_le _ 6
theorem nD_le (q : Nat → Int32) (m p : Nat) : nD q m p ≤ 4 := chs_le _ 4
theorem nJ_lt {q : Nat → Int32} {m k : Nat} (h : k < nJ q m) : stB q m (1 + 6 * k) 59 = true ∧ ftJ q m (1 + 6 * k) = 6 := by
  have w := chs_lt (P := fun k => !gJ q m k) (n := 6) k h
  have w2 : gJ q m k = true := by simpa using w
  unfold gJ at w2
  rw [Bool.and_eq_true, decide_eq_true_eq] at w2
  exact w2
theorem nD_lt {q : Nat → Int32} {m p k : Nat} (h : k < nD q m p) : stB q m (p + 5 * k) 44 = true ∧ ftD q m (p + 5 * k) = 5 := by
  have w := chs_lt (P := fun k => !gD q m p k) (n := 4) k h
  have w2 : gD q m p k = true := by simpa using w
  unfold gD at w2
  rw [Bool.and_eq_true, decide_eq_true_eq] at w2
  exact w2
theorem nJ_end {q : Nat → Int32} {m : Nat} : ¬ (nJ q m < 6 ∧ gJ q m (nJ q m) = true) := by
  rintro ⟨h, g⟩
  have w := chs_P (P := fun k => !gJ q m k) (n := 6) h
  have w1 : (!gJ q m (nJ q m)) = true := w
  have w2 : gJ q m (nJ q m) = false := by simpa using w1
  rw [w2] at g; cases g
theorem nD_end {q : Nat → Int32} {m p : Nat} : ¬ (nD q m p < 4 ∧ gD q m p (nD q m p) = true) := by
  rintro ⟨h, g⟩
  have w := chs_P (P := fun k => !gD q m p k) (n := 4) h
  have w1 : (!gD q m p (nD q m p)) = true := w
  have w2 : gD q m p (nD q m p) = false := by simpa using w1
  rw [w2] at g; cases g
theorem st_lt {q : Nat → Int32} {m p : Nat} {c : Int32} (h : stB q m p c = true) : p < m := by
  unfold stB at h
  rw [Bool.and_eq_true, decide_eq_true_eq] at h
  exact h.1
theorem d_Mo_readsStore_0 : decode c_Mo_readsStore 0 = .ok (.aload_n 0, 1) := by decide +kernel
theorem d_Mo_readsStore_1 : decode c_Mo_readsStore 1 = .ok (.iconst 0, 1) := by decide +kernel
theorem d_Mo_readsStore_2 : decode c_Mo_readsStore 2 = .ok (.putfield 111, 3) := by decide +kernel
theorem d_Mo_readsStore_5 : decode c_Mo_readsStore 5 = .ok (.aload_n 0, 1) := by decide +kernel
theorem d_Mo_readsStore_6 : decode c_Mo_readsStore 6 = .ok (.iconst 0, 1) := by decide +kernel
theorem d_Mo_readsStore_7 : decode c_Mo_readsStore 7 = .ok (.putfield 120, 3) := by decide +kernel
theorem d_Mo_readsStore_10 : decode c_Mo_readsStore 10 = .ok (.aload_n 0, 1) := by decide +kernel
theorem d_Mo_readsStore_11 : decode c_Mo_readsStore 11 = .ok (.iconst 0, 1) := by decide +kernel
theorem d_Mo_readsStore_12 : decode c_Mo_readsStore 12 = .ok (.putfield 127, 3) := by decide +kernel
theorem d_Mo_readsStore_15 : decode c_Mo_readsStore 15 = .ok (.aload_n 0, 1) := by decide +kernel
theorem d_Mo_readsStore_16 : decode c_Mo_readsStore 16 = .ok (.iload_n 1, 1) := by decide +kernel
theorem d_Mo_readsStore_17 : decode c_Mo_readsStore 17 = .ok (.iload_n 2, 1) := by decide +kernel
theorem d_Mo_readsStore_18 : decode c_Mo_readsStore 18 = .ok (.invokevirtual 114, 3) := by decide +kernel
theorem d_Mo_readsStore_21 : decode c_Mo_readsStore 21 = .ok (.bipush 116, 2) := by decide +kernel
theorem d_Mo_readsStore_23 : decode c_Mo_readsStore 23 = .ok (.if_icmp .ne 7, 3) := by decide +kernel
theorem d_Mo_readsStore_26 : decode c_Mo_readsStore 26 = .ok (.iconst 1, 1) := by decide +kernel
theorem d_Mo_readsStore_27 : decode c_Mo_readsStore 27 = .ok (.goto 4, 3) := by decide +kernel
theorem d_Mo_readsStore_30 : decode c_Mo_readsStore 30 = .ok (.iconst 0, 1) := by decide +kernel
theorem d_Mo_readsStore_31 : decode c_Mo_readsStore 31 = .ok (.istore_n 3, 1) := by decide +kernel
theorem d_Mo_readsStore_32 : decode c_Mo_readsStore 32 = .ok (.aload_n 0, 1) := by decide +kernel
theorem d_Mo_readsStore_33 : decode c_Mo_readsStore 33 = .ok (.dup, 1) := by decide +kernel
theorem d_Mo_readsStore_34 : decode c_Mo_readsStore 34 = .ok (.getfield 111, 3) := by decide +kernel
theorem d_Mo_readsStore_37 : decode c_Mo_readsStore 37 = .ok (.iload_n 3, 1) := by decide +kernel
theorem d_Mo_readsStore_38 : decode c_Mo_readsStore 38 = .ok (.ifCond .eq 7, 3) := by decide +kernel
theorem d_Mo_readsStore_41 : decode c_Mo_readsStore 41 = .ok (.iconst 1, 1) := by decide +kernel
theorem d_Mo_readsStore_42 : decode c_Mo_readsStore 42 = .ok (.goto 4, 3) := by decide +kernel
theorem d_Mo_readsStore_45 : decode c_Mo_readsStore 45 = .ok (.iconst 0, 1) := by decide +kernel
theorem d_Mo_readsStore_46 : decode c_Mo_readsStore 46 = .ok (.iadd, 1) := by decide +kernel
theorem d_Mo_readsStore_47 : decode c_Mo_readsStore 47 = .ok (.putfield 111, 3) := by decide +kernel
theorem d_Mo_readsStore_50 : decode c_Mo_readsStore 50 = .ok (.iload_n 3, 1) := by decide +kernel
theorem d_Mo_readsStore_51 : decode c_Mo_readsStore 51 = .ok (.ifCond .eq 31, 3) := by decide +kernel
theorem d_Mo_readsStore_54 : decode c_Mo_readsStore 54 = .ok (.aload_n 0, 1) := by decide +kernel
theorem d_Mo_readsStore_55 : decode c_Mo_readsStore 55 = .ok (.getfield 120, 3) := by decide +kernel
theorem d_Mo_readsStore_58 : decode c_Mo_readsStore 58 = .ok (.ifCond .eq 14, 3) := by decide +kernel
theorem d_Mo_readsStore_61 : decode c_Mo_readsStore 61 = .ok (.aload_n 0, 1) := by decide +kernel
theorem d_Mo_readsStore_62 : decode c_Mo_readsStore 62 = .ok (.iload_n 1, 1) := by decide +kernel
theorem d_Mo_readsStore_63 : decode c_Mo_readsStore 63 = .ok (.iload_n 2, 1) := by decide +kernel
theorem d_Mo_readsStore_64 : decode c_Mo_readsStore 64 = .ok (.invokevirtual 114, 3) := by decide +kernel
theorem d_Mo_readsStore_67 : decode c_Mo_readsStore 67 = .ok (.bipush 59, 2) := by decide +kernel
theorem d_Mo_readsStore_69 : decode c_Mo_readsStore 69 = .ok (.if_icmp .ne 13, 3) := by decide +kernel
theorem d_Mo_readsStore_72 : decode c_Mo_readsStore 72 = .ok (.aload_n 0, 1) := by decide +kernel
theorem d_Mo_readsStore_73 : decode c_Mo_readsStore 73 = .ok (.iload_n 1, 1) := by decide +kernel
theorem d_Mo_readsStore_74 : decode c_Mo_readsStore 74 = .ok (.iload_n 2, 1) := by decide +kernel
theorem d_Mo_readsStore_75 : decode c_Mo_readsStore 75 = .ok (.invokevirtual 130, 3) := by decide +kernel
theorem d_Mo_readsStore_78 : decode c_Mo_readsStore 78 = .ok (.istore_n 3, 1) := by decide +kernel
theorem d_Mo_readsStore_79 : decode c_Mo_readsStore 79 = .ok (.goto (-29), 3) := by decide +kernel
theorem d_Mo_readsStore_82 : decode c_Mo_readsStore 82 = .ok (.iload_n 3, 1) := by decide +kernel
theorem d_Mo_readsStore_83 : decode c_Mo_readsStore 83 = .ok (.ifCond .eq 28, 3) := by decide +kernel
theorem d_Mo_readsStore_86 : decode c_Mo_readsStore 86 = .ok (.aload_n 0, 1) := by decide +kernel
theorem d_Mo_readsStore_87 : decode c_Mo_readsStore 87 = .ok (.getfield 127, 3) := by decide +kernel
theorem d_Mo_readsStore_90 : decode c_Mo_readsStore 90 = .ok (.ifCond .eq 11, 3) := by decide +kernel
theorem d_Mo_readsStore_93 : decode c_Mo_readsStore 93 = .ok (.aload_n 0, 1) := by decide +kernel
theorem d_Mo_readsStore_94 : decode c_Mo_readsStore 94 = .ok (.getfield 111, 3) := by decide +kernel
theorem d_Mo_readsStore_97 : decode c_Mo_readsStore 97 = .ok (.iload_n 2, 1) := by decide +kernel
theorem d_Mo_readsStore_98 : decode c_Mo_readsStore 98 = .ok (.if_icmp .ge 13, 3) := by decide +kernel
theorem d_Mo_readsStore_101 : decode c_Mo_readsStore 101 = .ok (.aload_n 0, 1) := by decide +kernel
theorem d_Mo_readsStore_102 : decode c_Mo_readsStore 102 = .ok (.iload_n 1, 1) := by decide +kernel
theorem d_Mo_readsStore_103 : decode c_Mo_readsStore 103 = .ok (.iload_n 2, 1) := by decide +kernel
theorem d_Mo_readsStore_104 : decode c_Mo_readsStore 104 = .ok (.invokevirtual 134, 3) := by decide +kernel
theorem d_Mo_readsStore_107 : decode c_Mo_readsStore 107 = .ok (.istore_n 3, 1) := by decide +kernel
theorem d_Mo_readsStore_108 : decode c_Mo_readsStore 108 = .ok (.goto (-26), 3) := by decide +kernel
theorem d_Mo_readsStore_111 : decode c_Mo_readsStore 111 = .ok (.iload_n 3, 1) := by decide +kernel
theorem d_Mo_readsStore_112 : decode c_Mo_readsStore 112 = .ok (.ireturn, 1) := by decide +kernel
theorem C_Mo_rs_A {M : MM} {F m : Nat} {q : Nat → Int32} (hF : F + m ≤ 240) (hm : m ≤ 60) (hq : ∀ t, t < m → M 62 (F + t) = q t) (ht : ¬ stB q m 0 116 = true) : AF y_Mo_readsStore c_Mo_readsStore 4 (some .boolean) 4 [vR 36, vI (i3 F), vI (i3 m)] (M) (some (vI (bI false))) (RS M q 0 0 0 0) := by
  refine AF.of k_Mo_readsStore (lo := [some (vR 36), some (vI (i3 F)), some (vI (i3 m)), none]) rfl (Nat.le_of_ble_eq_true rfl) (fun X hX hR => ?_)
  refine v_aload_n (pc := 0) hX rfl d_Mo_readsStore_0 ?_
  refine v_iconst (pc := 1) (v := 0) hX (by decide) d_Mo_readsStore_1 ?_
  refine g_putI (pc := 2) hX fl_Mo_111 rfl (finI rfl rfl) rfl rfl rfl d_Mo_readsStore_2 ?_
  refine v_aload_n (pc := 5) hX rfl d_Mo_readsStore_5 ?_
  refine v_iconst (pc := 6) (v := 0) hX (by decide) d_Mo_readsStore_6 ?_
  refine g_putI (pc := 7) hX fl_Mo_120 rfl (finI rfl rfl) rfl rfl rfl d_Mo_readsStore_7 ?_
  refine v_aload_n (pc := 10) hX rfl d_Mo_readsStore_10 ?_
  refine v_iconst (pc := 11) (v := 0) hX (by decide) d_Mo_readsStore_11 ?_
  refine g_putI (pc := 12) hX fl_Mo_127 rfl (finI rfl rfl) rfl rfl rfl d_Mo_readsStore_12 ?_
  rw [RS_0 (q := q) (P := 0)]
  refine v_aload_n (pc := 15) hX rfl d_Mo_readsStore_15 ?_
  refine v_iload_n (pc := 16) hX rfl d_Mo_readsStore_16 ?_
  refine v_iload_n (pc := 17) hX rfl d_Mo_readsStore_17 ?_
  refine f_callV (pc := 18) hX k_Mo_codeAt ki_Mo_codeAt kv_Mo_codeAt ml_Mo_114 (C_Mo_codeAt (r := 0) hF hm hq (by omega)) rfl rfl rfl rfl rfl (Nat.le_of_ble_eq_true rfl) (Nat.le_of_ble_eq_true rfl) (Nat.le_of_ble_eq_true rfl) d_Mo_readsStore_18 ?_
  refine v_bipush (pc := 21) (v := 116) hX (by decide) d_Mo_readsStore_21 ?_
  refine v_icmp_ne (pc := 23) (tgt := 30) hX d_Mo_readsStore_23 rfl (fun h23 => ?_) (fun h23 => False.elim (ht ((cdA_st (by decide)).mp h23)))
  refine v_iconst (pc := 30) (v := 0) hX (by decide) d_Mo_readsStore_30 ?_
  refine v_istore_n (pc := 31) (lo' := [some (vR _), some (vI _), some (vI _), some (vI _)]) hX (Nat.le_of_ble_eq_true rfl) rfl d_Mo_readsStore_31 ?_
  refine v_aload_n (pc := 32) hX rfl d_Mo_readsStore_32 ?_
  refine v_dup (pc := 33) hX rfl d_Mo_readsStore_33 ?_
  refine g_getI (pc := 34) hX fl_Mo_111 rfl rfl d_Mo_readsStore_34 ?_
  rw [RS_12]
  refine v_iload_n (pc := 37) hX rfl d_Mo_readsStore_37 ?_
  refine v_if_eq (pc := 38) (tgt := 45) hX d_Mo_readsStore_38 rfl (fun h38 => ?_) (fun h38 => False.elim (by revert h38; decide))
  refine v_iconst (pc := 45) (v := 0) hX (by decide) d_Mo_readsStore_45 ?_
  refine v_iadd (pc := 46) hX d_Mo_readsStore_46 ?_
  refine g_putI (pc := 47) hX fl_Mo_111 rfl (finI rfl rfl) rfl rfl rfl d_Mo_readsStore_47 ?_
  rw [show i3 0 + 0 = i3 0 from rfl, RS_at]
  refine v_iload_n (pc := 50) hX rfl d_Mo_readsStore_50 ?_
  refine v_if_eq (pc := 51) (tgt := 82) hX d_Mo_readsStore_51 rfl (fun h51 => ?_) (fun h51 => False.elim (by revert h51; decide))
  refine v_iload_n (pc := 82) hX rfl d_Mo_readsStore_82 ?_
  refine v_if_eq (pc := 83) (tgt := 111) hX d_Mo_readsStore_83 rfl (fun h83 => ?_) (fun h83 => False.elim (by revert h83; decide))
  refine v_iload_n (pc := 111) hX rfl d_Mo_readsStore_111 ?_
  exact f_zret (pc := 112) hX hR (rfl) (rfl) d_Mo_readsStore_112
theorem C_Mo_rs_B {M : MM} {F m : Nat} {q : Nat → Int32} (hF : F + m ≤ 240) (hm : m ≤ 60) (hq : ∀ t, t < m → M 62 (F + t) = q t) (ht : stB q m 0 116 = true) (hb : nJ q m = 0 ∨ stB q m (1 + 6 * nJ q m) 59 = true) : AF y_Mo_readsStore c_Mo_readsStore 4 (some .boolean) 4 [vR 36, vI (i3 F), vI (i3 m)] (M) (some (vI (bI false))) (RS M q (fJ q m (nJ q m)) (nJ q m) 0 0) := by
  refine AF.of k_Mo_readsStore (lo := [some (vR 36), some (vI (i3 F)), some (vI (i3 m)), none]) rfl (Nat.le_of_ble_eq_true rfl) (fun X hX hR => ?_)
  refine v_aload_n (pc := 0) hX rfl d_Mo_readsStore_0 ?_
  refine v_iconst (pc := 1) (v := 0) hX (by decide) d_Mo_readsStore_1 ?_
  refine g_putI (pc := 2) hX fl_Mo_111 rfl (finI rfl rfl) rfl rfl rfl d_Mo_readsStore_2 ?_
  refine v_aload_n (pc := 5) hX rfl d_Mo_readsStore_5 ?_
  refine v_iconst (pc := 6) (v := 0) hX (by decide) d_Mo_readsStore_6 ?_
  refine g_putI (pc := 7) hX fl_Mo_120 rfl (finI rfl rfl) rfl rfl rfl d_Mo_readsStore_7 ?_
  refine v_aload_n (pc := 10) hX rfl d_Mo_readsStore_10 ?_
  refine v_iconst (pc := 11) (v := 0) hX (by decide) d_Mo_readsStore_11 ?_
  refine g_putI (pc := 12) hX fl_Mo_127 rfl (finI rfl rfl) rfl rfl rfl d_Mo_readsStore_12 ?_
  rw [RS_0 (q := q) (P := 0)]
  refine v_aload_n (pc := 15) hX rfl d_Mo_readsStore_15 ?_
  refine v_iload_n (pc := 16) hX rfl d_Mo_readsStore_16 ?_
  refine v_iload_n (pc := 17) hX rfl d_Mo_readsStore_17 ?_
  refine f_callV (pc := 18) hX k_Mo_codeAt ki_Mo_codeAt kv_Mo_codeAt ml_Mo_114 (C_Mo_codeAt (r := 0) hF hm hq (by omega)) rfl rfl rfl rfl rfl (Nat.le_of_ble_eq_true rfl) (Nat.le_of_ble_eq_true rfl) (Nat.le_of_ble_eq_true rfl) d_Mo_readsStore_18 ?_
  refine v_bipush (pc := 21) (v := 116) hX (by decide) d_Mo_readsStore_21 ?_
  refine v_icmp_ne (pc := 23) (tgt := 30) hX d_Mo_readsStore_23 rfl (fun h23 => False.elim (h23 ((cdA_st (by decide)).mpr ht))) (fun h23 => ?_)
  refine v_iconst (pc := 26) (v := 1) hX (by decide) d_Mo_readsStore_26 ?_
  refine v_goto (pc := 27) (tgt := 31) hX d_Mo_readsStore_27 rfl ?_
  refine v_istore_n (pc := 31) (lo' := [some (vR _), some (vI _), some (vI _), some (vI _)]) hX (Nat.le_of_ble_eq_true rfl) rfl d_Mo_readsStore_31 ?_
  refine v_aload_n (pc := 32) hX rfl d_Mo_readsStore_32 ?_
  refine v_dup (pc := 33) hX rfl d_Mo_readsStore_33 ?_
  refine g_getI (pc := 34) hX fl_Mo_111 rfl rfl d_Mo_readsStore_34 ?_
  rw [RS_12]
  refine v_iload_n (pc := 37) hX rfl d_Mo_readsStore_37 ?_
  refine v_if_eq (pc := 38) (tgt := 45) hX d_Mo_readsStore_38 rfl (fun h38 => False.elim (by revert h38; decide)) (fun h38 => ?_)
  refine v_iconst (pc := 41) (v := 1) hX (by decide) d_Mo_readsStore_41 ?_
  refine v_goto (pc := 42) (tgt := 46) hX d_Mo_readsStore_42 rfl ?_
  refine v_iadd (pc := 46) hX d_Mo_readsStore_46 ?_
  refine g_putI (pc := 47) hX fl_Mo_111 rfl (finI rfl rfl) rfl rfl rfl d_Mo_readsStore_47 ?_
  rw [show i3 0 + 1 = i3 1 from rfl, RS_at]
  refine VW.cast (lo' := [some (vR 36), some (vI (i3 F)), some (vI (i3 m)), some (vI 1)]) (st' := []) (G' := gM (RS M q (1 + 6 * 0) 0 0 (0))) rfl rfl rfl ?_
  refine v_for (X := X) (head := 50) (nJ q m) (fun kk => [some (vR 36), some (vI (i3 F)), some (vI (i3 m)), some (vI 1)]) (fun kk => RS M q (1 + 6 * kk) kk 0 (0)) (fun k hk ih50 => ?_) ?_
  · show VW X 50 [some (vR 36), some (vI (i3 F)), some (vI (i3 m)), some (vI 1)] [] (gM (RS M q (1 + 6 * k) k 0 (0)))
    have hgk := nJ_lt hk
    have hle := nJ_le q m
    refine v_iload_n (pc := 50) hX rfl d_Mo_readsStore_50 ?_
    refine v_if_eq (pc := 51) (tgt := 82) hX d_Mo_readsStore_51 rfl (fun h51 => False.elim (by revert h51; decide)) (fun h51 => ?_)
    refine v_aload_n (pc := 54) hX rfl d_Mo_readsStore_54 ?_
    refine g_getI (pc := 55) hX fl_Mo_120 rfl rfl d_Mo_readsStore_55 ?_
    rw [RS_13]
    refine v_if_eq (pc := 58) (tgt := 72) hX d_Mo_readsStore_58 rfl (fun h58 => ?_) (fun h58 => ?_)
    · refine v_aload_n (pc := 72) hX rfl d_Mo_readsStore_72 ?_
      refine v_iload_n (pc := 73) hX rfl d_Mo_readsStore_73 ?_
      refine v_iload_n (pc := 74) hX rfl d_Mo_readsStore_74 ?_
      refine f_callV (pc := 75) hX k_Mo_readsJar ki_Mo_readsJar kv_Mo_readsJar ml_Mo_130 (C_Mo_rJ_yes (x := k) hF hm hq (by omega) hgk) rfl rfl rfl rfl rfl (Nat.le_of_ble_eq_true rfl) (Nat.le_of_ble_eq_true rfl) (Nat.le_of_ble_eq_true rfl) d_Mo_readsStore_75 ?_
      refine v_istore_n (pc := 78) (lo' := [some (vR _), some (vI _), some (vI _), some (vI _)]) hX (Nat.le_of_ble_eq_true rfl) rfl d_Mo_readsStore_78 ?_
      refine v_goto (pc := 79) (tgt := 50) hX d_Mo_readsStore_79 rfl ?_
      exact VW.cast rfl rfl rfl ih50
    · refine v_aload_n (pc := 61) hX rfl d_Mo_readsStore_61 ?_
      refine v_iload_n (pc := 62) hX rfl d_Mo_readsStore_62 ?_
      refine v_iload_n (pc := 63) hX rfl d_Mo_readsStore_63 ?_
      refine f_callV (pc := 64) hX k_Mo_codeAt ki_Mo_codeAt kv_Mo_codeAt ml_Mo_114 (C_Mo_codeAt (r := 1 + 6 * k) hF hm hq (by omega)) rfl rfl rfl rfl rfl (Nat.le_of_ble_eq_true rfl) (Nat.le_of_ble_eq_true rfl) (Nat.le_of_ble_eq_true rfl) d_Mo_readsStore_64 ?_
      refine v_bipush (pc := 67) (v := 59) hX (by decide) d_Mo_readsStore_67 ?_
      refine v_icmp_ne (pc := 69) (tgt := 82) hX d_Mo_readsStore_69 rfl (fun h69 => False.elim (h69 ((cdA_st (by decide)).mpr hgk.1))) (fun h69 => ?_)
      refine v_aload_n (pc := 72) hX rfl d_Mo_readsStore_72 ?_
      refine v_iload_n (pc := 73) hX rfl d_Mo_readsStore_73 ?_
      refine v_iload_n (pc := 74) hX rfl d_Mo_readsStore_74 ?_
      refine f_callV (pc := 75) hX k_Mo_readsJar ki_Mo_readsJar kv_Mo_readsJar ml_Mo_130 (C_Mo_rJ_yes (x := k) hF hm hq (by omega) hgk) rfl rfl rfl rfl rfl (Nat.le_of_ble_eq_true rfl) (Nat.le_of_ble_eq_true rfl) (Nat.le_of_ble_eq_true rfl) d_Mo_readsStore_75 ?_
      refine v_istore_n (pc := 78) (lo' := [some (vR _), some (vI _), some (vI _), some (vI _)]) hX (Nat.le_of_ble_eq_true rfl) rfl d_Mo_readsStore_78 ?_
      refine v_goto (pc := 79) (tgt := 50) hX d_Mo_readsStore_79 rfl ?_
      exact VW.cast rfl rfl rfl ih50
  · show VW X 50 [some (vR 36), some (vI (i3 F)), some (vI (i3 m)), some (vI 1)] [] (gM (RS M q (1 + 6 * (nJ q m)) (nJ q m) 0 (0)))
    have hle := nJ_le q m
    refine v_iload_n (pc := 50) hX rfl d_Mo_readsStore_50 ?_
    refine v_if_eq (pc := 51) (tgt := 82) hX d_Mo_readsStore_51 rfl (fun h51 => False.elim (by revert h51; decide)) (fun h51 => ?_)
    refine v_aload_n (pc := 54) hX rfl d_Mo_readsStore_54 ?_
    refine g_getI (pc := 55) hX fl_Mo_120 rfl rfl d_Mo_readsStore_55 ?_
    rw [RS_13]
    refine v_if_eq (pc := 58) (tgt := 72) hX d_Mo_readsStore_58 rfl (fun h58 => ?_) (fun h58 => ?_)
    · refine v_aload_n (pc := 72) hX rfl d_Mo_readsStore_72 ?_
      refine v_iload_n (pc := 73) hX rfl d_Mo_readsStore_73 ?_
      refine v_iload_n (pc := 74) hX rfl d_Mo_readsStore_74 ?_
      refine f_callV (pc := 75) hX k_Mo_readsJar ki_Mo_readsJar kv_Mo_readsJar ml_Mo_130 (C_Mo_rJ_no (x := nJ q m) hF hm hq (by omega) nJ_end) rfl rfl rfl rfl rfl (Nat.le_of_ble_eq_true rfl) (Nat.le_of_ble_eq_true rfl) (Nat.le_of_ble_eq_true rfl) d_Mo_readsStore_75 ?_
      refine v_istore_n (pc := 78) (lo' := [some (vR _), some (vI _), some (vI _), some (vI _)]) hX (Nat.le_of_ble_eq_true rfl) rfl d_Mo_readsStore_78 ?_
      refine v_goto (pc := 79) (tgt := 50) hX d_Mo_readsStore_79 rfl ?_
      refine v_iload_n (pc := 50) hX rfl d_Mo_readsStore_50 ?_
      refine f_ifeqB (pc := 51) (tgt := 82) hX d_Mo_readsStore_51 rfl (fun h51 => ?_) (fun h51 => False.elim (by cases h51))
      refine v_iload_n (pc := 82) hX rfl d_Mo_readsStore_82 ?_
      refine f_ifeqB (pc := 83) (tgt := 111) hX d_Mo_readsStore_83 rfl (fun h83 => ?_) (fun h83 => False.elim (by cases h83))
      refine v_iload_n (pc := 111) hX rfl d_Mo_readsStore_111 ?_
      exact f_zret (pc := 112) hX hR (rfl) (rfl) d_Mo_readsStore_112
    · refine v_aload_n (pc := 61) hX rfl d_Mo_readsStore_61 ?_
      refine v_iload_n (pc := 62) hX rfl d_Mo_readsStore_62 ?_
      refine v_iload_n (pc := 63) hX rfl d_Mo_readsStore_63 ?_
      refine f_callV (pc := 64) hX k_Mo_codeAt ki_Mo_codeAt kv_Mo_codeAt ml_Mo_114 (C_Mo_codeAt (r := 1 + 6 * nJ q m) hF hm hq (by omega)) rfl rfl rfl rfl rfl (Nat.le_of_ble_eq_true rfl) (Nat.le_of_ble_eq_true rfl) (Nat.le_of_ble_eq_true rfl) d_Mo_readsStore_64 ?_
      refine v_bipush (pc := 67) (v := 59) hX (by decide) d_Mo_readsStore_67 ?_
      refine v_icmp_ne (pc := 69) (tgt := 82) hX d_Mo_readsStore_69 rfl (fun h69 => False.elim (by rcases hb with w | w; exact h58 (by rw [w]; rfl); exact h69 ((cdA_st (by decide)).mpr w))) (fun h69 => ?_)
      refine v_aload_n (pc := 72) hX rfl d_Mo_readsStore_72 ?_
      refine v_iload_n (pc := 73) hX rfl d_Mo_readsStore_73 ?_
      refine v_iload_n (pc := 74) hX rfl d_Mo_readsStore_74 ?_
      refine f_callV (pc := 75) hX k_Mo_readsJar ki_Mo_readsJar kv_Mo_readsJar ml_Mo_130 (C_Mo_rJ_no (x := nJ q m) hF hm hq (by omega) nJ_end) rfl rfl rfl rfl rfl (Nat.le_of_ble_eq_true rfl) (Nat.le_of_ble_eq_true rfl) (Nat.le_of_ble_eq_true rfl) d_Mo_readsStore_75 ?_
      refine v_istore_n (pc := 78) (lo' := [some (vR _), some (vI _), some (vI _), some (vI _)]) hX (Nat.le_of_ble_eq_true rfl) rfl d_Mo_readsStore_78 ?_
      refine v_goto (pc := 79) (tgt := 50) hX d_Mo_readsStore_79 rfl ?_
      refine v_iload_n (pc := 50) hX rfl d_Mo_readsStore_50 ?_
      refine f_ifeqB (pc := 51) (tgt := 82) hX d_Mo_readsStore_51 rfl (fun h51 => ?_) (fun h51 => False.elim (by cases h51))
      refine v_iload_n (pc := 82) hX rfl d_Mo_readsStore_82 ?_
      refine f_ifeqB (pc := 83) (tgt := 111) hX d_Mo_readsStore_83 rfl (fun h83 => ?_) (fun h83 => False.elim (by cases h83))
      refine v_iload_n (pc := 111) hX rfl d_Mo_readsStore_111 ?_
      exact f_zret (pc := 112) hX hR (rfl) (rfl) d_Mo_readsStore_112
theorem C_Mo_rs_D {M : MM} {F m : Nat} {q : Nat → Int32} (hF : F + m ≤ 240) (hm : m ≤ 60) (hq : ∀ t, t < m → M 62 (F + t) = q t) (ht : stB q m 0 116 = true) (ha : ¬ nJ q m = 0) (hs : ¬ stB q m (1 + 6 * nJ q m) 59 = true) (hb : nD q m (1 + 6 * nJ q m) = 0 ∨ 1 + 6 * nJ q m + 5 * nD q m (1 + 6 * nJ q m) < m) : AF y_Mo_readsStore c_Mo_readsStore 4 (some .boolean) 4 [vR 36, vI (i3 F), vI (i3 m)] (M) (some (vI (bI false))) (RS M q (fD q m (1 + 6 * nJ q m) (nD q m (1 + 6 * nJ q m))) (nJ q m) (nD q m (1 + 6 * nJ q m)) (1 + 6 * nJ q m)) := by
  refine AF.of k_Mo_readsStore (lo := [some (vR 36), some (vI (i3 F)), some (vI (i3 m)), none]) rfl (Nat.le_of_ble_eq_true rfl) (fun X hX hR => ?_)
  refine v_aload_n (pc := 0) hX rfl d_Mo_readsStore_0 ?_
  refine v_iconst (pc := 1) (v := 0) hX (by decide) d_Mo_readsStore_1 ?_
  refine g_putI (pc := 2) hX fl_Mo_111 rfl (finI rfl rfl) rfl rfl rfl d_Mo_readsStore_2 ?_
  refine v_aload_n (pc := 5) hX rfl d_Mo_readsStore_5 ?_
  refine v_iconst (pc := 6) (v := 0) hX (by decide) d_Mo_readsStore_6 ?_
  refine g_putI (pc := 7) hX fl_Mo_120 rfl (finI rfl rfl) rfl rfl rfl d_Mo_readsStore_7 ?_
  refine v_aload_n (pc := 10) hX rfl d_Mo_readsStore_10 ?_
  refine v_iconst (pc := 11) (v := 0) hX (by decide) d_Mo_readsStore_11 ?_
  refine g_putI (pc := 12) hX fl_Mo_127 rfl (finI rfl rfl) rfl rfl rfl d_Mo_readsStore_12 ?_
  rw [RS_0 (q := q) (P := 1 + 6 * nJ q m)]
  refine v_aload_n (pc := 15) hX rfl d_Mo_readsStore_15 ?_
  refine v_iload_n (pc := 16) hX rfl d_Mo_readsStore_16 ?_
  refine v_iload_n (pc := 17) hX rfl d_Mo_readsStore_17 ?_
  refine f_callV (pc := 18) hX k_Mo_codeAt ki_Mo_codeAt kv_Mo_codeAt ml_Mo_114 (C_Mo_codeAt (r := 0) hF hm hq (by omega)) rfl rfl rfl rfl rfl (Nat.le_of_ble_eq_true rfl) (Nat.le_of_ble_eq_true rfl) (Nat.le_of_ble_eq_true rfl) d_Mo_readsStore_18 ?_
  refine v_bipush (pc := 21) (v := 116) hX (by decide) d_Mo_readsStore_21 ?_
  refine v_icmp_ne (pc := 23) (tgt := 30) hX d_Mo_readsStore_23 rfl (fun h23 => False.elim (h23 ((cdA_st (by decide)).mpr ht))) (fun h23 => ?_)
  refine v_iconst (pc := 26) (v := 1) hX (by decide) d_Mo_readsStore_26 ?_
  refine v_goto (pc := 27) (tgt := 31) hX d_Mo_readsStore_27 rfl ?_
  refine v_istore_n (pc := 31) (lo' := [some (vR _), some (vI _), some (vI _), some (vI _)]) hX (Nat.le_of_ble_eq_true rfl) rfl d_Mo_readsStore_31 ?_
  refine v_aload_n (pc := 32) hX rfl d_Mo_readsStore_32 ?_
  refine v_dup (pc := 33) hX rfl d_Mo_readsStore_33 ?_
  refine g_getI (pc := 34) hX fl_Mo_111 rfl rfl d_Mo_readsStore_34 ?_
  rw [RS_12]
  refine v_iload_n (pc := 37) hX rfl d_Mo_readsStore_37 ?_
  refine v_if_eq (pc := 38) (tgt := 45) hX d_Mo_readsStore_38 rfl (fun h38 => False.elim (by revert h38; decide)) (fun h38 => ?_)
  refine v_iconst (pc := 41) (v := 1) hX (by decide) d_Mo_readsStore_41 ?_
  refine v_goto (pc := 42) (tgt := 46) hX d_Mo_readsStore_42 rfl ?_
  refine v_iadd (pc := 46) hX d_Mo_readsStore_46 ?_
  refine g_putI (pc := 47) hX fl_Mo_111 rfl (finI rfl rfl) rfl rfl rfl d_Mo_readsStore_47 ?_
  rw [show i3 0 + 1 = i3 1 from rfl, RS_at]
  refine VW.cast (lo' := [some (vR 36), some (vI (i3 F)), some (vI (i3 m)), some (vI 1)]) (st' := []) (G' := gM (RS M q (1 + 6 * 0) 0 0 (1 + 6 * nJ q m))) rfl rfl rfl ?_
  refine v_for (X := X) (head := 50) (nJ q m) (fun kk => [some (vR 36), some (vI (i3 F)), some (vI (i3 m)), some (vI 1)]) (fun kk => RS M q (1 + 6 * kk) kk 0 (1 + 6 * nJ q m)) (fun k hk ih50 => ?_) ?_
  · show VW X 50 [some (vR 36), some (vI (i3 F)), some (vI (i3 m)), some (vI 1)] [] (gM (RS M q (1 + 6 * k) k 0 (1 + 6 * nJ q m)))
    have hgk := nJ_lt hk
    have hle := nJ_le q m
    refine v_iload_n (pc := 50) hX rfl d_Mo_readsStore_50 ?_
    refine v_if_eq (pc := 51) (tgt := 82) hX d_Mo_readsStore_51 rfl (fun h51 => False.elim (by revert h51; decide)) (fun h51 => ?_)
    refine v_aload_n (pc := 54) hX rfl d_Mo_readsStore_54 ?_
    refine g_getI (pc := 55) hX fl_Mo_120 rfl rfl d_Mo_readsStore_55 ?_
    rw [RS_13]
    refine v_if_eq (pc := 58) (tgt := 72) hX d_Mo_readsStore_58 rfl (fun h58 => ?_) (fun h58 => ?_)
    · refine v_aload_n (pc := 72) hX rfl d_Mo_readsStore_72 ?_
      refine v_iload_n (pc := 73) hX rfl d_Mo_readsStore_73 ?_
      refine v_iload_n (pc := 74) hX rfl d_Mo_readsStore_74 ?_
      refine f_callV (pc := 75) hX k_Mo_readsJar ki_Mo_readsJar kv_Mo_readsJar ml_Mo_130 (C_Mo_rJ_yes (x := k) hF hm hq (by omega) hgk) rfl rfl rfl rfl rfl (Nat.le_of_ble_eq_true rfl) (Nat.le_of_ble_eq_true rfl) (Nat.le_of_ble_eq_true rfl) d_Mo_readsStore_75 ?_
      refine v_istore_n (pc := 78) (lo' := [some (vR _), some (vI _), some (vI _), some (vI _)]) hX (Nat.le_of_ble_eq_true rfl) rfl d_Mo_readsStore_78 ?_
      refine v_goto (pc := 79) (tgt := 50) hX d_Mo_readsStore_79 rfl ?_
      exact VW.cast rfl rfl rfl ih50
    · refine v_aload_n (pc := 61) hX rfl d_Mo_readsStore_61 ?_
      refine v_iload_n (pc := 62) hX rfl d_Mo_readsStore_62 ?_
      refine v_iload_n (pc := 63) hX rfl d_Mo_readsStore_63 ?_
      refine f_callV (pc := 64) hX k_Mo_codeAt ki_Mo_codeAt kv_Mo_codeAt ml_Mo_114 (C_Mo_codeAt (r := 1 + 6 * k) hF hm hq (by omega)) rfl rfl rfl rfl rfl (Nat.le_of_ble_eq_true rfl) (Nat.le_of_ble_eq_true rfl) (Nat.le_of_ble_eq_true rfl) d_Mo_readsStore_64 ?_
      refine v_bipush (pc := 67) (v := 59) hX (by decide) d_Mo_readsStore_67 ?_
      refine v_icmp_ne (pc := 69) (tgt := 82) hX d_Mo_readsStore_69 rfl (fun h69 => False.elim (h69 ((cdA_st (by decide)).mpr hgk.1))) (fun h69 => ?_)
      refine v_aload_n (pc := 72) hX rfl d_Mo_readsStore_72 ?_
      refine v_iload_n (pc := 73) hX rfl d_Mo_readsStore_73 ?_
      refine v_iload_n (pc := 74) hX rfl d_Mo_readsStore_74 ?_
      refine f_callV (pc := 75) hX k_Mo_readsJar ki_Mo_readsJar kv_Mo_readsJar ml_Mo_130 (C_Mo_rJ_yes (x := k) hF hm hq (by omega) hgk) rfl rfl rfl rfl rfl (Nat.le_of_ble_eq_true rfl) (Nat.le_of_ble_eq_true rfl) (Nat.le_of_ble_eq_true rfl) d_Mo_readsStore_75 ?_
      refine v_istore_n (pc := 78) (lo' := [some (vR _), some (vI _), some (vI _), some (vI _)]) hX (Nat.le_of_ble_eq_true rfl) rfl d_Mo_readsStore_78 ?_
      refine v_goto (pc := 79) (tgt := 50) hX d_Mo_readsStore_79 rfl ?_
      exact VW.cast rfl rfl rfl ih50
  · show VW X 50 [some (vR 36), some (vI (i3 F)), some (vI (i3 m)), some (vI 1)] [] (gM (RS M q (1 + 6 * (nJ q m)) (nJ q m) 0 (1 + 6 * nJ q m)))
    have hle := nJ_le q m
    refine v_iload_n (pc := 50) hX rfl d_Mo_readsStore_50 ?_
    refine v_if_eq (pc := 51) (tgt := 82) hX d_Mo_readsStore_51 rfl (fun h51 => False.elim (by revert h51; decide)) (fun h51 => ?_)
    refine v_aload_n (pc := 54) hX rfl d_Mo_readsStore_54 ?_
    refine g_getI (pc := 55) hX fl_Mo_120 rfl rfl d_Mo_readsStore_55 ?_
    rw [RS_13]
    refine v_if_eq (pc := 58) (tgt := 72) hX d_Mo_readsStore_58 rfl (fun h58 => False.elim (ha (by have := (i3_inj (a := nJ q m) (b := 0) (by omega) (by decide)).mp h58; exact this))) (fun h58 => ?_)
    refine v_aload_n (pc := 61) hX rfl d_Mo_readsStore_61 ?_
    refine v_iload_n (pc := 62) hX rfl d_Mo_readsStore_62 ?_
    refine v_iload_n (pc := 63) hX rfl d_Mo_readsStore_63 ?_
    refine f_callV (pc := 64) hX k_Mo_codeAt ki_Mo_codeAt kv_Mo_codeAt ml_Mo_114 (C_Mo_codeAt (r := 1 + 6 * nJ q m) hF hm hq (by omega)) rfl rfl rfl rfl rfl (Nat.le_of_ble_eq_true rfl) (Nat.le_of_ble_eq_true rfl) (Nat.le_of_ble_eq_true rfl) d_Mo_readsStore_64 ?_
    refine v_bipush (pc := 67) (v := 59) hX (by decide) d_Mo_readsStore_67 ?_
    refine v_icmp_ne (pc := 69) (tgt := 82) hX d_Mo_readsStore_69 rfl (fun h69 => ?_) (fun h69 => False.elim (hs ((cdA_st (by decide)).mp h69)))
    refine VW.cast (lo' := [some (vR 36), some (vI (i3 F)), some (vI (i3 m)), some (vI 1)]) (st' := []) (G' := gM (RS M q (1 + 6 * nJ q m + 5 * 0) (nJ q m) 0 (1 + 6 * nJ q m))) rfl rfl rfl ?_
    refine v_for (X := X) (head := 82) (nD q m (1 + 6 * nJ q m)) (fun kk => [some (vR 36), some (vI (i3 F)), some (vI (i3 m)), some (vI 1)]) (fun kk => RS M q (1 + 6 * nJ q m + 5 * kk) (nJ q m) kk (1 + 6 * nJ q m)) (fun k hk ih82 => ?_) ?_
    · show VW X 82 [some (vR 36), some (vI (i3 F)), some (vI (i3 m)), some (vI 1)] [] (gM (RS M q (1 + 6 * nJ q m + 5 * k) (nJ q m) k (1 + 6 * nJ q m)))
      have hgk := nD_lt hk
      have hle2 := nD_le q m (1 + 6 * nJ q m)
      refine v_iload_n (pc := 82) hX rfl d_Mo_readsStore_82 ?_
      refine v_if_eq (pc := 83) (tgt := 111) hX d_Mo_readsStore_83 rfl (fun h83 => False.elim (by revert h83; decide)) (fun h83 => ?_)
      refine v_aload_n (pc := 86) hX rfl d_Mo_readsStore_86 ?_
      refine g_getI (pc := 87) hX fl_Mo_127 rfl rfl d_Mo_readsStore_87 ?_
      rw [RS_14]
      refine v_if_eq (pc := 90) (tgt := 101) hX d_Mo_readsStore_90 rfl (fun h90 => ?_) (fun h90 => ?_)
      · refine v_aload_n (pc := 101) hX rfl d_Mo_readsStore_101 ?_
        refine v_iload_n (pc := 102) hX rfl d_Mo_readsStore_102 ?_
        refine v_iload_n (pc := 103) hX rfl d_Mo_readsStore_103 ?_
        refine f_callV (pc := 104) hX k_Mo_readsDecider ki_Mo_readsDecider kv_Mo_readsDecider ml_Mo_134 (C_Mo_rD_yes (y := k) hF hm hq (by omega) (by omega) hgk) rfl rfl rfl rfl rfl (Nat.le_of_ble_eq_true rfl) (Nat.le_of_ble_eq_true rfl) (Nat.le_of_ble_eq_true rfl) d_Mo_readsStore_104 ?_
        refine v_istore_n (pc := 107) (lo' := [some (vR _), some (vI _), some (vI _), some (vI _)]) hX (Nat.le_of_ble_eq_true rfl) rfl d_Mo_readsStore_107 ?_
        refine v_goto (pc := 108) (tgt := 82) hX d_Mo_readsStore_108 rfl ?_
        exact VW.cast rfl rfl rfl ih82
      · refine v_aload_n (pc := 93) hX rfl d_Mo_readsStore_93 ?_
        refine g_getI (pc := 94) hX fl_Mo_111 rfl rfl d_Mo_readsStore_94 ?_
        rw [RS_12]
        refine v_iload_n (pc := 97) hX rfl d_Mo_readsStore_97 ?_
        refine v_icmp_ge (pc := 98) (tgt := 111) hX d_Mo_readsStore_98 rfl (fun h98 => False.elim (by have := (i3_le (by omega) (by omega)).mp h98; have := st_lt hgk.1; omega)) (fun h98 => ?_)
        refine v_aload_n (pc := 101) hX rfl d_Mo_readsStore_101 ?_
        refine v_iload_n (pc := 102) hX rfl d_Mo_readsStore_102 ?_
        refine v_iload_n (pc := 103) hX rfl d_Mo_readsStore_103 ?_
        refine f_callV (pc := 104) hX k_Mo_readsDecider ki_Mo_readsDecider kv_Mo_readsDecider ml_Mo_134 (C_Mo_rD_yes (y := k) hF hm hq (by omega) (by omega) hgk) rfl rfl rfl rfl rfl (Nat.le_of_ble_eq_true rfl) (Nat.le_of_ble_eq_true rfl) (Nat.le_of_ble_eq_true rfl) d_Mo_readsStore_104 ?_
        refine v_istore_n (pc := 107) (lo' := [some (vR _), some (vI _), some (vI _), some (vI _)]) hX (Nat.le_of_ble_eq_true rfl) rfl d_Mo_readsStore_107 ?_
        refine v_goto (pc := 108) (tgt := 82) hX d_Mo_readsStore_108 rfl ?_
        exact VW.cast rfl rfl rfl ih82
    · show VW X 82 [some (vR 36), some (vI (i3 F)), some (vI (i3 m)), some (vI 1)] [] (gM (RS M q (1 + 6 * nJ q m + 5 * (nD q m (1 + 6 * nJ q m))) (nJ q m) (nD q m (1 + 6 * nJ q m)) (1 + 6 * nJ q m)))
      have hle2 := nD_le q m (1 + 6 * nJ q m)
      refine v_iload_n (pc := 82) hX rfl d_Mo_readsStore_82 ?_
      refine v_if_eq (pc := 83) (tgt := 111) hX d_Mo_readsStore_83 rfl (fun h83 => False.elim (by revert h83; decide)) (fun h83 => ?_)
      refine v_aload_n (pc := 86) hX rfl d_Mo_readsStore_86 ?_
      refine g_getI (pc := 87) hX fl_Mo_127 rfl rfl d_Mo_readsStore_87 ?_
      rw [RS_14]
      refine v_if_eq (pc := 90) (tgt := 101) hX d_Mo_readsStore_90 rfl (fun h90 => ?_) (fun h90 => ?_)
      · refine v_aload_n (pc := 101) hX rfl d_Mo_readsStore_101 ?_
        refine v_iload_n (pc := 102) hX rfl d_Mo_readsStore_102 ?_
        refine v_iload_n (pc := 103) hX rfl d_Mo_readsStore_103 ?_
        refine f_callV (pc := 104) hX k_Mo_readsDecider ki_Mo_readsDecider kv_Mo_readsDecider ml_Mo_134 (C_Mo_rD_no (y := nD q m (1 + 6 * nJ q m)) hF hm hq (by omega) (by omega) nD_end) rfl rfl rfl rfl rfl (Nat.le_of_ble_eq_true rfl) (Nat.le_of_ble_eq_true rfl) (Nat.le_of_ble_eq_true rfl) d_Mo_readsStore_104 ?_
        refine v_istore_n (pc := 107) (lo' := [some (vR _), some (vI _), some (vI _), some (vI _)]) hX (Nat.le_of_ble_eq_true rfl) rfl d_Mo_readsStore_107 ?_
        refine v_goto (pc := 108) (tgt := 82) hX d_Mo_readsStore_108 rfl ?_
        refine v_iload_n (pc := 82) hX rfl d_Mo_readsStore_82 ?_
        refine f_ifeqB (pc := 83) (tgt := 111) hX d_Mo_readsStore_83 rfl (fun h83 => ?_) (fun h83 => False.elim (by cases h83))
        refine v_iload_n (pc := 111) hX rfl d_Mo_readsStore_111 ?_
        exact f_zret (pc := 112) hX hR (rfl) (rfl) d_Mo_readsStore_112
      · refine v_aload_n (pc := 93) hX rfl d_Mo_readsStore_93 ?_
        refine g_getI (pc := 94) hX fl_Mo_111 rfl rfl d_Mo_readsStore_94 ?_
        rw [RS_12]
        refine v_iload_n (pc := 97) hX rfl d_Mo_readsStore_97 ?_
        refine v_icmp_ge (pc := 98) (tgt := 111) hX d_Mo_readsStore_98 rfl (fun h98 => False.elim (by have := (i3_le (by omega) (by omega)).mp h98; rcases hb with w | w; exact h90 (by rw [w]; rfl); omega)) (fun h98 => ?_)
        refine v_aload_n (pc := 101) hX rfl d_Mo_readsStore_101 ?_
        refine v_iload_n (pc := 102) hX rfl d_Mo_readsStore_102 ?_
        refine v_iload_n (pc := 103) hX rfl d_Mo_readsStore_103 ?_
        refine f_callV (pc := 104) hX k_Mo_readsDecider ki_Mo_readsDecider kv_Mo_readsDecider ml_Mo_134 (C_Mo_rD_no (y := nD q m (1 + 6 * nJ q m)) hF hm hq (by omega) (by omega) nD_end) rfl rfl rfl rfl rfl (Nat.le_of_ble_eq_true rfl) (Nat.le_of_ble_eq_true rfl) (Nat.le_of_ble_eq_true rfl) d_Mo_readsStore_104 ?_
        refine v_istore_n (pc := 107) (lo' := [some (vR _), some (vI _), some (vI _), some (vI _)]) hX (Nat.le_of_ble_eq_true rfl) rfl d_Mo_readsStore_107 ?_
        refine v_goto (pc := 108) (tgt := 82) hX d_Mo_readsStore_108 rfl ?_
        refine v_iload_n (pc := 82) hX rfl d_Mo_readsStore_82 ?_
        refine f_ifeqB (pc := 83) (tgt := 111) hX d_Mo_readsStore_83 rfl (fun h83 => ?_) (fun h83 => False.elim (by cases h83))
        refine v_iload_n (pc := 111) hX rfl d_Mo_readsStore_111 ?_
        exact f_zret (pc := 112) hX hR (rfl) (rfl) d_Mo_readsStore_112
theorem C_Mo_rs_ok {M : MM} {F m : Nat} {q : Nat → Int32} (hF : F + m ≤ 240) (hm : m ≤ 60) (hq : ∀ t, t < m → M 62 (F + t) = q t) (ht : stB q m 0 116 = true) (ha : ¬ nJ q m = 0) (hs : ¬ stB q m (1 + 6 * nJ q m) 59 = true) (hb : ¬ nD q m (1 + 6 * nJ q m) = 0) (hb2 : ¬ 1 + 6 * nJ q m + 5 * nD q m (1 + 6 * nJ q m) < m) : AF y_Mo_readsStore c_Mo_readsStore 4 (some .boolean) 4 [vR 36, vI (i3 F), vI (i3 m)] (M) (some (vI (bI true))) (RS M q (1 + 6 * nJ q m + 5 * nD q m (1 + 6 * nJ q m)) (nJ q m) (nD q m (1 + 6 * nJ q m)) (1 + 6 * nJ q m)) := by
  refine AF.of k_Mo_readsStore (lo := [some (vR 36), some (vI (i3 F)), some (vI (i3 m)), none]) rfl (Nat.le_of_ble_eq_true rfl) (fun X hX hR => ?_)
  refine v_aload_n (pc := 0) hX rfl d_Mo_readsStore_0 ?_
  refine v_iconst (pc := 1) (v := 0) hX (by decide) d_Mo_readsStore_1 ?_
  refine g_putI (pc := 2) hX fl_Mo_111 rfl (finI rfl rfl) rfl rfl rfl d_Mo_readsStore_2 ?_
  refine v_aload_n (pc := 5) hX rfl d_Mo_readsStore_5 ?_
  refine v_iconst (pc := 6) (v := 0) hX (by decide) d_Mo_readsStore_6 ?_
  refine g_putI (pc := 7) hX fl_Mo_120 rfl (finI rfl rfl) rfl rfl rfl d_Mo_readsStore_7 ?_
  refine v_aload_n (pc := 10) hX rfl d_Mo_readsStore_10 ?_
  refine v_iconst (pc := 11) (v := 0) hX (by decide) d_Mo_readsStore_11 ?_
  refine g_putI (pc := 12) hX fl_Mo_127 rfl (finI rfl rfl) rfl rfl rfl d_Mo_readsStore_12 ?_
  rw [RS_0 (q := q) (P := 1 + 6 * nJ q m)]
  refine v_aload_n (pc := 15) hX rfl d_Mo_readsStore_15 ?_
  refine v_iload_n (pc := 16) hX rfl d_Mo_readsStore_16 ?_
  refine v_iload_n (pc := 17) hX rfl d_Mo_readsStore_17 ?_
  refine f_callV (pc := 18) hX k_Mo_codeAt ki_Mo_codeAt kv_Mo_codeAt ml_Mo_114 (C_Mo_codeAt (r := 0) hF hm hq (by omega)) rfl rfl rfl rfl rfl (Nat.le_of_ble_eq_true rfl) (Nat.le_of_ble_eq_true rfl) (Nat.le_of_ble_eq_true rfl) d_Mo_readsStore_18 ?_
  refine v_bipush (pc := 21) (v := 116) hX (by decide) d_Mo_readsStore_21 ?_
  refine v_icmp_ne (pc := 23) (tgt := 30) hX d_Mo_readsStore_23 rfl (fun h23 => False.elim (h23 ((cdA_st (by decide)).mpr ht))) (fun h23 => ?_)
  refine v_iconst (pc := 26) (v := 1) hX (by decide) d_Mo_readsStore_26 ?_
  refine v_goto (pc := 27) (tgt := 31) hX d_Mo_readsStore_27 rfl ?_
  refine v_istore_n (pc := 31) (lo' := [some (vR _), some (vI _), some (vI _), some (vI _)]) hX (Nat.le_of_ble_eq_true rfl) rfl d_Mo_readsStore_31 ?_
  refine v_aload_n (pc := 32) hX rfl d_Mo_readsStore_32 ?_
  refine v_dup (pc := 33) hX rfl d_Mo_readsStore_33 ?_
  refine g_getI (pc := 34) hX fl_Mo_111 rfl rfl d_Mo_readsStore_34 ?_
  rw [RS_12]
  refine v_iload_n (pc := 37) hX rfl d_Mo_readsStore_37 ?_
  refine v_if_eq (pc := 38) (tgt := 45) hX d_Mo_readsStore_38 rfl (fun h38 => False.elim (by revert h38; decide)) (fun h38 => ?_)
  refine v_iconst (pc := 41) (v := 1) hX (by decide) d_Mo_readsStore_41 ?_
  refine v_goto (pc := 42) (tgt := 46) hX d_Mo_readsStore_42 rfl ?_
  refine v_iadd (pc := 46) hX d_Mo_readsStore_46 ?_
  refine g_putI (pc := 47) hX fl_Mo_111 rfl (finI rfl rfl) rfl rfl rfl d_Mo_readsStore_47 ?_
  rw [show i3 0 + 1 = i3 1 from rfl, RS_at]
  refine VW.cast (lo' := [some (vR 36), some (vI (i3 F)), some (vI (i3 m)), some (vI 1)]) (st' := []) (G' := gM (RS M q (1 + 6 * 0) 0 0 (1 + 6 * nJ q m))) rfl rfl rfl ?_
  refine v_for (X := X) (head := 50) (nJ q m) (fun kk => [some (vR 36), some (vI (i3 F)), some (vI (i3 m)), some (vI 1)]) (fun kk => RS M q (1 + 6 * kk) kk 0 (1 + 6 * nJ q m)) (fun k hk ih50 => ?_) ?_
  · show VW X 50 [some (vR 36), some (vI (i3 F)), some (vI (i3 m)), some (vI 1)] [] (gM (RS M q (1 + 6 * k) k 0 (1 + 6 * nJ q m)))
    have hgk := nJ_lt hk
    have hle := nJ_le q m
    refine v_iload_n (pc := 50) hX rfl d_Mo_readsStore_50 ?_
    refine v_if_eq (pc := 51) (tgt := 82) hX d_Mo_readsStore_51 rfl (fun h51 => False.elim (by revert h51; decide)) (fun h51 => ?_)
    refine v_aload_n (pc := 54) hX rfl d_Mo_readsStore_54 ?_
    refine g_getI (pc := 55) hX fl_Mo_120 rfl rfl d_Mo_readsStore_55 ?_
    rw [RS_13]
    refine v_if_eq (pc := 58) (tgt := 72) hX d_Mo_readsStore_58 rfl (fun h58 => ?_) (fun h58 => ?_)
    · refine v_aload_n (pc := 72) hX rfl d_Mo_readsStore_72 ?_
      refine v_iload_n (pc := 73) hX rfl d_Mo_readsStore_73 ?_
      refine v_iload_n (pc := 74) hX rfl d_Mo_readsStore_74 ?_
      refine f_callV (pc := 75) hX k_Mo_readsJar ki_Mo_readsJar kv_Mo_readsJar ml_Mo_130 (C_Mo_rJ_yes (x := k) hF hm hq (by omega) hgk) rfl rfl rfl rfl rfl (Nat.le_of_ble_eq_true rfl) (Nat.le_of_ble_eq_true rfl) (Nat.le_of_ble_eq_true rfl) d_Mo_readsStore_75 ?_
      refine v_istore_n (pc := 78) (lo' := [some (vR _), some (vI _), some (vI _), some (vI _)]) hX (Nat.le_of_ble_eq_true rfl) rfl d_Mo_readsStore_78 ?_
      refine v_goto (pc := 79) (tgt := 50) hX d_Mo_readsStore_79 rfl ?_
      exact VW.cast rfl rfl rfl ih50
    · refine v_aload_n (pc := 61) hX rfl d_Mo_readsStore_61 ?_
      refine v_iload_n (pc := 62) hX rfl d_Mo_readsStore_62 ?_
      refine v_iload_n (pc := 63) hX rfl d_Mo_readsStore_63 ?_
      refine f_callV (pc := 64) hX k_Mo_codeAt ki_Mo_codeAt kv_Mo_codeAt ml_Mo_114 (C_Mo_codeAt (r := 1 + 6 * k) hF hm hq (by omega)) rfl rfl rfl rfl rfl (Nat.le_of_ble_eq_true rfl) (Nat.le_of_ble_eq_true rfl) (Nat.le_of_ble_eq_true rfl) d_Mo_readsStore_64 ?_
      refine v_bipush (pc := 67) (v := 59) hX (by decide) d_Mo_readsStore_67 ?_
      refine v_icmp_ne (pc := 69) (tgt := 82) hX d_Mo_readsStore_69 rfl (fun h69 => False.elim (h69 ((cdA_st (by decide)).mpr hgk.1))) (fun h69 => ?_)
      refine v_aload_n (pc := 72) hX rfl d_Mo_readsStore_72 ?_
      refine v_iload_n (pc := 73) hX rfl d_Mo_readsStore_73 ?_
      refine v_iload_n (pc := 74) hX rfl d_Mo_readsStore_74 ?_
      refine f_callV (pc := 75) hX k_Mo_readsJar ki_Mo_readsJar kv_Mo_readsJar ml_Mo_130 (C_Mo_rJ_yes (x := k) hF hm hq (by omega) hgk) rfl rfl rfl rfl rfl (Nat.le_of_ble_eq_true rfl) (Nat.le_of_ble_eq_true rfl) (Nat.le_of_ble_eq_true rfl) d_Mo_readsStore_75 ?_
      refine v_istore_n (pc := 78) (lo' := [some (vR _), some (vI _), some (vI _), some (vI _)]) hX (Nat.le_of_ble_eq_true rfl) rfl d_Mo_readsStore_78 ?_
      refine v_goto (pc := 79) (tgt := 50) hX d_Mo_readsStore_79 rfl ?_
      exact VW.cast rfl rfl rfl ih50
  · show VW X 50 [some (vR 36), some (vI (i3 F)), some (vI (i3 m)), some (vI 1)] [] (gM (RS M q (1 + 6 * (nJ q m)) (nJ q m) 0 (1 + 6 * nJ q m)))
    have hle := nJ_le q m
    refine v_iload_n (pc := 50) hX rfl d_Mo_readsStore_50 ?_
    refine v_if_eq (pc := 51) (tgt := 82) hX d_Mo_readsStore_51 rfl (fun h51 => False.elim (by revert h51; decide)) (fun h51 => ?_)
    refine v_aload_n (pc := 54) hX rfl d_Mo_readsStore_54 ?_
    refine g_getI (pc := 55) hX fl_Mo_120 rfl rfl d_Mo_readsStore_55 ?_
    rw [RS_13]
    refine v_if_eq (pc := 58) (tgt := 72) hX d_Mo_readsStore_58 rfl (fun h58 => False.elim (ha (by have := (i3_inj (a := nJ q m) (b := 0) (by omega) (by decide)).mp h58; exact this))) (fun h58 => ?_)
    refine v_aload_n (pc := 61) hX rfl d_Mo_readsStore_61 ?_
    refine v_iload_n (pc := 62) hX rfl d_Mo_readsStore_62 ?_
    refine v_iload_n (pc := 63) hX rfl d_Mo_readsStore_63 ?_
    refine f_callV (pc := 64) hX k_Mo_codeAt ki_Mo_codeAt kv_Mo_codeAt ml_Mo_114 (C_Mo_codeAt (r := 1 + 6 * nJ q m) hF hm hq (by omega)) rfl rfl rfl rfl rfl (Nat.le_of_ble_eq_true rfl) (Nat.le_of_ble_eq_true rfl) (Nat.le_of_ble_eq_true rfl) d_Mo_readsStore_64 ?_
    refine v_bipush (pc := 67) (v := 59) hX (by decide) d_Mo_readsStore_67 ?_
    refine v_icmp_ne (pc := 69) (tgt := 82) hX d_Mo_readsStore_69 rfl (fun h69 => ?_) (fun h69 => False.elim (hs ((cdA_st (by decide)).mp h69)))
    refine VW.cast (lo' := [some (vR 36), some (vI (i3 F)), some (vI (i3 m)), some (vI 1)]) (st' := []) (G' := gM (RS M q (1 + 6 * nJ q m + 5 * 0) (nJ q m) 0 (1 + 6 * nJ q m))) rfl rfl rfl ?_
    refine v_for (X := X) (head := 82) (nD q m (1 + 6 * nJ q m)) (fun kk => [some (vR 36), some (vI (i3 F)), some (vI (i3 m)), some (vI 1)]) (fun kk => RS M q (1 + 6 * nJ q m + 5 * kk) (nJ q m) kk (1 + 6 * nJ q m)) (fun k hk ih82 => ?_) ?_
    · show VW X 82 [some (vR 36), some (vI (i3 F)), some (vI (i3 m)), some (vI 1)] [] (gM (RS M q (1 + 6 * nJ q m + 5 * k) (nJ q m) k (1 + 6 * nJ q m)))
      have hgk := nD_lt hk
      have hle2 := nD_le q m (1 + 6 * nJ q m)
      refine v_iload_n (pc := 82) hX rfl d_Mo_readsStore_82 ?_
      refine v_if_eq (pc := 83) (tgt := 111) hX d_Mo_readsStore_83 rfl (fun h83 => False.elim (by revert h83; decide)) (fun h83 => ?_)
      refine v_aload_n (pc := 86) hX rfl d_Mo_readsStore_86 ?_
      refine g_getI (pc := 87) hX fl_Mo_127 rfl rfl d_Mo_readsStore_87 ?_
      rw [RS_14]
      refine v_if_eq (pc := 90) (tgt := 101) hX d_Mo_readsStore_90 rfl (fun h90 => ?_) (fun h90 => ?_)
      · refine v_aload_n (pc := 101) hX rfl d_Mo_readsStore_101 ?_
        refine v_iload_n (pc := 102) hX rfl d_Mo_readsStore_102 ?_
        refine v_iload_n (pc := 103) hX rfl d_Mo_readsStore_103 ?_
        refine f_callV (pc := 104) hX k_Mo_readsDecider ki_Mo_readsDecider kv_Mo_readsDecider ml_Mo_134 (C_Mo_rD_yes (y := k) hF hm hq (by omega) (by omega) hgk) rfl rfl rfl rfl rfl (Nat.le_of_ble_eq_true rfl) (Nat.le_of_ble_eq_true rfl) (Nat.le_of_ble_eq_true rfl) d_Mo_readsStore_104 ?_
        refine v_istore_n (pc := 107) (lo' := [some (vR _), some (vI _), some (vI _), some (vI _)]) hX (Nat.le_of_ble_eq_true rfl) rfl d_Mo_readsStore_107 ?_
        refine v_goto (pc := 108) (tgt := 82) hX d_Mo_readsStore_108 rfl ?_
        exact VW.cast rfl rfl rfl ih82
      · refine v_aload_n (pc := 93) hX rfl d_Mo_readsStore_93 ?_
        refine g_getI (pc := 94) hX fl_Mo_111 rfl rfl d_Mo_readsStore_94 ?_
        rw [RS_12]
        refine v_iload_n (pc := 97) hX rfl d_Mo_readsStore_97 ?_
        refine v_icmp_ge (pc := 98) (tgt := 111) hX d_Mo_readsStore_98 rfl (fun h98 => False.elim (by have := (i3_le (by omega) (by omega)).mp h98; have := st_lt hgk.1; omega)) (fun h98 => ?_)
        refine v_aload_n (pc := 101) hX rfl d_Mo_readsStore_101 ?_
        refine v_iload_n (pc := 102) hX rfl d_Mo_readsStore_102 ?_
        refine v_iload_n (pc := 103) hX rfl d_Mo_readsStore_103 ?_
        refine f_callV (pc := 104) hX k_Mo_readsDecider ki_Mo_readsDecider kv_Mo_readsDecider ml_Mo_134 (C_Mo_rD_yes (y := k) hF hm hq (by omega) (by omega) hgk) rfl rfl rfl rfl rfl (Nat.le_of_ble_eq_true rfl) (Nat.le_of_ble_eq_true rfl) (Nat.le_of_ble_eq_true rfl) d_Mo_readsStore_104 ?_
        refine v_istore_n (pc := 107) (lo' := [some (vR _), some (vI _), some (vI _), some (vI _)]) hX (Nat.le_of_ble_eq_true rfl) rfl d_Mo_readsStore_107 ?_
        refine v_goto (pc := 108) (tgt := 82) hX d_Mo_readsStore_108 rfl ?_
        exact VW.cast rfl rfl rfl ih82
    · show VW X 82 [some (vR 36), some (vI (i3 F)), some (vI (i3 m)), some (vI 1)] [] (gM (RS M q (1 + 6 * nJ q m + 5 * (nD q m (1 + 6 * nJ q m))) (nJ q m) (nD q m (1 + 6 * nJ q m)) (1 + 6 * nJ q m)))
      have hle2 := nD_le q m (1 + 6 * nJ q m)
      refine v_iload_n (pc := 82) hX rfl d_Mo_readsStore_82 ?_
      refine v_if_eq (pc := 83) (tgt := 111) hX d_Mo_readsStore_83 rfl (fun h83 => False.elim (by revert h83; decide)) (fun h83 => ?_)
      refine v_aload_n (pc := 86) hX rfl d_Mo_readsStore_86 ?_
      refine g_getI (pc := 87) hX fl_Mo_127 rfl rfl d_Mo_readsStore_87 ?_
      rw [RS_14]
      refine v_if_eq (pc := 90) (tgt := 101) hX d_Mo_readsStore_90 rfl (fun h90 => False.elim (hb (by have := (i3_inj (a := nD q m (1 + 6 * nJ q m)) (b := 0) (by omega) (by decide)).mp h90; exact this))) (fun h90 => ?_)
      refine v_aload_n (pc := 93) hX rfl d_Mo_readsStore_93 ?_
      refine g_getI (pc := 94) hX fl_Mo_111 rfl rfl d_Mo_readsStore_94 ?_
      rw [RS_12]
      refine v_iload_n (pc := 97) hX rfl d_Mo_readsStore_97 ?_
      refine v_icmp_ge (pc := 98) (tgt := 111) hX d_Mo_readsStore_98 rfl (fun h98 => ?_) (fun h98 => False.elim (h98 ((i3_le (by omega) (by omega)).mpr (by omega))))
      refine v_iload_n (pc := 111) hX rfl d_Mo_readsStore_111 ?_
      exact f_zret (pc := 112) hX hR (rfl) (rfl) d_Mo_readsStore_112
theorem st0 {q : Nat → Int32} {m : Nat} : stB q m 0 116 = true ↔ (0 < m ∧ q 0 = 116) := by
  unfold stB
  rw [Bool.and_eq_true, decide_eq_true_eq, decide_eq_true_eq]
theorem C_Mo_rs_no {M : MM} {F m f : Nat} {q : Nat → Int32} (hF : F + m ≤ 240) (hm : m ≤ 60) (hq : ∀ t, t < m → M 62 (F + t) = q t) (hf : ffO q m = some f) : ∃ x y P, AF y_Mo_readsStore c_Mo_readsStore 4 (some .boolean) 4 [vR 36, vI (i3 F), vI (i3 m)] M (some (vI (bI false))) (RS M q f x y P) := by
  have hle := nJ_le q m
  unfold ffO at hf
  by_cases ht : stB q m 0 116 = true
  · rw [if_neg (fun w => w (st0.mp ht))] at hf
    by_cases h1 : nJ q m < 6 ∧ stB q m (1 + 6 * nJ q m) 59 = true
    · rw [if_pos h1] at hf
      have e : fJ q m (nJ q m) = f := by unfold fJ; rw [if_pos h1]; exact Option.some.inj hf
      exact ⟨_, _, _, e ▸ C_Mo_rs_B hF hm hq ht (Or.inr h1.2)⟩
    · rw [if_neg h1] at hf
      have e : fJ q m (nJ q m) = 1 + 6 * nJ q m := if_neg h1
      by_cases h2 : nJ q m = 0
      · rw [if_pos h2] at hf
        have e2 : fJ q m (nJ q m) = f := by rw [e, h2]; exact Option.some.inj hf
        exact ⟨_, _, _, e2 ▸ C_Mo_rs_B hF hm hq ht (Or.inl h2)⟩
      · rw [if_neg h2] at hf
        unfold ffD at hf
        by_cases hs : stB q m (1 + 6 * nJ q m) 59 = true
        · -- six jars and one more
          have h6 : nJ q m = 6 := by
            by_cases w : nJ q m < 6
            · exact absurd ⟨w, hs⟩ h1
            · omega
          have hz : ∀ c, nD q m (1 + 6 * nJ q m) = c → c = 0 := by
            intro c hc
            by_cases w : c = 0
            · exact w
            · have w2 := (nD_lt (q := q) (m := m) (p := 1 + 6 * nJ q m) (k := 0) (by omega)).1
              exact absurd w2 (fun w2 => by
                rw [Nat.mul_zero, Nat.add_zero] at w2
                unfold stB at hs w2
                rw [Bool.and_eq_true, decide_eq_true_eq, decide_eq_true_eq] at hs w2
                rw [hs.2] at w2; exact absurd w2.2 (by decide))
          have hz0 := hz _ rfl
          rw [hz0, Nat.mul_zero, Nat.add_zero, if_neg (fun w => by
            have w2 := w.2; unfold stB at hs w2
            rw [Bool.and_eq_true, decide_eq_true_eq, decide_eq_true_eq] at hs w2
            rw [hs.2] at w2; exact absurd w2.2 (by decide)), if_pos (Or.inl rfl)] at hf
          have e2 : fJ q m (nJ q m) = f := by rw [e]; exact Option.some.inj hf
          exact ⟨_, _, _, e2 ▸ C_Mo_rs_B hF hm hq ht (Or.inr hs)⟩
        · by_cases h3 : nD q m (1 + 6 * nJ q m) < 4 ∧ stB q m (1 + 6 * nJ q m + 5 * nD q m (1 + 6 * nJ q m)) 44 = true
          · rw [if_pos h3] at hf
            have e2 : fD q m (1 + 6 * nJ q m) (nD q m (1 + 6 * nJ q m)) = f := by unfold fD; rw [if_pos h3]; exact Option.some.inj hf
            exact ⟨_, _, _, e2 ▸ C_Mo_rs_D hF hm hq ht h2 hs (Or.inr (st_lt h3.2))⟩
          · rw [if_neg h3] at hf
            by_cases h4 : nD q m (1 + 6 * nJ q m) = 0 ∨ 1 + 6 * nJ q m + 5 * nD q m (1 + 6 * nJ q m) < m
            · rw [if_pos h4] at hf
              have e2 : fD q m (1 + 6 * nJ q m) (nD q m (1 + 6 * nJ q m)) = f := by unfold fD; rw [if_neg h3]; exact Option.some.inj hf
              exact ⟨_, _, _, e2 ▸ C_Mo_rs_D hF hm hq ht h2 hs h4⟩
            · rw [if_neg h4] at hf; cases hf
  · rw [if_pos (fun w => ht (st0.mpr w))] at hf
    have e := Option.some.inj hf
    subst e
    exact ⟨_, _, _, C_Mo_rs_A hF hm hq ht⟩
theorem C_Mo_rs_yes {M : MM} {F m : Nat} {q : Nat → Int32} (hF : F + m ≤ 240) (hm : m ≤ 60) (hq : ∀ t, t < m → M 62 (F + t) = q t) (hf : ffO q m = none) : AF y_Mo_readsStore c_Mo_readsStore 4 (some .boolean) 4 [vR 36, vI (i3 F), vI (i3 m)] M (some (vI (bI true))) (RS M q (1 + 6 * nJ q m + 5 * nD q m (1 + 6 * nJ q m)) (nJ q m) (nD q m (1 + 6 * nJ q m)) (1 + 6 * nJ q m)) := by
  unfold ffO at hf
  by_cases ht : stB q m 0 116 = true
  · rw [if_neg (fun w => w (st0.mp ht))] at hf
    by_cases h1 : nJ q m < 6 ∧ stB q m (1 + 6 * nJ q m) 59 = true
    · rw [if_pos h1] at hf; cases hf
    · rw [if_neg h1] at hf
      by_cases h2 : nJ q m = 0
      · rw [if_pos h2] at hf; cases hf
      · rw [if_neg h2] at hf
        unfold ffD at hf
        by_cases h3 : nD q m (1 + 6 * nJ q m) < 4 ∧ stB q m (1 + 6 * nJ q m + 5 * nD q m (1 + 6 * nJ q m)) 44 = true
        · rw [if_pos h3] at hf; cases hf
        · rw [if_neg h3] at hf
          by_cases h4 : nD q m (1 + 6 * nJ q m) = 0 ∨ 1 + 6 * nJ q m + 5 * nD q m (1 + 6 * nJ q m) < m
          · rw [if_pos h4] at hf; cases hf
          · refine C_Mo_rs_ok hF hm hq ht h2 (fun hs => ?_) (fun w => h4 (Or.inl w)) (fun w => h4 (Or.inr w))
            have w2 := (nD_lt (q := q) (m := m) (p := 1 + 6 * nJ q m) (k := 0) (by omega)).1
            rw [Nat.mul_zero, Nat.add_zero] at w2
            unfold stB at hs w2
            rw [Bool.and_eq_true, decide_eq_true_eq, decide_eq_true_eq] at hs w2
            rw [hs.2] at w2; exact absurd w2.2 (by decide)
  · rw [if_pos (fun w => ht (st0.mpr w))] at hf; cases hf
def SJ (M : MM) (k : Nat) : MM := fun a i => if 37 ≤ a ∧ a ≤ 41 ∧ i < k then M (a + 9) i else M a i
def SD (M : MM) (k : Nat) : MM := fun a i => if 42 ≤ a ∧ a ≤ 44 ∧ i < k then M (a + 9) i else if a = 45 ∧ i < k then 0 else M a i
theorem SJ_0 (M : MM) : SJ M 0 = M := by
  funext a i; unfold SJ; rw [if_neg (by omega)]
theorem SD_0 (M : MM) : SD M 0 = M := by
  funext a i; unfold SD; rw [if_neg (by omega), if_neg (by omega)]
theorem SJ_ne {M : MM} {k a i : Nat} (h : a < 37 ∨ 41 < a ∨ k ≤ i) : SJ M k a i = M a i := by
  unfold SJ; rw [if_neg (by omega)]
theorem SD_ne {M : MM} {k a i : Nat} (h : a < 42 ∨ 45 < a ∨ k ≤ i) : SD M k a i = M a i := by
  unfold SD; rw [if_neg (by omega), if_neg (by omega)]
theorem SJ_s {M : MM} {k : Nat} {v0 v1 v2 v3 v4 : Int32} (h0 : v0 = M 46 k) (h1 : v1 = M 47 k) (h2 : v2 = M 48 k) (h3 : v3 = M 49 k) (h4 : v4 = M 50 k) :
    upM (upM (upM (upM (upM (SJ M k) 37 k v0) 38 k v1) 39 k v2) 40 k v3) 41 k v4 = SJ M (k + 1) := by
  subst h0; subst h1; subst h2; subst h3; subst h4
  funext a i
  simp only [upM, SJ]
  by_cases c4 : a = 41 ∧ i = k
  · rw [if_pos c4, if_pos (by omega), c4.1, c4.2]
  · rw [if_neg c4]
    by_cases c3 : a = 40 ∧ i = k
    · rw [if_pos c3, if_pos (by omega), c3.1, c3.2]
    · rw [if_neg c3]
      by_cases c2 : a = 39 ∧ i = k
      · rw [if_pos c2, if_pos (by omega), c2.1, c2.2]
      · rw [if_neg c2]
        by_cases c1 : a = 38 ∧ i = k
        · rw [if_pos c1, if_pos (by omega), c1.1, c1.2]
        · rw [if_neg c1]
          by_cases c0 : a = 37 ∧ i = k
          · rw [if_pos c0, if_pos (by omega), c0.1, c0.2]
          · rw [if_neg c0]
            by_cases d : 37 ≤ a ∧ a ≤ 41 ∧ i < k
            · rw [if_pos d, if_pos (by omega)]
            · rw [if_neg d, if_neg (by omega)]
theorem SD_s {M : MM} {k : Nat} {v0 v1 v2 : Int32} (h0 : v0 = M 51 k) (h1 : v1 = M 52 k) (h2 : v2 = M 53 k) :
    upM (upM (upM (upM (SD M k) 42 k v0) 43 k v1) 44 k v2) 45 k 0 = SD M (k + 1) := by
  subst h0; subst h1; subst h2
  funext a i
  simp only [upM, SD]
  by_cases c3 : a = 45 ∧ i = k
  · rw [if_pos c3, if_neg (by omega), if_pos (by omega)]
  · rw [if_neg c3]
    by_cases c2 : a = 44 ∧ i = k
    · rw [if_pos c2, if_pos (by omega), c2.1, c2.2]
    · rw [if_neg c2]
      by_cases c1 : a = 43 ∧ i = k
      · rw [if_pos c1, if_pos (by omega), c1.1, c1.2]
      · rw [if_neg c1]
        by_cases c0 : a = 42 ∧ i = k
        · rw [if_pos c0, if_pos (by omega), c0.1, c0.2]
        · rw [if_neg c0]
          by_cases d : 42 ≤ a ∧ a ≤ 44 ∧ i < k
          · rw [if_pos d, if_pos (by omega)]
          · rw [if_neg d, if_neg (show ¬ (42 ≤ a ∧ a ≤ 44 ∧ i < k + 1) by omega)]
            by_cases f : a = 45 ∧ i < k
            · rw [if_pos f, if_pos (by omega)]
            · rw [if_neg f, if_neg (by omega)]
def stO (M : MM) (q : Nat → Int32) (r x y P : Nat) : MM := upM (upM (SD (SJ (upM (upM (RS M q r x y P) 36 1 (i3 x)) 36 7 (i3 y)) x) y) 36 27 0) 36 0 0
theorem d_Mo_store_0 : decode c_Mo_store 0 = .ok (.iload_n 1, 1) := by decide +kernel
theorem d_Mo_store_1 : decode c_Mo_store 1 = .ok (.invokestatic 145, 3) := by decide +kernel
theorem d_Mo_store_4 : decode c_Mo_store 4 = .ok (.ifCond .eq 9, 3) := by decide +kernel
theorem d_Mo_store_7 : decode c_Mo_store 7 = .ok (.aload_n 0, 1) := by decide +kernel
theorem d_Mo_store_8 : decode c_Mo_store 8 = .ok (.iconst (-1), 1) := by decide +kernel
theorem d_Mo_store_9 : decode c_Mo_store 9 = .ok (.invokevirtual 149, 3) := by decide +kernel
theorem d_Mo_store_12 : decode c_Mo_store 12 = .ok (.ireturn, 1) := by decide +kernel
theorem d_Mo_store_13 : decode c_Mo_store 13 = .ok (.iload_n 2, 1) := by decide +kernel
theorem d_Mo_store_14 : decode c_Mo_store 14 = .ok (.i2l, 1) := by decide +kernel
theorem d_Mo_store_15 : decode c_Mo_store 15 = .ok (.lconst 0, 1) := by decide +kernel
theorem d_Mo_store_16 : decode c_Mo_store 16 = .ok (.ldc2_w 152, 3) := by decide +kernel
theorem d_Mo_store_19 : decode c_Mo_store 19 = .ok (.invokestatic 104, 3) := by decide +kernel
theorem d_Mo_store_22 : decode c_Mo_store 22 = .ok (.ifCond .ne 10, 3) := by decide +kernel
theorem d_Mo_store_25 : decode c_Mo_store 25 = .ok (.aload_n 0, 1) := by decide +kernel
theorem d_Mo_store_26 : decode c_Mo_store 26 = .ok (.bipush (-2), 2) := by decide +kernel
theorem d_Mo_store_28 : decode c_Mo_store 28 = .ok (.invokevirtual 149, 3) := by decide +kernel
theorem d_Mo_store_31 : decode c_Mo_store 31 = .ok (.ireturn, 1) := by decide +kernel
theorem d_Mo_store_32 : decode c_Mo_store 32 = .ok (.aload_n 0, 1) := by decide +kernel
theorem d_Mo_store_33 : decode c_Mo_store 33 = .ok (.iload_n 1, 1) := by decide +kernel
theorem d_Mo_store_34 : decode c_Mo_store 34 = .ok (.iload_n 2, 1) := by decide +kernel
theorem d_Mo_store_35 : decode c_Mo_store 35 = .ok (.iload_n 3, 1) := by decide +kernel
theorem d_Mo_store_36 : decode c_Mo_store 36 = .ok (.iload 4, 2) := by decide +kernel
theorem d_Mo_store_38 : decode c_Mo_store 38 = .ok (.i2l, 1) := by decide +kernel
theorem d_Mo_store_39 : decode c_Mo_store 39 = .ok (.invokevirtual 154, 3) := by decide +kernel
theorem d_Mo_store_42 : decode c_Mo_store 42 = .ok (.istore 5, 2) := by decide +kernel
theorem d_Mo_store_44 : decode c_Mo_store 44 = .ok (.iload 5, 2) := by decide +kernel
theorem d_Mo_store_46 : decode c_Mo_store 46 = .ok (.ifCond .ge 6, 3) := by decide +kernel
theorem d_Mo_store_49 : decode c_Mo_store 49 = .ok (.iload 5, 2) := by decide +kernel
theorem d_Mo_store_51 : decode c_Mo_store 51 = .ok (.ireturn, 1) := by decide +kernel
theorem d_Mo_store_52 : decode c_Mo_store 52 = .ok (.aload_n 0, 1) := by decide +kernel
theorem d_Mo_store_53 : decode c_Mo_store 53 = .ok (.bipush 60, 2) := by decide +kernel
theorem d_Mo_store_55 : decode c_Mo_store 55 = .ok (.iload_n 1, 1) := by decide +kernel
theorem d_Mo_store_56 : decode c_Mo_store 56 = .ok (.imul, 1) := by decide +kernel
theorem d_Mo_store_57 : decode c_Mo_store 57 = .ok (.iload_n 3, 1) := by decide +kernel
theorem d_Mo_store_58 : decode c_Mo_store 58 = .ok (.iadd, 1) := by decide +kernel
theorem d_Mo_store_59 : decode c_Mo_store 59 = .ok (.iload 4, 2) := by decide +kernel
theorem d_Mo_store_61 : decode c_Mo_store 61 = .ok (.invokevirtual 158, 3) := by decide +kernel
theorem d_Mo_store_64 : decode c_Mo_store 64 = .ok (.ifCond .ne 15, 3) := by decide +kernel
theorem d_Mo_store_67 : decode c_Mo_store 67 = .ok (.aload_n 0, 1) := by decide +kernel
theorem d_Mo_store_68 : decode c_Mo_store 68 = .ok (.bipush (-100), 2) := by decide +kernel
theorem d_Mo_store_70 : decode c_Mo_store 70 = .ok (.aload_n 0, 1) := by decide +kernel
theorem d_Mo_store_71 : decode c_Mo_store 71 = .ok (.getfield 111, 3) := by decide +kernel
theorem d_Mo_store_74 : decode c_Mo_store 74 = .ok (.isub, 1) := by decide +kernel
theorem d_Mo_store_75 : decode c_Mo_store 75 = .ok (.invokevirtual 149, 3) := by decide +kernel
theorem d_Mo_store_78 : decode c_Mo_store 78 = .ok (.ireturn, 1) := by decide +kernel
theorem d_Mo_store_79 : decode c_Mo_store 79 = .ok (.aload_n 0, 1) := by decide +kernel
theorem d_Mo_store_80 : decode c_Mo_store 80 = .ok (.aload_n 0, 1) := by decide +kernel
theorem d_Mo_store_81 : decode c_Mo_store 81 = .ok (.getfield 120, 3) := by decide +kernel
theorem d_Mo_store_84 : decode c_Mo_store 84 = .ok (.putfield 101, 3) := by decide +kernel
theorem d_Mo_store_87 : decode c_Mo_store 87 = .ok (.aload_n 0, 1) := by decide +kernel
theorem d_Mo_store_88 : decode c_Mo_store 88 = .ok (.aload_n 0, 1) := by decide +kernel
theorem d_Mo_store_89 : decode c_Mo_store 89 = .ok (.getfield 127, 3) := by decide +kernel
theorem d_Mo_store_92 : decode c_Mo_store 92 = .ok (.putfield 108, 3) := by decide +kernel
theorem d_Mo_store_95 : decode c_Mo_store 95 = .ok (.iconst 0, 1) := by decide +kernel
theorem d_Mo_store_96 : decode c_Mo_store 96 = .ok (.istore 6, 2) := by decide +kernel
theorem d_Mo_store_98 : decode c_Mo_store 98 = .ok (.iload 6, 2) := by decide +kernel
theorem d_Mo_store_100 : decode c_Mo_store 100 = .ok (.aload_n 0, 1) := by decide +kernel
theorem d_Mo_store_101 : decode c_Mo_store 101 = .ok (.getfield 101, 3) := by decide +kernel
theorem d_Mo_store_104 : decode c_Mo_store 104 = .ok (.if_icmp .ge 79, 3) := by decide +kernel
theorem d_Mo_store_107 : decode c_Mo_store 107 = .ok (.aload_n 0, 1) := by decide +kernel
theorem d_Mo_store_108 : decode c_Mo_store 108 = .ok (.getfield 7, 3) := by decide +kernel
theorem d_Mo_store_111 : decode c_Mo_store 111 = .ok (.iload 6, 2) := by decide +kernel
theorem d_Mo_store_113 : decode c_Mo_store 113 = .ok (.aload_n 0, 1) := by decide +kernel
theorem d_Mo_store_114 : decode c_Mo_store 114 = .ok (.getfield 37, 3) := by decide +kernel
theorem d_Mo_store_117 : decode c_Mo_store 117 = .ok (.iload 6, 2) := by decide +kernel
theorem d_Mo_store_119 : decode c_Mo_store 119 = .ok (.iaload, 1) := by decide +kernel
theorem d_Mo_store_120 : decode c_Mo_store 120 = .ok (.iastore, 1) := by decide +kernel
theorem d_Mo_store_121 : decode c_Mo_store 121 = .ok (.aload_n 0, 1) := by decide +kernel
theorem d_Mo_store_122 : decode c_Mo_store 122 = .ok (.getfield 13, 3) := by decide +kernel
theorem d_Mo_store_125 : decode c_Mo_store 125 = .ok (.iload 6, 2) := by decide +kernel
theorem d_Mo_store_127 : decode c_Mo_store 127 = .ok (.aload_n 0, 1) := by decide +kernel
theorem d_Mo_store_128 : decode c_Mo_store 128 = .ok (.getfield 40, 3) := by decide +kernel
theorem d_Mo_store_131 : decode c_Mo_store 131 = .ok (.iload 6, 2) := by decide +kernel
theorem d_Mo_store_133 : decode c_Mo_store 133 = .ok (.iaload, 1) := by decide +kernel
theorem d_Mo_store_134 : decode c_Mo_store 134 = .ok (.iastore, 1) := by decide +kernel
theorem d_Mo_store_135 : decode c_Mo_store 135 = .ok (.aload_n 0, 1) := by decide +kernel
theorem d_Mo_store_136 : decode c_Mo_store 136 = .ok (.getfield 16, 3) := by decide +kernel
theorem d_Mo_store_139 : decode c_Mo_store 139 = .ok (.iload 6, 2) := by decide +kernel
theorem d_Mo_store_141 : decode c_Mo_store 141 = .ok (.aload_n 0, 1) := by decide +kernel
theorem d_Mo_store_142 : decode c_Mo_store 142 = .ok (.getfield 43, 3) := by decide +kernel
theorem d_Mo_store_145 : decode c_Mo_store 145 = .ok (.iload 6, 2) := by decide +kernel
theorem d_Mo_store_147 : decode c_Mo_store 147 = .ok (.iaload, 1) := by decide +kernel
theorem d_Mo_store_148 : decode c_Mo_store 148 = .ok (.iastore, 1) := by decide +kernel
theorem d_Mo_store_149 : decode c_Mo_store 149 = .ok (.aload_n 0, 1) := by decide +kernel
theorem d_Mo_store_150 : decode c_Mo_store 150 = .ok (.getfield 19, 3) := by decide +kernel
theorem d_Mo_store_153 : decode c_Mo_store 153 = .ok (.iload 6, 2) := by decide +kernel
theorem d_Mo_store_155 : decode c_Mo_store 155 = .ok (.aload_n 0, 1) := by decide +kernel
theorem d_Mo_store_156 : decode c_Mo_store 156 = .ok (.getfield 46, 3) := by decide +kernel
theorem d_Mo_store_159 : decode c_Mo_store 159 = .ok (.iload 6, 2) := by decide +kernel
theorem d_Mo_store_161 : decode c_Mo_store 161 = .ok (.iaload, 1) := by decide +kernel
theorem d_Mo_store_162 : decode c_Mo_store 162 = .ok (.iastore, 1) := by decide +kernel
theorem d_Mo_store_163 : decode c_Mo_store 163 = .ok (.aload_n 0, 1) := by decide +kernel
theorem d_Mo_store_164 : decode c_Mo_store 164 = .ok (.getfield 22, 3) := by decide +kernel
theorem d_Mo_store_167 : decode c_Mo_store 167 = .ok (.iload 6, 2) := by decide +kernel
theorem d_Mo_store_169 : decode c_Mo_store 169 = .ok (.aload_n 0, 1) := by decide +kernel
theorem d_Mo_store_170 : decode c_Mo_store 170 = .ok (.getfield 49, 3) := by decide +kernel
theorem d_Mo_store_173 : decode c_Mo_store 173 = .ok (.iload 6, 2) := by decide +kernel
theorem d_Mo_store_175 : decode c_Mo_store 175 = .ok (.iaload, 1) := by decide +kernel
theorem d_Mo_store_176 : decode c_Mo_store 176 = .ok (.iastore, 1) := by decide +kernel
theorem d_Mo_store_177 : decode c_Mo_store 177 = .ok (.iinc 6 1, 3) := by decide +kernel
theorem d_Mo_store_180 : decode c_Mo_store 180 = .ok (.goto (-82), 3) := by decide +kernel
theorem d_Mo_store_183 : decode c_Mo_store 183 = .ok (.iconst 0, 1) := by decide +kernel
theorem d_Mo_store_184 : decode c_Mo_store 184 = .ok (.istore 6, 2) := by decide +kernel
theorem d_Mo_store_186 : decode c_Mo_store 186 = .ok (.iload 6, 2) := by decide +kernel
theorem d_Mo_store_188 : decode c_Mo_store 188 = .ok (.aload_n 0, 1) := by decide +kernel
theorem d_Mo_store_189 : decode c_Mo_store 189 = .ok (.getfield 108, 3) := by decide +kernel
theorem d_Mo_store_192 : decode c_Mo_store 192 = .ok (.if_icmp .ge 59, 3) := by decide +kernel
theorem d_Mo_store_195 : decode c_Mo_store 195 = .ok (.aload_n 0, 1) := by decide +kernel
theorem d_Mo_store_196 : decode c_Mo_store 196 = .ok (.getfield 25, 3) := by decide +kernel
theorem d_Mo_store_199 : decode c_Mo_store 199 = .ok (.iload 6, 2) := by decide +kernel
theorem d_Mo_store_201 : decode c_Mo_store 201 = .ok (.aload_n 0, 1) := by decide +kernel
theorem d_Mo_store_202 : decode c_Mo_store 202 = .ok (.getfield 52, 3) := by decide +kernel
theorem d_Mo_store_205 : decode c_Mo_store 205 = .ok (.iload 6, 2) := by decide +kernel
theorem d_Mo_store_207 : decode c_Mo_store 207 = .ok (.iaload, 1) := by decide +kernel
theorem d_Mo_store_208 : decode c_Mo_store 208 = .ok (.iastore, 1) := by decide +kernel
theorem d_Mo_store_209 : decode c_Mo_store 209 = .ok (.aload_n 0, 1) := by decide +kernel
theorem d_Mo_store_210 : decode c_Mo_store 210 = .ok (.getfield 28, 3) := by decide +kernel
theorem d_Mo_store_213 : decode c_Mo_store 213 = .ok (.iload 6, 2) := by decide +kernel
theorem d_Mo_store_215 : decode c_Mo_store 215 = .ok (.aload_n 0, 1) := by decide +kernel
theorem d_Mo_store_216 : decode c_Mo_store 216 = .ok (.getfield 55, 3) := by decide +kernel
theorem d_Mo_store_219 : decode c_Mo_store 219 = .ok (.iload 6, 2) := by decide +kernel
theorem d_Mo_store_221 : decode c_Mo_store 221 = .ok (.iaload, 1) := by decide +kernel
theorem d_Mo_store_222 : decode c_Mo_store 222 = .ok (.iastore, 1) := by decide +kernel
theorem d_Mo_store_223 : decode c_Mo_store 223 = .ok (.aload_n 0, 1) := by decide +kernel
theorem d_Mo_store_224 : decode c_Mo_store 224 = .ok (.getfield 31, 3) := by decide +kernel
theorem d_Mo_store_227 : decode c_Mo_store 227 = .ok (.iload 6, 2) := by decide +kernel
theorem d_Mo_store_229 : decode c_Mo_store 229 = .ok (.aload_n 0, 1) := by decide +kernel
theorem d_Mo_store_230 : decode c_Mo_store 230 = .ok (.getfield 58, 3) := by decide +kernel
theorem d_Mo_store_233 : decode c_Mo_store 233 = .ok (.iload 6, 2) := by decide +kernel
theorem d_Mo_store_235 : decode c_Mo_store 235 = .ok (.iaload, 1) := by decide +kernel
theorem d_Mo_store_236 : decode c_Mo_store 236 = .ok (.iastore, 1) := by decide +kernel
theorem d_Mo_store_237 : decode c_Mo_store 237 = .ok (.aload_n 0, 1) := by decide +kernel
theorem d_Mo_store_238 : decode c_Mo_store 238 = .ok (.getfield 34, 3) := by decide +kernel
theorem d_Mo_store_241 : decode c_Mo_store 241 = .ok (.iload 6, 2) := by decide +kernel
theorem d_Mo_store_243 : decode c_Mo_store 243 = .ok (.iconst 0, 1) := by decide +kernel
theorem d_Mo_store_244 : decode c_Mo_store 244 = .ok (.iastore, 1) := by decide +kernel
theorem d_Mo_store_245 : decode c_Mo_store 245 = .ok (.iinc 6 1, 3) := by decide +kernel
theorem d_Mo_store_248 : decode c_Mo_store 248 = .ok (.goto (-62), 3) := by decide +kernel
theorem d_Mo_store_251 : decode c_Mo_store 251 = .ok (.aload_n 0, 1) := by decide +kernel
theorem d_Mo_store_252 : decode c_Mo_store 252 = .ok (.iconst 0, 1) := by decide +kernel
theorem d_Mo_store_253 : decode c_Mo_store 253 = .ok (.putfield 161, 3) := by decide +kernel
theorem d_Mo_store_256 : decode c_Mo_store 256 = .ok (.aload_n 0, 1) := by decide +kernel
theorem d_Mo_store_257 : decode c_Mo_store 257 = .ok (.aload_n 0, 1) := by decide +kernel
theorem d_Mo_store_258 : decode c_Mo_store 258 = .ok (.getfield 101, 3) := by decide +kernel
theorem d_Mo_store_261 : decode c_Mo_store 261 = .ok (.invokevirtual 149, 3) := by decide +kernel
theorem d_Mo_store_264 : decode c_Mo_store 264 = .ok (.ireturn, 1) := by decide +kernel
theorem C_Mo_store_out {M : MM} {x : Int32} (hx : rg x 0 3 = false) {u v w : Int32} : AF y_Mo_store c_Mo_store 7 (some .int) 5 [vR 36, vI x, vI u, vI v, vI w] (M) (some (vI (-1))) (upM M 36 0 0) := by
  refine AF.of k_Mo_store (lo := [some (vR 36), some (vI x), some (vI u), some (vI v), some (vI w), none, none]) rfl (Nat.le_of_ble_eq_true rfl) (fun X hX hR => ?_)
  refine v_iload_n (pc := 0) hX rfl d_Mo_store_0 ?_
  refine f_callS (pc := 1) hX k_Mo_noSheet ks_Mo_noSheet ml_Mo_145 (C_Mo_noSheet) rfl rfl rfl (Nat.le_of_ble_eq_true rfl) (Nat.le_of_ble_eq_true rfl) (Nat.le_of_ble_eq_true rfl) d_Mo_store_1 ?_
  rw [hx]
  refine f_ifeqB (pc := 4) (tgt := 13) hX d_Mo_store_4 rfl (fun h4 => False.elim (absurd h4 (by decide))) (fun h4 => ?_)
  refine v_aload_n (pc := 7) hX rfl d_Mo_store_7 ?_
  refine v_iconst (pc := 8) (v := (-1)) hX (by decide) d_Mo_store_8 ?_
  refine f_callV (pc := 9) hX k_Mo_refused ki_Mo_refused kv_Mo_refused ml_Mo_149 (C_Mo_refused) rfl rfl rfl rfl rfl (Nat.le_of_ble_eq_true rfl) (Nat.le_of_ble_eq_true rfl) (Nat.le_of_ble_eq_true rfl) d_Mo_store_9 ?_
  exact f_iret (pc := 12) hX hR (rfl) (rfl) d_Mo_store_12
theorem C_Mo_store_lane {M : MM} {k : Nat} {u v w : Int32} (hk : k < 4) (hu : rg u 0 2 = false) : AF y_Mo_store c_Mo_store 7 (some .int) 5 [vR 36, vI (i3 k), vI u, vI v, vI w] (M) (some (vI (-2))) (upM M 36 0 0) := by
  refine AF.of k_Mo_store (lo := [some (vR 36), some (vI (i3 k)), some (vI u), some (vI v), some (vI w), none, none]) rfl (Nat.le_of_ble_eq_true rfl) (fun X hX hR => ?_)
  refine v_iload_n (pc := 0) hX rfl d_Mo_store_0 ?_
  refine f_callS (pc := 1) hX k_Mo_noSheet ks_Mo_noSheet ml_Mo_145 (C_Mo_noSheet) rfl rfl rfl (Nat.le_of_ble_eq_true rfl) (Nat.le_of_ble_eq_true rfl) (Nat.le_of_ble_eq_true rfl) d_Mo_store_1 ?_
  rw [show rg (i3 k) 0 3 = true from rg_i3 (n := 4) hk (by decide)]
  refine f_ifeqB (pc := 4) (tgt := 13) hX d_Mo_store_4 rfl (fun h4 => ?_) (fun h4 => False.elim (absurd h4 (by decide)))
  refine v_iload_n (pc := 13) hX rfl d_Mo_store_13 ?_
  refine v_i2l (pc := 14) hX d_Mo_store_14 ?_
  refine v_lconst (pc := 15) (v := 0) hX (by decide) d_Mo_store_15 ?_
  refine v_ldc2_w (pc := 16) hX kl_Mo_152 d_Mo_store_16 ?_
  refine f_callS (pc := 19) hX k_Mo_in ks_Mo_in ml_Mo_104 (C_Mo_in) rfl rfl rfl (Nat.le_of_ble_eq_true rfl) (Nat.le_of_ble_eq_true rfl) (Nat.le_of_ble_eq_true rfl) d_Mo_store_19 ?_
  rw [rL_rg (L := 0) (H := 2) rfl rfl]
  refine f_ifneB (pc := 22) (tgt := 32) hX d_Mo_store_22 rfl (fun h22 => False.elim (by rw [hu] at h22; cases h22)) (fun h22 => ?_)
  refine v_aload_n (pc := 25) hX rfl d_Mo_store_25 ?_
  refine v_bipush (pc := 26) (v := (-2)) hX (by decide) d_Mo_store_26 ?_
  refine f_callV (pc := 28) hX k_Mo_refused ki_Mo_refused kv_Mo_refused ml_Mo_149 (C_Mo_refused) rfl rfl rfl rfl rfl (Nat.le_of_ble_eq_true rfl) (Nat.le_of_ble_eq_true rfl) (Nat.le_of_ble_eq_true rfl) d_Mo_store_28 ?_
  exact f_iret (pc := 31) hX hR (rfl) (rfl) d_Mo_store_31
theorem C_Mo_store_fail {M : MM} {k : Nat} {zs : Nat → Nat} {ln : Nat → Int32} {C : JT} (hZ : MZ M zs ln C) (hk : k < 4) {u v w : Int32} (hu : rg u 0 2 = true) (hf : ¬ flt (zs k) (ln k) u v w = 0) : AF y_Mo_store c_Mo_store 7 (some .int) 5 [vR 36, vI (i3 k), vI u, vI v, vI w] (M) (some (vI (-10 - flt (zs k) (ln k) u v w))) (upM M 36 0 (flt (zs k) (ln k) u v w)) := by
  refine AF.of k_Mo_store (lo := [some (vR 36), some (vI (i3 k)), some (vI u), some (vI v), some (vI w), none, none]) rfl (Nat.le_of_ble_eq_true rfl) (fun X hX hR => ?_)
  refine v_iload_n (pc := 0) hX rfl d_Mo_store_0 ?_
  refine f_callS (pc := 1) hX k_Mo_noSheet ks_Mo_noSheet ml_Mo_145 (C_Mo_noSheet) rfl rfl rfl (Nat.le_of_ble_eq_true rfl) (Nat.le_of_ble_eq_true rfl) (Nat.le_of_ble_eq_true rfl) d_Mo_store_1 ?_
  rw [show rg (i3 k) 0 3 = true from rg_i3 (n := 4) hk (by decide)]
  refine f_ifeqB (pc := 4) (tgt := 13) hX d_Mo_store_4 rfl (fun h4 => ?_) (fun h4 => False.elim (absurd h4 (by decide)))
  refine v_iload_n (pc := 13) hX rfl d_Mo_store_13 ?_
  refine v_i2l (pc := 14) hX d_Mo_store_14 ?_
  refine v_lconst (pc := 15) (v := 0) hX (by decide) d_Mo_store_15 ?_
  refine v_ldc2_w (pc := 16) hX kl_Mo_152 d_Mo_store_16 ?_
  refine f_callS (pc := 19) hX k_Mo_in ks_Mo_in ml_Mo_104 (C_Mo_in) rfl rfl rfl (Nat.le_of_ble_eq_true rfl) (Nat.le_of_ble_eq_true rfl) (Nat.le_of_ble_eq_true rfl) d_Mo_store_19 ?_
  rw [rL_rg (L := 0) (H := 2) rfl rfl]
  refine f_ifneB (pc := 22) (tgt := 32) hX d_Mo_store_22 rfl (fun h22 => ?_) (fun h22 => False.elim (by rw [hu] at h22; cases h22))
  refine v_aload_n (pc := 32) hX rfl d_Mo_store_32 ?_
  refine v_iload_n (pc := 33) hX rfl d_Mo_store_33 ?_
  refine v_iload_n (pc := 34) hX rfl d_Mo_store_34 ?_
  refine v_iload_n (pc := 35) hX rfl d_Mo_store_35 ?_
  refine v_iload (pc := 36) hX rfl d_Mo_store_36 ?_
  refine v_i2l (pc := 38) hX d_Mo_store_38 ?_
  refine f_callV (pc := 39) hX k_Mo_cellsBarred ki_Mo_cellsBarred kv_Mo_cellsBarred ml_Mo_154 (C_Mo_cb_fail hZ hk (Int32.toInt_toInt64 _) hf) rfl rfl rfl rfl rfl (Nat.le_of_ble_eq_true rfl) (Nat.le_of_ble_eq_true rfl) (Nat.le_of_ble_eq_true rfl) d_Mo_store_39 ?_
  refine v_istore (pc := 42) (lo' := [some (vR _), some (vI _), some (vI _), some (vI _), some (vI _), some (vI _), none]) hX (Nat.le_of_ble_eq_true rfl) rfl d_Mo_store_42 ?_
  refine v_iload (pc := 44) hX rfl d_Mo_store_44 ?_
  refine v_if_ge (pc := 46) (tgt := 52) hX d_Mo_store_46 rfl (fun h46 => False.elim (absurd (flt_neg (z := zs k) (l := ln k) (lane := u) (i := v) (n := w)) (by simp only [le32, lt32] at h46 ⊢; omega))) (fun h46 => ?_)
  refine v_iload (pc := 49) hX rfl d_Mo_store_49 ?_
  exact f_iret (pc := 51) hX hR (rfl) (rfl) d_Mo_store_51
theorem C_Mo_store_bad0 {M : MM} {k : Nat} {zs : Nat → Nat} {ln : Nat → Int32} {C : JT} (hZ : MZ M zs ln C) (hk : k < 4) (hu : rg (ln k) 0 2 = true) {a m : Nat} (hz : zs k ≠ 0) (ham : a + m ≤ zs k - 1) {f x y P : Nat} (hrs : AF y_Mo_readsStore c_Mo_readsStore 4 (some .boolean) 4 [vR 36, vI (i3 (60 * k + a)), vI (i3 m)] M (some (vI (bI false))) (RS M (fun t => C k (a + t)) f x y P)) : AF y_Mo_store c_Mo_store 7 (some .int) 5 [vR 36, vI (i3 k), vI (ln k), vI (i3 a), vI (i3 m)] (M) (some (vI (-100 - i3 f))) (upM (RS M (fun t => C k (a + t)) f x y P) 36 0 0) := by
  obtain ⟨z1, z2, z3⟩ := hZ k hk
  refine AF.of k_Mo_store (lo := [some (vR 36), some (vI (i3 k)), some (vI (ln k)), some (vI (i3 a)), some (vI (i3 m)), none, none]) rfl (Nat.le_of_ble_eq_true rfl) (fun X hX hR => ?_)
  refine v_iload_n (pc := 0) hX rfl d_Mo_store_0 ?_
  refine f_callS (pc := 1) hX k_Mo_noSheet ks_Mo_noSheet ml_Mo_145 (C_Mo_noSheet) rfl rfl rfl (Nat.le_of_ble_eq_true rfl) (Nat.le_of_ble_eq_true rfl) (Nat.le_of_ble_eq_true rfl) d_Mo_store_1 ?_
  rw [show rg (i3 k) 0 3 = true from rg_i3 (n := 4) hk (by decide)]
  refine f_ifeqB (pc := 4) (tgt := 13) hX d_Mo_store_4 rfl (fun h4 => ?_) (fun h4 => False.elim (absurd h4 (by decide)))
  refine v_iload_n (pc := 13) hX rfl d_Mo_store_13 ?_
  refine v_i2l (pc := 14) hX d_Mo_store_14 ?_
  refine v_lconst (pc := 15) (v := 0) hX (by decide) d_Mo_store_15 ?_
  refine v_ldc2_w (pc := 16) hX kl_Mo_152 d_Mo_store_16 ?_
  refine f_callS (pc := 19) hX k_Mo_in ks_Mo_in ml_Mo_104 (C_Mo_in) rfl rfl rfl (Nat.le_of_ble_eq_true rfl) (Nat.le_of_ble_eq_true rfl) (Nat.le_of_ble_eq_true rfl) d_Mo_store_19 ?_
  rw [rL_rg (L := 0) (H := 2) rfl rfl]
  refine f_ifneB (pc := 22) (tgt := 32) hX d_Mo_store_22 rfl (fun h22 => ?_) (fun h22 => False.elim (by rw [hu] at h22; cases h22))
  refine v_aload_n (pc := 32) hX rfl d_Mo_store_32 ?_
  refine v_iload_n (pc := 33) hX rfl d_Mo_store_33 ?_
  refine v_iload_n (pc := 34) hX rfl d_Mo_store_34 ?_
  refine v_iload_n (pc := 35) hX rfl d_Mo_store_35 ?_
  refine v_iload (pc := 36) hX rfl d_Mo_store_36 ?_
  refine v_i2l (pc := 38) hX d_Mo_store_38 ?_
  refine f_callV (pc := 39) hX k_Mo_cellsBarred ki_Mo_cellsBarred kv_Mo_cellsBarred ml_Mo_154 (C_Mo_cb_ok hZ hk (m := m) (by rw [Int32.toInt_toInt64]; exact i3_int (by omega)) hz ham) rfl rfl rfl rfl rfl (Nat.le_of_ble_eq_true rfl) (Nat.le_of_ble_eq_true rfl) (Nat.le_of_ble_eq_true rfl) d_Mo_store_39 ?_
  refine v_istore (pc := 42) (lo' := [some (vR _), some (vI _), some (vI _), some (vI _), some (vI _), some (vI _), none]) hX (Nat.le_of_ble_eq_true rfl) rfl d_Mo_store_42 ?_
  refine v_iload (pc := 44) hX rfl d_Mo_store_44 ?_
  refine v_if_ge (pc := 46) (tgt := 52) hX d_Mo_store_46 rfl (fun h46 => ?_) (fun h46 => False.elim (h46 (Int32.le_refl _)))
  refine v_aload_n (pc := 52) hX rfl d_Mo_store_52 ?_
  refine v_bipush (pc := 53) (v := 60) hX (by decide) d_Mo_store_53 ?_
  refine v_iload_n (pc := 55) hX rfl d_Mo_store_55 ?_
  refine v_imul (pc := 56) hX d_Mo_store_56 ?_
  refine v_iload_n (pc := 57) hX rfl d_Mo_store_57 ?_
  refine v_iadd (pc := 58) hX d_Mo_store_58 ?_
  rw [i3_60]
  refine v_iload (pc := 59) hX rfl d_Mo_store_59 ?_
  refine f_callV (pc := 61) hX k_Mo_readsStore ki_Mo_readsStore kv_Mo_readsStore ml_Mo_158 (hrs) rfl rfl rfl rfl rfl (Nat.le_of_ble_eq_true rfl) (Nat.le_of_ble_eq_true rfl) (Nat.le_of_ble_eq_true rfl) d_Mo_store_61 ?_
  refine f_ifneB (pc := 64) (tgt := 79) hX d_Mo_store_64 rfl (fun h64 => False.elim (by cases h64)) (fun h64 => ?_)
  refine v_aload_n (pc := 67) hX rfl d_Mo_store_67 ?_
  refine v_bipush (pc := 68) (v := (-100)) hX (by decide) d_Mo_store_68 ?_
  refine v_aload_n (pc := 70) hX rfl d_Mo_store_70 ?_
  refine g_getI (pc := 71) hX fl_Mo_111 rfl rfl d_Mo_store_71 ?_
  rw [RS_12]
  refine v_isub (pc := 74) hX d_Mo_store_74 ?_
  refine f_callV (pc := 75) hX k_Mo_refused ki_Mo_refused kv_Mo_refused ml_Mo_149 (C_Mo_refused) rfl rfl rfl rfl rfl (Nat.le_of_ble_eq_true rfl) (Nat.le_of_ble_eq_true rfl) (Nat.le_of_ble_eq_true rfl) d_Mo_store_75 ?_
  exact f_iret (pc := 78) hX hR (rfl) (rfl) d_Mo_store_78
theorem C_Mo_store_ok {M : MM} {k : Nat} {zs : Nat → Nat} {ln : Nat → Int32} {C : JT} (hZ : MZ M zs ln C) (hk : k < 4) (hu : rg (ln k) 0 2 = true) {a m : Nat} (hz : zs k ≠ 0) (ham : a + m ≤ zs k - 1) (hff : ffO (fun t => C k (a + t)) m = none) : AF y_Mo_store c_Mo_store 7 (some .int) 5 [vR 36, vI (i3 k), vI (ln k), vI (i3 a), vI (i3 m)] (M) (some (vI (i3 (nJ (fun t => C k (a + t)) m)))) (stO M (fun t => C k (a + t)) (1 + 6 * (nJ (fun t => C k (a + t)) m) + 5 * (nD (fun t => C k (a + t)) m (1 + 6 * (nJ (fun t => C k (a + t)) m)))) (nJ (fun t => C k (a + t)) m) (nD (fun t => C k (a + t)) m (1 + 6 * (nJ (fun t => C k (a + t)) m))) (1 + 6 * (nJ (fun t => C k (a + t)) m))) := by
  obtain ⟨z1, z2, z3⟩ := hZ k hk
  have hxl := nJ_le (fun t => C k (a + t)) m
  have hyl := nD_le (fun t => C k (a + t)) m (1 + 6 * (nJ (fun t => C k (a + t)) m))
  refine AF.of k_Mo_store (lo := [some (vR 36), some (vI (i3 k)), some (vI (ln k)), some (vI (i3 a)), some (vI (i3 m)), none, none]) rfl (Nat.le_of_ble_eq_true rfl) (fun X hX hR => ?_)
  refine v_iload_n (pc := 0) hX rfl d_Mo_store_0 ?_
  refine f_callS (pc := 1) hX k_Mo_noSheet ks_Mo_noSheet ml_Mo_145 (C_Mo_noSheet) rfl rfl rfl (Nat.le_of_ble_eq_true rfl) (Nat.le_of_ble_eq_true rfl) (Nat.le_of_ble_eq_true rfl) d_Mo_store_1 ?_
  rw [show rg (i3 k) 0 3 = true from rg_i3 (n := 4) hk (by decide)]
  refine f_ifeqB (pc := 4) (tgt := 13) hX d_Mo_store_4 rfl (fun h4 => ?_) (fun h4 => False.elim (absurd h4 (by decide)))
  refine v_iload_n (pc := 13) hX rfl d_Mo_store_13 ?_
  refine v_i2l (pc := 14) hX d_Mo_store_14 ?_
  refine v_lconst (pc := 15) (v := 0) hX (by decide) d_Mo_store_15 ?_
  refine v_ldc2_w (pc := 16) hX kl_Mo_152 d_Mo_store_16 ?_
  refine f_callS (pc := 19) hX k_Mo_in ks_Mo_in ml_Mo_104 (C_Mo_in) rfl rfl rfl (Nat.le_of_ble_eq_true rfl) (Nat.le_of_ble_eq_true rfl) (Nat.le_of_ble_eq_true rfl) d_Mo_store_19 ?_
  rw [rL_rg (L := 0) (H := 2) rfl rfl]
  refine f_ifneB (pc := 22) (tgt := 32) hX d_Mo_store_22 rfl (fun h22 => ?_) (fun h22 => False.elim (by rw [hu] at h22; cases h22))
  refine v_aload_n (pc := 32) hX rfl d_Mo_store_32 ?_
  refine v_iload_n (pc := 33) hX rfl d_Mo_store_33 ?_
  refine v_iload_n (pc := 34) hX rfl d_Mo_store_34 ?_
  refine v_iload_n (pc := 35) hX rfl d_Mo_store_35 ?_
  refine v_iload (pc := 36) hX rfl d_Mo_store_36 ?_
  refine v_i2l (pc := 38) hX d_Mo_store_38 ?_
  refine f_callV (pc := 39) hX k_Mo_cellsBarred ki_Mo_cellsBarred kv_Mo_cellsBarred ml_Mo_154 (C_Mo_cb_ok hZ hk (m := m) (by rw [Int32.toInt_toInt64]; exact i3_int (by omega)) hz ham) rfl rfl rfl rfl rfl (Nat.le_of_ble_eq_true rfl) (Nat.le_of_ble_eq_true rfl) (Nat.le_of_ble_eq_true rfl) d_Mo_store_39 ?_
  refine v_istore (pc := 42) (lo' := [some (vR _), some (vI _), some (vI _), some (vI _), some (vI _), some (vI _), none]) hX (Nat.le_of_ble_eq_true rfl) rfl d_Mo_store_42 ?_
  refine v_iload (pc := 44) hX rfl d_Mo_store_44 ?_
  refine v_if_ge (pc := 46) (tgt := 52) hX d_Mo_store_46 rfl (fun h46 => ?_) (fun h46 => False.elim (h46 (Int32.le_refl _)))
  refine v_aload_n (pc := 52) hX rfl d_Mo_store_52 ?_
  refine v_bipush (pc := 53) (v := 60) hX (by decide) d_Mo_store_53 ?_
  refine v_iload_n (pc := 55) hX rfl d_Mo_store_55 ?_
  refine v_imul (pc := 56) hX d_Mo_store_56 ?_
  refine v_iload_n (pc := 57) hX rfl d_Mo_store_57 ?_
  refine v_iadd (pc := 58) hX d_Mo_store_58 ?_
  rw [i3_60]
  refine v_iload (pc := 59) hX rfl d_Mo_store_59 ?_
  refine f_callV (pc := 61) hX k_Mo_readsStore ki_Mo_readsStore kv_Mo_readsStore ml_Mo_158 (C_Mo_rs_yes (F := 60 * k + a) (m := m) (q := (fun t => C k (a + t))) (by omega) (by omega) (fun t ht => by rw [Nat.add_assoc]; exact (z3 hz).2 (a + t) (by omega)) hff) rfl rfl rfl rfl rfl (Nat.le_of_ble_eq_true rfl) (Nat.le_of_ble_eq_true rfl) (Nat.le_of_ble_eq_true rfl) d_Mo_store_61 ?_
  refine f_ifneB (pc := 64) (tgt := 79) hX d_Mo_store_64 rfl (fun h64 => ?_) (fun h64 => False.elim (by cases h64))
  refine v_aload_n (pc := 79) hX rfl d_Mo_store_79 ?_
  refine v_aload_n (pc := 80) hX rfl d_Mo_store_80 ?_
  refine g_getI (pc := 81) hX fl_Mo_120 rfl rfl d_Mo_store_81 ?_
  rw [RS_13]
  refine g_putI (pc := 84) hX fl_Mo_101 rfl (finI rfl rfl) rfl rfl rfl d_Mo_store_84 ?_
  refine v_aload_n (pc := 87) hX rfl d_Mo_store_87 ?_
  refine v_aload_n (pc := 88) hX rfl d_Mo_store_88 ?_
  refine g_getI (pc := 89) hX fl_Mo_127 rfl rfl d_Mo_store_89 ?_
  rw [upM_ne (by omega), RS_14]
  refine g_putI (pc := 92) hX fl_Mo_108 rfl (finI rfl rfl) rfl rfl rfl d_Mo_store_92 ?_
  refine v_iconst (pc := 95) (v := 0) hX (by decide) d_Mo_store_95 ?_
  refine v_istore (pc := 96) (lo' := [some (vR _), some (vI _), some (vI _), some (vI _), some (vI _), some (vI _), some (vI _)]) hX (Nat.le_of_ble_eq_true rfl) rfl d_Mo_store_96 ?_
  refine VW.fg [true, true, true, true, true, false, true] ?_
  refine VW.cast (lo' := [some (vR 36), some (vI (i3 k)), some (vI (ln k)), some (vI (i3 a)), some (vI (i3 m)), none, some (vI (i3 0))]) (st' := []) (G' := gM (SJ (upM (upM (RS M (fun t => C k (a + t)) (1 + 6 * (nJ (fun t => C k (a + t)) m) + 5 * (nD (fun t => C k (a + t)) m (1 + 6 * (nJ (fun t => C k (a + t)) m)))) (nJ (fun t => C k (a + t)) m) (nD (fun t => C k (a + t)) m (1 + 6 * (nJ (fun t => C k (a + t)) m))) (1 + 6 * (nJ (fun t => C k (a + t)) m))) 36 1 (i3 (nJ (fun t => C k (a + t)) m))) 36 7 (i3 (nD (fun t => C k (a + t)) m (1 + 6 * (nJ (fun t => C k (a + t)) m))))) 0)) rfl rfl (by rw [SJ_0]) ?_
  refine v_for (X := X) (head := 98) ((nJ (fun t => C k (a + t)) m)) (fun kk => [some (vR 36), some (vI (i3 k)), some (vI (ln k)), some (vI (i3 a)), some (vI (i3 m)), none, some (vI (i3 kk))]) (fun kk => SJ (upM (upM (RS M (fun t => C k (a + t)) (1 + 6 * (nJ (fun t => C k (a + t)) m) + 5 * (nD (fun t => C k (a + t)) m (1 + 6 * (nJ (fun t => C k (a + t)) m)))) (nJ (fun t => C k (a + t)) m) (nD (fun t => C k (a + t)) m (1 + 6 * (nJ (fun t => C k (a + t)) m))) (1 + 6 * (nJ (fun t => C k (a + t)) m))) 36 1 (i3 (nJ (fun t => C k (a + t)) m))) 36 7 (i3 (nD (fun t => C k (a + t)) m (1 + 6 * (nJ (fun t => C k (a + t)) m))))) kk) (fun j hj ih98 => ?_) ?_
  · show VW X 98 [some (vR 36), some (vI (i3 k)), some (vI (ln k)), some (vI (i3 a)), some (vI (i3 m)), none, some (vI (i3 j))] [] (gM (SJ (upM (upM (RS M (fun t => C k (a + t)) (1 + 6 * (nJ (fun t => C k (a + t)) m) + 5 * (nD (fun t => C k (a + t)) m (1 + 6 * (nJ (fun t => C k (a + t)) m)))) (nJ (fun t => C k (a + t)) m) (nD (fun t => C k (a + t)) m (1 + 6 * (nJ (fun t => C k (a + t)) m))) (1 + 6 * (nJ (fun t => C k (a + t)) m))) 36 1 (i3 (nJ (fun t => C k (a + t)) m))) 36 7 (i3 (nD (fun t => C k (a + t)) m (1 + 6 * (nJ (fun t => C k (a + t)) m))))) j))
    refine v_iload (pc := 98) hX rfl d_Mo_store_98 ?_
    refine v_aload_n (pc := 100) hX rfl d_Mo_store_100 ?_
    refine g_getI (pc := 101) hX fl_Mo_101 rfl rfl d_Mo_store_101 ?_
    rw [SJ_ne (by omega), upM_ne (by omega), upM_same]
    refine v_icmp_ge (pc := 104) (tgt := 183) hX d_Mo_store_104 rfl (fun h104 => False.elim (i3_ge_abs hj (by omega) h104)) (fun h104 => ?_)
    refine v_aload_n (pc := 107) hX rfl d_Mo_store_107 ?_
    refine g_getR (pc := 108) hX fl_Mo_7 rfl rfl nf_36_2 d_Mo_store_108 ?_
    refine v_iload (pc := 111) hX rfl d_Mo_store_111 ?_
    refine v_aload_n (pc := 113) hX rfl d_Mo_store_113 ?_
    refine g_getR (pc := 114) hX fl_Mo_37 rfl rfl nf_36_15 d_Mo_store_114 ?_
    refine v_iload (pc := 117) hX rfl d_Mo_store_117 ?_
    refine g_iald (pc := 119) hX rfl (IX.of (n := 6) (by omega) (by decide)) d_Mo_store_119 ?_
    refine g_iast (pc := 120) hX rfl (IX.of (n := 6) (by omega) (by decide)) d_Mo_store_120 ?_
    refine v_aload_n (pc := 121) hX rfl d_Mo_store_121 ?_
    refine g_getR (pc := 122) hX fl_Mo_13 rfl rfl nf_36_3 d_Mo_store_122 ?_
    refine v_iload (pc := 125) hX rfl d_Mo_store_125 ?_
    refine v_aload_n (pc := 127) hX rfl d_Mo_store_127 ?_
    refine g_getR (pc := 128) hX fl_Mo_40 rfl rfl nf_36_16 d_Mo_store_128 ?_
    refine v_iload (pc := 131) hX rfl d_Mo_store_131 ?_
    refine g_iald (pc := 133) hX rfl (IX.of (n := 6) (by omega) (by decide)) d_Mo_store_133 ?_
    refine g_iast (pc := 134) hX rfl (IX.of (n := 6) (by omega) (by decide)) d_Mo_store_134 ?_
    refine v_aload_n (pc := 135) hX rfl d_Mo_store_135 ?_
    refine g_getR (pc := 136) hX fl_Mo_16 rfl rfl nf_36_4 d_Mo_store_136 ?_
    refine v_iload (pc := 139) hX rfl d_Mo_store_139 ?_
    refine v_aload_n (pc := 141) hX rfl d_Mo_store_141 ?_
    refine g_getR (pc := 142) hX fl_Mo_43 rfl rfl nf_36_17 d_Mo_store_142 ?_
    refine v_iload (pc := 145) hX rfl d_Mo_store_145 ?_
    refine g_iald (pc := 147) hX rfl (IX.of (n := 6) (by omega) (by decide)) d_Mo_store_147 ?_
    refine g_iast (pc := 148) hX rfl (IX.of (n := 6) (by omega) (by decide)) d_Mo_store_148 ?_
    refine v_aload_n (pc := 149) hX rfl d_Mo_store_149 ?_
    refine g_getR (pc := 150) hX fl_Mo_19 rfl rfl nf_36_5 d_Mo_store_150 ?_
    refine v_iload (pc := 153) hX rfl d_Mo_store_153 ?_
    refine v_aload_n (pc := 155) hX rfl d_Mo_store_155 ?_
    refine g_getR (pc := 156) hX fl_Mo_46 rfl rfl nf_36_18 d_Mo_store_156 ?_
    refine v_iload (pc := 159) hX rfl d_Mo_store_159 ?_
    refine g_iald (pc := 161) hX rfl (IX.of (n := 6) (by omega) (by decide)) d_Mo_store_161 ?_
    refine g_iast (pc := 162) hX rfl (IX.of (n := 6) (by omega) (by decide)) d_Mo_store_162 ?_
    refine v_aload_n (pc := 163) hX rfl d_Mo_store_163 ?_
    refine g_getR (pc := 164) hX fl_Mo_22 rfl rfl nf_36_6 d_Mo_store_164 ?_
    refine v_iload (pc := 167) hX rfl d_Mo_store_167 ?_
    refine v_aload_n (pc := 169) hX rfl d_Mo_store_169 ?_
    refine g_getR (pc := 170) hX fl_Mo_49 rfl rfl nf_36_19 d_Mo_store_170 ?_
    refine v_iload (pc := 173) hX rfl d_Mo_store_173 ?_
    refine g_iald (pc := 175) hX rfl (IX.of (n := 6) (by omega) (by decide)) d_Mo_store_175 ?_
    refine g_iast (pc := 176) hX rfl (IX.of (n := 6) (by omega) (by decide)) d_Mo_store_176 ?_
    refine v_iinc (pc := 177) (lo' := [some (vR _), some (vI _), some (vI _), some (vI _), some (vI _), none, some (vI _)]) hX rfl rfl d_Mo_store_177 ?_
    refine v_goto (pc := 180) (tgt := 98) hX d_Mo_store_180 rfl ?_
    exact VW.cast (by rw [i3_succ]; rfl) rfl (congrArg gM (SJ_s (M := (upM (upM (RS M (fun t => C k (a + t)) (1 + 6 * (nJ (fun t => C k (a + t)) m) + 5 * (nD (fun t => C k (a + t)) m (1 + 6 * (nJ (fun t => C k (a + t)) m)))) (nJ (fun t => C k (a + t)) m) (nD (fun t => C k (a + t)) m (1 + 6 * (nJ (fun t => C k (a + t)) m))) (1 + 6 * (nJ (fun t => C k (a + t)) m))) 36 1 (i3 (nJ (fun t => C k (a + t)) m))) 36 7 (i3 (nD (fun t => C k (a + t)) m (1 + 6 * (nJ (fun t => C k (a + t)) m)))))) (k := j) (SJ_ne (by omega)) (by rw [upM_ne (by omega)]; exact SJ_ne (by omega)) (by rw [upM_ne (by omega), upM_ne (by omega)]; exact SJ_ne (by omega)) (by rw [upM_ne (by omega), upM_ne (by omega), upM_ne (by omega)]; exact SJ_ne (by omega)) (by rw [upM_ne (by omega), upM_ne (by omega), upM_ne (by omega), upM_ne (by omega)]; exact SJ_ne (by omega))).symm) ih98
  · show VW X 98 [some (vR 36), some (vI (i3 k)), some (vI (ln k)), some (vI (i3 a)), some (vI (i3 m)), none, some (vI (i3 ((nJ (fun t => C k (a + t)) m))))] [] (gM (SJ (upM (upM (RS M (fun t => C k (a + t)) (1 + 6 * (nJ (fun t => C k (a + t)) m) + 5 * (nD (fun t => C k (a + t)) m (1 + 6 * (nJ (fun t => C k (a + t)) m)))) (nJ (fun t => C k (a + t)) m) (nD (fun t => C k (a + t)) m (1 + 6 * (nJ (fun t => C k (a + t)) m))) (1 + 6 * (nJ (fun t => C k (a + t)) m))) 36 1 (i3 (nJ (fun t => C k (a + t)) m))) 36 7 (i3 (nD (fun t => C k (a + t)) m (1 + 6 * (nJ (fun t => C k (a + t)) m))))) ((nJ (fun t => C k (a + t)) m))))
    refine v_iload (pc := 98) hX rfl d_Mo_store_98 ?_
    refine v_aload_n (pc := 100) hX rfl d_Mo_store_100 ?_
    refine g_getI (pc := 101) hX fl_Mo_101 rfl rfl d_Mo_store_101 ?_
    rw [SJ_ne (by omega), upM_ne (by omega), upM_same]
    refine v_icmp_ge (pc := 104) (tgt := 183) hX d_Mo_store_104 rfl (fun h104 => ?_) (fun h104 => False.elim (absurd (Int32.le_refl _) h104))
    refine v_iconst (pc := 183) (v := 0) hX (by decide) d_Mo_store_183 ?_
    refine v_istore (pc := 184) (lo' := [some (vR _), some (vI _), some (vI _), some (vI _), some (vI _), none, some (vI _)]) hX (Nat.le_of_ble_eq_true rfl) rfl d_Mo_store_184 ?_
    refine VW.cast (lo' := [some (vR 36), some (vI (i3 k)), some (vI (ln k)), some (vI (i3 a)), some (vI (i3 m)), none, some (vI (i3 0))]) (st' := []) (G' := gM (SD (SJ (upM (upM (RS M (fun t => C k (a + t)) (1 + 6 * (nJ (fun t => C k (a + t)) m) + 5 * (nD (fun t => C k (a + t)) m (1 + 6 * (nJ (fun t => C k (a + t)) m)))) (nJ (fun t => C k (a + t)) m) (nD (fun t => C k (a + t)) m (1 + 6 * (nJ (fun t => C k (a + t)) m))) (1 + 6 * (nJ (fun t => C k (a + t)) m))) 36 1 (i3 (nJ (fun t => C k (a + t)) m))) 36 7 (i3 (nD (fun t => C k (a + t)) m (1 + 6 * (nJ (fun t => C k (a + t)) m))))) (nJ (fun t => C k (a + t)) m)) 0)) rfl rfl (by rw [SD_0]) ?_
    refine v_for (X := X) (head := 186) ((nD (fun t => C k (a + t)) m (1 + 6 * (nJ (fun t => C k (a + t)) m)))) (fun kk => [some (vR 36), some (vI (i3 k)), some (vI (ln k)), some (vI (i3 a)), some (vI (i3 m)), none, some (vI (i3 kk))]) (fun kk => SD (SJ (upM (upM (RS M (fun t => C k (a + t)) (1 + 6 * (nJ (fun t => C k (a + t)) m) + 5 * (nD (fun t => C k (a + t)) m (1 + 6 * (nJ (fun t => C k (a + t)) m)))) (nJ (fun t => C k (a + t)) m) (nD (fun t => C k (a + t)) m (1 + 6 * (nJ (fun t => C k (a + t)) m))) (1 + 6 * (nJ (fun t => C k (a + t)) m))) 36 1 (i3 (nJ (fun t => C k (a + t)) m))) 36 7 (i3 (nD (fun t => C k (a + t)) m (1 + 6 * (nJ (fun t => C k (a + t)) m))))) (nJ (fun t => C k (a + t)) m)) kk) (fun j hj ih186 => ?_) ?_
    · show VW X 186 [some (vR 36), some (vI (i3 k)), some (vI (ln k)), some (vI (i3 a)), some (vI (i3 m)), none, some (vI (i3 j))] [] (gM (SD (SJ (upM (upM (RS M (fun t => C k (a + t)) (1 + 6 * (nJ (fun t => C k (a + t)) m) + 5 * (nD (fun t => C k (a + t)) m (1 + 6 * (nJ (fun t => C k (a + t)) m)))) (nJ (fun t => C k (a + t)) m) (nD (fun t => C k (a + t)) m (1 + 6 * (nJ (fun t => C k (a + t)) m))) (1 + 6 * (nJ (fun t => C k (a + t)) m))) 36 1 (i3 (nJ (fun t => C k (a + t)) m))) 36 7 (i3 (nD (fun t => C k (a + t)) m (1 + 6 * (nJ (fun t => C k (a + t)) m))))) (nJ (fun t => C k (a + t)) m)) j))
      refine v_iload (pc := 186) hX rfl d_Mo_store_186 ?_
      refine v_aload_n (pc := 188) hX rfl d_Mo_store_188 ?_
      refine g_getI (pc := 189) hX fl_Mo_108 rfl rfl d_Mo_store_189 ?_
      rw [SD_ne (by omega), SJ_ne (by omega), upM_same]
      refine v_icmp_ge (pc := 192) (tgt := 251) hX d_Mo_store_192 rfl (fun h192 => False.elim (i3_ge_abs hj (by omega) h192)) (fun h192 => ?_)
      refine v_aload_n (pc := 195) hX rfl d_Mo_store_195 ?_
      refine g_getR (pc := 196) hX fl_Mo_25 rfl rfl nf_36_8 d_Mo_store_196 ?_
      refine v_iload (pc := 199) hX rfl d_Mo_store_199 ?_
      refine v_aload_n (pc := 201) hX rfl d_Mo_store_201 ?_
      refine g_getR (pc := 202) hX fl_Mo_52 rfl rfl nf_36_20 d_Mo_store_202 ?_
      refine v_iload (pc := 205) hX rfl d_Mo_store_205 ?_
      refine g_iald (pc := 207) hX rfl (IX.of (n := 4) (by omega) (by decide)) d_Mo_store_207 ?_
      refine g_iast (pc := 208) hX rfl (IX.of (n := 4) (by omega) (by decide)) d_Mo_store_208 ?_
      refine v_aload_n (pc := 209) hX rfl d_Mo_store_209 ?_
      refine g_getR (pc := 210) hX fl_Mo_28 rfl rfl nf_36_9 d_Mo_store_210 ?_
      refine v_iload (pc := 213) hX rfl d_Mo_store_213 ?_
      refine v_aload_n (pc := 215) hX rfl d_Mo_store_215 ?_
      refine g_getR (pc := 216) hX fl_Mo_55 rfl rfl nf_36_21 d_Mo_store_216 ?_
      refine v_iload (pc := 219) hX rfl d_Mo_store_219 ?_
      refine g_iald (pc := 221) hX rfl (IX.of (n := 4) (by omega) (by decide)) d_Mo_store_221 ?_
      refine g_iast (pc := 222) hX rfl (IX.of (n := 4) (by omega) (by decide)) d_Mo_store_222 ?_
      refine v_aload_n (pc := 223) hX rfl d_Mo_store_223 ?_
      refine g_getR (pc := 224) hX fl_Mo_31 rfl rfl nf_36_10 d_Mo_store_224 ?_
      refine v_iload (pc := 227) hX rfl d_Mo_store_227 ?_
      refine v_aload_n (pc := 229) hX rfl d_Mo_store_229 ?_
      refine g_getR (pc := 230) hX fl_Mo_58 rfl rfl nf_36_22 d_Mo_store_230 ?_
      refine v_iload (pc := 233) hX rfl d_Mo_store_233 ?_
      refine g_iald (pc := 235) hX rfl (IX.of (n := 4) (by omega) (by decide)) d_Mo_store_235 ?_
      refine g_iast (pc := 236) hX rfl (IX.of (n := 4) (by omega) (by decide)) d_Mo_store_236 ?_
      refine v_aload_n (pc := 237) hX rfl d_Mo_store_237 ?_
      refine g_getR (pc := 238) hX fl_Mo_34 rfl rfl nf_36_11 d_Mo_store_238 ?_
      refine v_iload (pc := 241) hX rfl d_Mo_store_241 ?_
      refine v_iconst (pc := 243) (v := 0) hX (by decide) d_Mo_store_243 ?_
      refine g_iast (pc := 244) hX rfl (IX.of (n := 4) (by omega) (by decide)) d_Mo_store_244 ?_
      refine v_iinc (pc := 245) (lo' := [some (vR _), some (vI _), some (vI _), some (vI _), some (vI _), none, some (vI _)]) hX rfl rfl d_Mo_store_245 ?_
      refine v_goto (pc := 248) (tgt := 186) hX d_Mo_store_248 rfl ?_
      exact VW.cast (by rw [i3_succ]; rfl) rfl (congrArg gM (SD_s (M := SJ (upM (upM (RS M (fun t => C k (a + t)) (1 + 6 * (nJ (fun t => C k (a + t)) m) + 5 * (nD (fun t => C k (a + t)) m (1 + 6 * (nJ (fun t => C k (a + t)) m)))) (nJ (fun t => C k (a + t)) m) (nD (fun t => C k (a + t)) m (1 + 6 * (nJ (fun t => C k (a + t)) m))) (1 + 6 * (nJ (fun t => C k (a + t)) m))) 36 1 (i3 (nJ (fun t => C k (a + t)) m))) 36 7 (i3 (nD (fun t => C k (a + t)) m (1 + 6 * (nJ (fun t => C k (a + t)) m))))) (nJ (fun t => C k (a + t)) m)) (k := j) (SD_ne (by omega)) (by rw [upM_ne (by omega)]; exact SD_ne (by omega)) (by rw [upM_ne (by omega), upM_ne (by omega)]; exact SD_ne (by omega))).symm) ih186
    · show VW X 186 [some (vR 36), some (vI (i3 k)), some (vI (ln k)), some (vI (i3 a)), some (vI (i3 m)), none, some (vI (i3 ((nD (fun t => C k (a + t)) m (1 + 6 * (nJ (fun t => C k (a + t)) m))))))] [] (gM (SD (SJ (upM (upM (RS M (fun t => C k (a + t)) (1 + 6 * (nJ (fun t => C k (a + t)) m) + 5 * (nD (fun t => C k (a + t)) m (1 + 6 * (nJ (fun t => C k (a + t)) m)))) (nJ (fun t => C k (a + t)) m) (nD (fun t => C k (a + t)) m (1 + 6 * (nJ (fun t => C k (a + t)) m))) (1 + 6 * (nJ (fun t => C k (a + t)) m))) 36 1 (i3 (nJ (fun t => C k (a + t)) m))) 36 7 (i3 (nD (fun t => C k (a + t)) m (1 + 6 * (nJ (fun t => C k (a + t)) m))))) (nJ (fun t => C k (a + t)) m)) ((nD (fun t => C k (a + t)) m (1 + 6 * (nJ (fun t => C k (a + t)) m))))))
      refine v_iload (pc := 186) hX rfl d_Mo_store_186 ?_
      refine v_aload_n (pc := 188) hX rfl d_Mo_store_188 ?_
      refine g_getI (pc := 189) hX fl_Mo_108 rfl rfl d_Mo_store_189 ?_
      rw [SD_ne (by omega), SJ_ne (by omega), upM_same]
      refine v_icmp_ge (pc := 192) (tgt := 251) hX d_Mo_store_192 rfl (fun h192 => ?_) (fun h192 => False.elim (absurd (Int32.le_refl _) h192))
      refine v_aload_n (pc := 251) hX rfl d_Mo_store_251 ?_
      refine v_iconst (pc := 252) (v := 0) hX (by decide) d_Mo_store_252 ?_
      refine g_putI (pc := 253) hX fl_Mo_161 rfl (finI rfl rfl) rfl rfl rfl d_Mo_store_253 ?_
      refine v_aload_n (pc := 256) hX rfl d_Mo_store_256 ?_
      refine v_aload_n (pc := 257) hX rfl d_Mo_store_257 ?_
      refine g_getI (pc := 258) hX fl_Mo_101 rfl rfl d_Mo_store_258 ?_
      rw [upM_ne (by omega), SD_ne (by omega), SJ_ne (by omega), upM_ne (by omega), upM_same]
      refine f_callV (pc := 261) hX k_Mo_refused ki_Mo_refused kv_Mo_refused ml_Mo_149 (C_Mo_refused) rfl rfl rfl rfl rfl (Nat.le_of_ble_eq_true rfl) (Nat.le_of_ble_eq_true rfl) (Nat.le_of_ble_eq_true rfl) d_Mo_store_261 ?_
      exact f_iret (pc := 264) hX hR (rfl) (rfl) d_Mo_store_264
theorem C_Mo_store_bad {M : MM} {k : Nat} {zs : Nat → Nat} {ln : Nat → Int32} {C : JT} (hZ : MZ M zs ln C) (hk : k < 4) (hu : rg (ln k) 0 2 = true) {a m : Nat} (hz : zs k ≠ 0) (ham : a + m ≤ zs k - 1) {f : Nat} (hff : ffO (fun t => C k (a + t)) m = some f) : ∃ x y P, AF y_Mo_store c_Mo_store 7 (some .int) 5 [vR 36, vI (i3 k), vI (ln k), vI (i3 a), vI (i3 m)] M (some (vI (-100 - i3 f))) (upM (RS M (fun t => C k (a + t)) f x y P) 36 0 0) := by
  obtain ⟨z1, z2, z3⟩ := hZ k hk
  obtain ⟨x, y, P, h⟩ := C_Mo_rs_no (M := M) (F := 60 * k + a) (m := m) (q := (fun t => C k (a + t))) (by omega) (by omega) (fun t ht => by rw [Nat.add_assoc]; exact (z3 hz).2 (a + t) (by omega)) hff
  exact ⟨x, y, P, C_Mo_store_bad0 hZ hk hu hz ham h⟩
