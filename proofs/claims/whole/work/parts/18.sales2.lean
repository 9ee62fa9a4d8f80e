/-! What a year tells. -/
theorem d_Sa_emptied_0 : decode c_Sa_emptied 0 = .ok (.iconst 0, 1) := by decide +kernel
theorem d_Sa_emptied_1 : decode c_Sa_emptied 1 = .ok (.istore_n 2, 1) := by decide +kernel
theorem d_Sa_emptied_2 : decode c_Sa_emptied 2 = .ok (.iconst 0, 1) := by decide +kernel
theorem d_Sa_emptied_3 : decode c_Sa_emptied 3 = .ok (.istore_n 3, 1) := by decide +kernel
theorem d_Sa_emptied_4 : decode c_Sa_emptied 4 = .ok (.iload_n 3, 1) := by decide +kernel
theorem d_Sa_emptied_5 : decode c_Sa_emptied 5 = .ok (.aload_n 1, 1) := by decide +kernel
theorem d_Sa_emptied_6 : decode c_Sa_emptied 6 = .ok (.getfield 95, 3) := by decide +kernel
theorem d_Sa_emptied_9 : decode c_Sa_emptied 9 = .ok (.if_icmp .ge 28, 3) := by decide +kernel
theorem d_Sa_emptied_12 : decode c_Sa_emptied 12 = .ok (.iload_n 2, 1) := by decide +kernel
theorem d_Sa_emptied_13 : decode c_Sa_emptied 13 = .ok (.aload_n 0, 1) := by decide +kernel
theorem d_Sa_emptied_14 : decode c_Sa_emptied 14 = .ok (.getfield 9, 3) := by decide +kernel
theorem d_Sa_emptied_17 : decode c_Sa_emptied 17 = .ok (.iload_n 3, 1) := by decide +kernel
theorem d_Sa_emptied_18 : decode c_Sa_emptied 18 = .ok (.iaload, 1) := by decide +kernel
theorem d_Sa_emptied_19 : decode c_Sa_emptied 19 = .ok (.ifCond .ne 9, 3) := by decide +kernel
theorem d_Sa_emptied_22 : decode c_Sa_emptied 22 = .ok (.iconst 1, 1) := by decide +kernel
theorem d_Sa_emptied_23 : decode c_Sa_emptied 23 = .ok (.iload_n 3, 1) := by decide +kernel
theorem d_Sa_emptied_24 : decode c_Sa_emptied 24 = .ok (.ishl, 1) := by decide +kernel
theorem d_Sa_emptied_25 : decode c_Sa_emptied 25 = .ok (.goto 4, 3) := by decide +kernel
theorem d_Sa_emptied_28 : decode c_Sa_emptied 28 = .ok (.iconst 0, 1) := by decide +kernel
theorem d_Sa_emptied_29 : decode c_Sa_emptied 29 = .ok (.ior, 1) := by decide +kernel
theorem d_Sa_emptied_30 : decode c_Sa_emptied 30 = .ok (.istore_n 2, 1) := by decide +kernel
theorem d_Sa_emptied_31 : decode c_Sa_emptied 31 = .ok (.iinc 3 1, 3) := by decide +kernel
theorem d_Sa_emptied_34 : decode c_Sa_emptied 34 = .ok (.goto (-30), 3) := by decide +kernel
theorem d_Sa_emptied_37 : decode c_Sa_emptied 37 = .ok (.iload_n 2, 1) := by decide +kernel
theorem d_Sa_emptied_38 : decode c_Sa_emptied 38 = .ok (.ireturn, 1) := by decide +kernel
theorem C_Sa_emptied {M : MM} {n : Nat} {h : Nat → Int32} (h6 : n ≤ 6) (hM : M 3 2 = i3 n) (hh : ∀ j, j < n → M 17 j = h j) : AF y_Sa_emptied c_Sa_emptied 4 (some .int) 1 [vR 16, vR 3] (M) (some (vI (i3 (gjN (fun j => decide (h j = 0)) n)))) (M) := by
  refine AF.of k_Sa_emptied (lo := [some (vR 16), some (vR 3), none, none]) rfl (Nat.le_of_ble_eq_true rfl) (fun X hX hR => ?_)
  refine v_iconst (pc := 0) (v := 0) hX (by decide) d_Sa_emptied_0 ?_
  refine v_istore_n (pc := 1) (lo' := [some (vR _), some (vR _), some (vI _), none]) hX (Nat.le_of_ble_eq_true rfl) rfl d_Sa_emptied_1 ?_
  refine v_iconst (pc := 2) (v := 0) hX (by decide) d_Sa_emptied_2 ?_
  refine v_istore_n (pc := 3) (lo' := [some (vR _), some (vR _), some (vI _), some (vI _)]) hX (Nat.le_of_ble_eq_true rfl) rfl d_Sa_emptied_3 ?_
  refine VW.cast (lo' := [some (vR 16), some (vR 3), some (vI (i3 (gjN (fun j => decide (h j = 0)) 0))), some (vI (i3 0))]) (st' := []) (G' := gM (M)) rfl rfl rfl ?_
  refine v_for (X := X) (head := 4) (n) (fun kk => [some (vR 16), some (vR 3), some (vI (i3 (gjN (fun j => decide (h j = 0)) kk))), some (vI (i3 kk))]) (fun kk => M) (fun k hk ih4 => ?_) ?_
  · show VW X 4 [some (vR 16), some (vR 3), some (vI (i3 (gjN (fun j => decide (h j = 0)) k))), some (vI (i3 k))] [] (gM (M))
    have hb := shl_i3 k (by omega)
    have hl := gjN_lt (fun j => decide (h j = 0)) k
    refine v_iload_n (pc := 4) hX rfl d_Sa_emptied_4 ?_
    refine v_aload_n (pc := 5) hX rfl d_Sa_emptied_5 ?_
    refine g_getI (pc := 6) hX fl_Sa_95 rfl rfl d_Sa_emptied_6 ?_
    refine v_icmp_ge (pc := 9) (tgt := 37) hX d_Sa_emptied_9 rfl (fun h9 => False.elim (i3_ge_abs hk (by omega) (by rw [← hM]; exact h9))) (fun h9 => ?_)
    refine v_iload_n (pc := 12) hX rfl d_Sa_emptied_12 ?_
    refine v_aload_n (pc := 13) hX rfl d_Sa_emptied_13 ?_
    refine g_getR (pc := 14) hX fl_Sa_9 rfl rfl nf_16_0 d_Sa_emptied_14 ?_
    refine v_iload_n (pc := 17) hX rfl d_Sa_emptied_17 ?_
    refine g_iald (pc := 18) hX rfl (IX.of (n := 6) (by omega) (by decide)) d_Sa_emptied_18 ?_
    rw [hh k hk]
    refine v_if_ne (pc := 19) (tgt := 28) hX d_Sa_emptied_19 rfl (fun h19 => ?_) (fun h19 => ?_)
    · have e : gjN (fun j => decide (h j = 0)) (k + 1) = gjN (fun j => decide (h j = 0)) k := by simp [gjN, h19]
      refine v_iconst (pc := 28) (v := 0) hX (by decide) d_Sa_emptied_28 ?_
      refine v_ior (pc := 29) hX d_Sa_emptied_29 ?_
      refine v_istore_n (pc := 30) (lo' := [some (vR _), some (vR _), some (vI _), some (vI _)]) hX (Nat.le_of_ble_eq_true rfl) rfl d_Sa_emptied_30 ?_
      refine v_iinc (pc := 31) (lo' := [some (vR _), some (vR _), some (vI _), some (vI _)]) hX rfl rfl d_Sa_emptied_31 ?_
      refine v_goto (pc := 34) (tgt := 4) hX d_Sa_emptied_34 rfl ?_
      exact VW.cast (by first | (rw [e, i3_succ, hb, or_i3 k (by omega) _ hl]; rfl) | (rw [e, i3_succ, or_0]; rfl)) rfl rfl ih4
    · have e : gjN (fun j => decide (h j = 0)) (k + 1) = gjN (fun j => decide (h j = 0)) k + 2 ^ k := by simp [gjN, h19]
      refine v_iconst (pc := 22) (v := 1) hX (by decide) d_Sa_emptied_22 ?_
      refine v_iload_n (pc := 23) hX rfl d_Sa_emptied_23 ?_
      refine v_ishl (pc := 24) hX d_Sa_emptied_24 ?_
      refine v_goto (pc := 25) (tgt := 29) hX d_Sa_emptied_25 rfl ?_
      refine v_ior (pc := 29) hX d_Sa_emptied_29 ?_
      refine v_istore_n (pc := 30) (lo' := [some (vR _), some (vR _), some (vI _), some (vI _)]) hX (Nat.le_of_ble_eq_true rfl) rfl d_Sa_emptied_30 ?_
      refine v_iinc (pc := 31) (lo' := [some (vR _), some (vR _), some (vI _), some (vI _)]) hX rfl rfl d_Sa_emptied_31 ?_
      refine v_goto (pc := 34) (tgt := 4) hX d_Sa_emptied_34 rfl ?_
      exact VW.cast (by first | (rw [e, i3_succ, hb, or_i3 k (by omega) _ hl]; rfl) | (rw [e, i3_succ, or_0]; rfl)) rfl rfl ih4
  · show VW X 4 [some (vR 16), some (vR 3), some (vI (i3 (gjN (fun j => decide (h j = 0)) (n)))), some (vI (i3 (n)))] [] (gM (M))
    refine v_iload_n (pc := 4) hX rfl d_Sa_emptied_4 ?_
    refine v_aload_n (pc := 5) hX rfl d_Sa_emptied_5 ?_
    refine g_getI (pc := 6) hX fl_Sa_95 rfl rfl d_Sa_emptied_6 ?_
    refine v_icmp_ge (pc := 9) (tgt := 37) hX d_Sa_emptied_9 rfl (fun h9 => ?_) (fun h9 => False.elim (absurd (by rw [hM]; exact Int32.le_refl _) h9))
    refine v_iload_n (pc := 37) hX rfl d_Sa_emptied_37 ?_
    exact f_iret (pc := 38) hX hR (rfl) (rfl) d_Sa_emptied_38
theorem d_Sa_halvesThen_0 : decode c_Sa_halvesThen 0 = .ok (.iload_n 2, 1) := by decide +kernel
theorem d_Sa_halvesThen_1 : decode c_Sa_halvesThen 1 = .ok (.aload_n 1, 1) := by decide +kernel
theorem d_Sa_halvesThen_2 : decode c_Sa_halvesThen 2 = .ok (.getfield 95, 3) := by decide +kernel
theorem d_Sa_halvesThen_5 : decode c_Sa_halvesThen 5 = .ok (.invokestatic 18, 3) := by decide +kernel
theorem d_Sa_halvesThen_8 : decode c_Sa_halvesThen 8 = .ok (.ifCond .eq 12, 3) := by decide +kernel
theorem d_Sa_halvesThen_11 : decode c_Sa_halvesThen 11 = .ok (.aload_n 0, 1) := by decide +kernel
theorem d_Sa_halvesThen_12 : decode c_Sa_halvesThen 12 = .ok (.getfield 9, 3) := by decide +kernel
theorem d_Sa_halvesThen_15 : decode c_Sa_halvesThen 15 = .ok (.iload_n 2, 1) := by decide +kernel
theorem d_Sa_halvesThen_16 : decode c_Sa_halvesThen 16 = .ok (.iaload, 1) := by decide +kernel
theorem d_Sa_halvesThen_17 : decode c_Sa_halvesThen 17 = .ok (.goto 5, 3) := by decide +kernel
theorem d_Sa_halvesThen_20 : decode c_Sa_halvesThen 20 = .ok (.bipush (-9), 2) := by decide +kernel
theorem d_Sa_halvesThen_22 : decode c_Sa_halvesThen 22 = .ok (.ireturn, 1) := by decide +kernel
theorem C_Sa_halvesThen {M : MM} {n : Nat} {h : Nat → Int32} {x : Int32} (h6 : n ≤ 6) (hM : M 3 2 = i3 n) (hh : ∀ j, j < n → M 17 j = h j) : AF y_Sa_halvesThen c_Sa_halvesThen 3 (some .int) 2 [vR 16, vR 3, vI x] (M) (some (vI (if rg x 0 ((n : Int) - 1) = true then h x.toNatClampNeg else -9))) (M) := by
  refine AF.of k_Sa_halvesThen (lo := [some (vR 16), some (vR 3), some (vI x)]) rfl (Nat.le_of_ble_eq_true rfl) (fun X hX hR => ?_)
  refine v_iload_n (pc := 0) hX rfl d_Sa_halvesThen_0 ?_
  refine v_aload_n (pc := 1) hX rfl d_Sa_halvesThen_1 ?_
  refine g_getI (pc := 2) hX fl_Sa_95 rfl rfl d_Sa_halvesThen_2 ?_
  refine f_callN (pc := 5) hX k_LJ_isBelow ks_LJ_isBelow (by decide) (C_LJ_isBelow) rfl rfl rfl (Nat.le_of_ble_eq_true rfl) (Nat.le_of_ble_eq_true rfl) (Nat.le_of_ble_eq_true rfl) d_Sa_halvesThen_5 ?_
  rw [hM, i3_int (by omega)]
  refine f_ifeqB (pc := 8) (tgt := 20) hX d_Sa_halvesThen_8 rfl (fun h8 => ?_) (fun h8 => ?_)
  · refine v_bipush (pc := 20) (v := (-9)) hX (by decide) d_Sa_halvesThen_20 ?_
    exact f_iret (pc := 22) hX hR (by first | (rw [if_pos h8, hix.1]; exact hh k hk) | (rw [if_neg (by rw [h8]; decide)])) (rfl) d_Sa_halvesThen_22
  · obtain ⟨k, hk, hx⟩ := rg_in (by omega) h8
    have hix : IX x k 6 := by rw [hx]; exact IX.of (by omega) (by decide)
    refine v_aload_n (pc := 11) hX rfl d_Sa_halvesThen_11 ?_
    refine g_getR (pc := 12) hX fl_Sa_9 rfl rfl nf_16_0 d_Sa_halvesThen_12 ?_
    refine v_iload_n (pc := 15) hX rfl d_Sa_halvesThen_15 ?_
    refine g_iald (pc := 16) hX rfl hix d_Sa_halvesThen_16 ?_
    refine v_goto (pc := 17) (tgt := 22) hX d_Sa_halvesThen_17 rfl ?_
    exact f_iret (pc := 22) hX hR (by first | (rw [if_pos h8, hix.1]; exact hh k hk) | (rw [if_neg (by rw [h8]; decide)])) (rfl) d_Sa_halvesThen_22
theorem d_Sa_purseThen_0 : decode c_Sa_purseThen 0 = .ok (.iload_n 2, 1) := by decide +kernel
theorem d_Sa_purseThen_1 : decode c_Sa_purseThen 1 = .ok (.aload_n 1, 1) := by decide +kernel
theorem d_Sa_purseThen_2 : decode c_Sa_purseThen 2 = .ok (.getfield 98, 3) := by decide +kernel
theorem d_Sa_purseThen_5 : decode c_Sa_purseThen 5 = .ok (.invokestatic 18, 3) := by decide +kernel
theorem d_Sa_purseThen_8 : decode c_Sa_purseThen 8 = .ok (.ifCond .eq 12, 3) := by decide +kernel
theorem d_Sa_purseThen_11 : decode c_Sa_purseThen 11 = .ok (.aload_n 0, 1) := by decide +kernel
theorem d_Sa_purseThen_12 : decode c_Sa_purseThen 12 = .ok (.getfield 15, 3) := by decide +kernel
theorem d_Sa_purseThen_15 : decode c_Sa_purseThen 15 = .ok (.iload_n 2, 1) := by decide +kernel
theorem d_Sa_purseThen_16 : decode c_Sa_purseThen 16 = .ok (.iaload, 1) := by decide +kernel
theorem d_Sa_purseThen_17 : decode c_Sa_purseThen 17 = .ok (.goto 5, 3) := by decide +kernel
theorem d_Sa_purseThen_20 : decode c_Sa_purseThen 20 = .ok (.bipush (-9), 2) := by decide +kernel
theorem d_Sa_purseThen_22 : decode c_Sa_purseThen 22 = .ok (.ireturn, 1) := by decide +kernel
theorem C_Sa_purseThen {M : MM} {n : Nat} {h : Nat → Int32} {x : Int32} (h6 : n ≤ 4) (hM : M 3 3 = i3 n) (hh : ∀ j, j < n → M 18 j = h j) : AF y_Sa_purseThen c_Sa_purseThen 3 (some .int) 2 [vR 16, vR 3, vI x] (M) (some (vI (if rg x 0 ((n : Int) - 1) = true then h x.toNatClampNeg else -9))) (M) := by
  refine AF.of k_Sa_purseThen (lo := [some (vR 16), some (vR 3), some (vI x)]) rfl (Nat.le_of_ble_eq_true rfl) (fun X hX hR => ?_)
  refine v_iload_n (pc := 0) hX rfl d_Sa_purseThen_0 ?_
  refine v_aload_n (pc := 1) hX rfl d_Sa_purseThen_1 ?_
  refine g_getI (pc := 2) hX fl_Sa_98 rfl rfl d_Sa_purseThen_2 ?_
  refine f_callN (pc := 5) hX k_LJ_isBelow ks_LJ_isBelow (by decide) (C_LJ_isBelow) rfl rfl rfl (Nat.le_of_ble_eq_true rfl) (Nat.le_of_ble_eq_true rfl) (Nat.le_of_ble_eq_true rfl) d_Sa_purseThen_5 ?_
  rw [hM, i3_int (by omega)]
  refine f_ifeqB (pc := 8) (tgt := 20) hX d_Sa_purseThen_8 rfl (fun h8 => ?_) (fun h8 => ?_)
  · refine v_bipush (pc := 20) (v := (-9)) hX (by decide) d_Sa_purseThen_20 ?_
    exact f_iret (pc := 22) hX hR (by first | (rw [if_pos h8, hix.1]; exact hh k hk) | (rw [if_neg (by rw [h8]; decide)])) (rfl) d_Sa_purseThen_22
  · obtain ⟨k, hk, hx⟩ := rg_in (by omega) h8
    have hix : IX x k 4 := by rw [hx]; exact IX.of (by omega) (by decide)
    refine v_aload_n (pc := 11) hX rfl d_Sa_purseThen_11 ?_
    refine g_getR (pc := 12) hX fl_Sa_15 rfl rfl nf_16_1 d_Sa_purseThen_12 ?_
    refine v_iload_n (pc := 15) hX rfl d_Sa_purseThen_15 ?_
    refine g_iald (pc := 16) hX rfl hix d_Sa_purseThen_16 ?_
    refine v_goto (pc := 17) (tgt := 22) hX d_Sa_purseThen_17 rfl ?_
    exact f_iret (pc := 22) hX hR (by first | (rw [if_pos h8, hix.1]; exact hh k hk) | (rw [if_neg (by rw [h8]; decide)])) (rfl) d_Sa_purseThen_22
def yaN (n nd : Nat) (s : YS) (w : Int32) : Int32 :=
  if w = 1 then (if s.2.2 = 0 then -9 else i3 (s.2.2 - 1))
  else if s.2.2 ≠ 0 then -100 - i3 (s.2.2 - 1)
  else if w = 0 then s.2.1.1 else if w = 2 then s.2.1.2 else if w = 3 then i3 (gjN (fun j => decide (s.1.1 j = 0)) n)
  else if w < 20 then (if rg (w - 10) 0 ((n : Int) - 1) = true then s.1.1 (w - 10).toNatClampNeg else -9)
  else (if rg (w - 20) 0 ((nd : Int) - 1) = true then s.1.2 (w - 20).toNatClampNeg else -9)
theorem d_Sa_answer_0 : decode c_Sa_answer 0 = .ok (.iload_n 2, 1) := by decide +kernel
theorem d_Sa_answer_1 : decode c_Sa_answer 1 = .ok (.iconst 1, 1) := by decide +kernel
theorem d_Sa_answer_2 : decode c_Sa_answer 2 = .ok (.if_icmp .ne 8, 3) := by decide +kernel
theorem d_Sa_answer_5 : decode c_Sa_answer 5 = .ok (.aload_n 0, 1) := by decide +kernel
theorem d_Sa_answer_6 : decode c_Sa_answer 6 = .ok (.getfield 50, 3) := by decide +kernel
theorem d_Sa_answer_9 : decode c_Sa_answer 9 = .ok (.ireturn, 1) := by decide +kernel
theorem d_Sa_answer_10 : decode c_Sa_answer 10 = .ok (.aload_n 0, 1) := by decide +kernel
theorem d_Sa_answer_11 : decode c_Sa_answer 11 = .ok (.getfield 50, 3) := by decide +kernel
theorem d_Sa_answer_14 : decode c_Sa_answer 14 = .ok (.bipush (-9), 2) := by decide +kernel
theorem d_Sa_answer_16 : decode c_Sa_answer 16 = .ok (.if_icmp .eq 11, 3) := by decide +kernel
theorem d_Sa_answer_19 : decode c_Sa_answer 19 = .ok (.bipush (-100), 2) := by decide +kernel
theorem d_Sa_answer_21 : decode c_Sa_answer 21 = .ok (.aload_n 0, 1) := by decide +kernel
theorem d_Sa_answer_22 : decode c_Sa_answer 22 = .ok (.getfield 50, 3) := by decide +kernel
theorem d_Sa_answer_25 : decode c_Sa_answer 25 = .ok (.isub, 1) := by decide +kernel
theorem d_Sa_answer_26 : decode c_Sa_answer 26 = .ok (.ireturn, 1) := by decide +kernel
theorem d_Sa_answer_27 : decode c_Sa_answer 27 = .ok (.iload_n 2, 1) := by decide +kernel
theorem d_Sa_answer_28 : decode c_Sa_answer 28 = .ok (.tableswitch 48 0 3 #[32, 48, 37, 42], 32) := by decide +kernel
theorem d_Sa_answer_60 : decode c_Sa_answer 60 = .ok (.aload_n 0, 1) := by decide +kernel
theorem d_Sa_answer_61 : decode c_Sa_answer 61 = .ok (.getfield 62, 3) := by decide +kernel
theorem d_Sa_answer_64 : decode c_Sa_answer 64 = .ok (.ireturn, 1) := by decide +kernel
theorem d_Sa_answer_65 : decode c_Sa_answer 65 = .ok (.aload_n 0, 1) := by decide +kernel
theorem d_Sa_answer_66 : decode c_Sa_answer 66 = .ok (.getfield 59, 3) := by decide +kernel
theorem d_Sa_answer_69 : decode c_Sa_answer 69 = .ok (.ireturn, 1) := by decide +kernel
theorem d_Sa_answer_70 : decode c_Sa_answer 70 = .ok (.aload_n 0, 1) := by decide +kernel
theorem d_Sa_answer_71 : decode c_Sa_answer 71 = .ok (.aload_n 1, 1) := by decide +kernel
theorem d_Sa_answer_72 : decode c_Sa_answer 72 = .ok (.invokevirtual 84, 3) := by decide +kernel
theorem d_Sa_answer_75 : decode c_Sa_answer 75 = .ok (.ireturn, 1) := by decide +kernel
theorem d_Sa_answer_76 : decode c_Sa_answer 76 = .ok (.iload_n 2, 1) := by decide +kernel
theorem d_Sa_answer_77 : decode c_Sa_answer 77 = .ok (.bipush 20, 2) := by decide +kernel
theorem d_Sa_answer_79 : decode c_Sa_answer 79 = .ok (.if_icmp .ge 15, 3) := by decide +kernel
theorem d_Sa_answer_82 : decode c_Sa_answer 82 = .ok (.aload_n 0, 1) := by decide +kernel
theorem d_Sa_answer_83 : decode c_Sa_answer 83 = .ok (.aload_n 1, 1) := by decide +kernel
theorem d_Sa_answer_84 : decode c_Sa_answer 84 = .ok (.iload_n 2, 1) := by decide +kernel
theorem d_Sa_answer_85 : decode c_Sa_answer 85 = .ok (.bipush 10, 2) := by decide +kernel
theorem d_Sa_answer_87 : decode c_Sa_answer 87 = .ok (.isub, 1) := by decide +kernel
theorem d_Sa_answer_88 : decode c_Sa_answer 88 = .ok (.invokevirtual 88, 3) := by decide +kernel
theorem d_Sa_answer_91 : decode c_Sa_answer 91 = .ok (.goto 12, 3) := by decide +kernel
theorem d_Sa_answer_94 : decode c_Sa_answer 94 = .ok (.aload_n 0, 1) := by decide +kernel
theorem d_Sa_answer_95 : decode c_Sa_answer 95 = .ok (.aload_n 1, 1) := by decide +kernel
theorem d_Sa_answer_96 : decode c_Sa_answer 96 = .ok (.iload_n 2, 1) := by decide +kernel
theorem d_Sa_answer_97 : decode c_Sa_answer 97 = .ok (.bipush 20, 2) := by decide +kernel
theorem d_Sa_answer_99 : decode c_Sa_answer 99 = .ok (.isub, 1) := by decide +kernel
theorem d_Sa_answer_100 : decode c_Sa_answer 100 = .ok (.invokevirtual 92, 3) := by decide +kernel
theorem d_Sa_answer_103 : decode c_Sa_answer 103 = .ok (.ireturn, 1) := by decide +kernel
theorem C_Sa_answer {M : MM} {n nd : Nat} {s : YS} {w : Int32} (h6 : n ≤ 6) (h4 : nd ≤ 4) (hM : M 3 2 = i3 n) (hM3 : M 3 3 = i3 nd) (hs : s.2.2 ≤ 20) : AF y_Sa_answer c_Sa_answer 3 (some .int) 3 [vR 16, vR 3, vI w] (YM M n nd s) (some (vI (yaN n nd s w))) (YM M n nd s) := by
  have hM' : YM M n nd s 3 2 = i3 n := by rw [YM_ne (by omega)]; exact hM
  have hM3' : YM M n nd s 3 3 = i3 nd := by rw [YM_ne (by omega)]; exact hM3
  refine AF.of k_Sa_answer (lo := [some (vR 16), some (vR 3), some (vI w)]) rfl (Nat.le_of_ble_eq_true rfl) (fun X hX hR => ?_)
  refine v_iload_n (pc := 0) hX rfl d_Sa_answer_0 ?_
  refine v_iconst (pc := 1) (v := 1) hX (by decide) d_Sa_answer_1 ?_
  refine v_icmp_ne (pc := 2) (tgt := 10) hX d_Sa_answer_2 rfl (fun h2 => ?_) (fun h2 => ?_)
  · refine v_aload_n (pc := 10) hX rfl d_Sa_answer_10 ?_
    refine g_getI (pc := 11) hX fl_Sa_50 rfl rfl d_Sa_answer_11 ?_
    refine v_bipush (pc := 14) (v := (-9)) hX (by decide) d_Sa_answer_14 ?_
    refine v_icmp_eq (pc := 16) (tgt := 27) hX d_Sa_answer_16 rfl (fun h16 => ?_) (fun h16 => ?_)
    · have hw : ¬ s.2.2 ≠ 0 := fun q => by rw [YM_2, if_neg q, eq32, i3_int (by omega), q_m9] at h16; omega
      refine v_iload_n (pc := 27) hX rfl d_Sa_answer_27 ?_
      refine v_top (fun y28 q28 => ?_)
      by_cases e28_0 : y28 = 0
      · refine v_tabIn (pc := 28) (tgt := 60) (off := 32) (y := 0) hX e28_0 d_Sa_answer_28 (by decide) (by decide) (by decide) rfl ?_
        refine v_aload_n (pc := 60) hX rfl d_Sa_answer_60 ?_
        refine g_getI (pc := 61) hX fl_Sa_62 rfl rfl d_Sa_answer_61 ?_
        exact f_iret (pc := 64) hX hR (by subst q28; unfold yaN; rw [if_neg h2, if_neg hw, if_pos e28_0, YM_3]) (rfl) d_Sa_answer_64
      by_cases e28_2 : y28 = 2
      · refine v_tabIn (pc := 28) (tgt := 65) (off := 37) (y := 2) hX e28_2 d_Sa_answer_28 (by decide) (by decide) (by decide) rfl ?_
        refine v_aload_n (pc := 65) hX rfl d_Sa_answer_65 ?_
        refine g_getI (pc := 66) hX fl_Sa_59 rfl rfl d_Sa_answer_66 ?_
        exact f_iret (pc := 69) hX hR (by subst q28; unfold yaN; rw [if_neg h2, if_neg hw, if_neg e28_0, if_pos e28_2, YM_4]) (rfl) d_Sa_answer_69
      by_cases e28_3 : y28 = 3
      · refine v_tabIn (pc := 28) (tgt := 70) (off := 42) (y := 3) hX e28_3 d_Sa_answer_28 (by decide) (by decide) (by decide) rfl ?_
        refine v_aload_n (pc := 70) hX rfl d_Sa_answer_70 ?_
        refine v_aload_n (pc := 71) hX rfl d_Sa_answer_71 ?_
        refine f_callV (pc := 72) hX k_Sa_emptied ki_Sa_emptied kv_Sa_emptied ml_Sa_84 (C_Sa_emptied h6 hM' (fun j hj => YM_h hj h6)) rfl rfl rfl rfl rfl (Nat.le_of_ble_eq_true rfl) (Nat.le_of_ble_eq_true rfl) (Nat.le_of_ble_eq_true rfl) d_Sa_answer_72 ?_
        exact f_iret (pc := 75) hX hR (by subst q28; unfold yaN; rw [if_neg h2, if_neg hw, if_neg e28_0, if_neg e28_2, if_pos e28_3]) (rfl) d_Sa_answer_75
      have e28_1 : ¬ y28 = 1 := by rw [← q28]; exact h2
      refine v_tabOut (pc := 28) (tgt := 76) hX d_Sa_answer_28 (by simp only [eq32, q_0, q_1, q_2, q_3, q_4, q_5, q_6, q_7, q_8, q_9, q_10, q_11, q_12, q_15, q_16, q_20, q_21, q_23, q_24, q_29, q_31, q_44, q_48, q_59, q_60, q_61, q_63, q_99, q_100, q_108, q_112, q_116, q_119, q_240, q_m1, q_m9] at e28_0 e28_1 e28_2 e28_3; omega) rfl ?_
      refine v_iload_n (pc := 76) hX rfl d_Sa_answer_76 ?_
      refine v_bipush (pc := 77) (v := 20) hX (by decide) d_Sa_answer_77 ?_
      refine v_icmp_ge (pc := 79) (tgt := 94) hX d_Sa_answer_79 rfl (fun h79 => ?_) (fun h79 => ?_)
      · refine v_aload_n (pc := 94) hX rfl d_Sa_answer_94 ?_
        refine v_aload_n (pc := 95) hX rfl d_Sa_answer_95 ?_
        refine v_iload_n (pc := 96) hX rfl d_Sa_answer_96 ?_
        refine v_bipush (pc := 97) (v := 20) hX (by decide) d_Sa_answer_97 ?_
        refine v_isub (pc := 99) hX d_Sa_answer_99 ?_
        refine f_callV (pc := 100) hX k_Sa_purseThen ki_Sa_purseThen kv_Sa_purseThen ml_Sa_92 (C_Sa_purseThen h4 hM3' (fun j hj => YM_p hj h4)) rfl rfl rfl rfl rfl (Nat.le_of_ble_eq_true rfl) (Nat.le_of_ble_eq_true rfl) (Nat.le_of_ble_eq_true rfl) d_Sa_answer_100 ?_
        exact f_iret (pc := 103) hX hR (by subst q28; unfold yaN; rw [if_neg h2, if_neg hw, if_neg e28_0, if_neg e28_2, if_neg e28_3]; first | (rw [if_pos (Int32.not_le.mp h79)]) | (rw [if_neg (Int32.not_lt.mpr h79)])) (rfl) d_Sa_answer_103
      · refine v_aload_n (pc := 82) hX rfl d_Sa_answer_82 ?_
        refine v_aload_n (pc := 83) hX rfl d_Sa_answer_83 ?_
        refine v_iload_n (pc := 84) hX rfl d_Sa_answer_84 ?_
        refine v_bipush (pc := 85) (v := 10) hX (by decide) d_Sa_answer_85 ?_
        refine v_isub (pc := 87) hX d_Sa_answer_87 ?_
        refine f_callV (pc := 88) hX k_Sa_halvesThen ki_Sa_halvesThen kv_Sa_halvesThen ml_Sa_88 (C_Sa_halvesThen h6 hM' (fun j hj => YM_h hj h6)) rfl rfl rfl rfl rfl (Nat.le_of_ble_eq_true rfl) (Nat.le_of_ble_eq_true rfl) (Nat.le_of_ble_eq_true rfl) d_Sa_answer_88 ?_
        refine v_goto (pc := 91) (tgt := 103) hX d_Sa_answer_91 rfl ?_
        exact f_iret (pc := 103) hX hR (by subst q28; unfold yaN; rw [if_neg h2, if_neg hw, if_neg e28_0, if_neg e28_2, if_neg e28_3]; first | (rw [if_pos (Int32.not_le.mp h79)]) | (rw [if_neg (Int32.not_lt.mpr h79)])) (rfl) d_Sa_answer_103
    · have hw : s.2.2 ≠ 0 := fun q => h16 (by rw [YM_2, if_pos q])
      refine v_bipush (pc := 19) (v := (-100)) hX (by decide) d_Sa_answer_19 ?_
      refine v_aload_n (pc := 21) hX rfl d_Sa_answer_21 ?_
      refine g_getI (pc := 22) hX fl_Sa_50 rfl rfl d_Sa_answer_22 ?_
      refine v_isub (pc := 25) hX d_Sa_answer_25 ?_
      exact f_iret (pc := 26) hX hR (by unfold yaN; rw [if_neg h2, if_pos hw, YM_2, if_neg hw]) (rfl) d_Sa_answer_26
  · refine v_aload_n (pc := 5) hX rfl d_Sa_answer_5 ?_
    refine g_getI (pc := 6) hX fl_Sa_50 rfl rfl d_Sa_answer_6 ?_
    exact f_iret (pc := 9) hX hR (by unfold yaN; rw [if_pos (by simpa using h2), YM_2]) (rfl) d_Sa_answer_9
