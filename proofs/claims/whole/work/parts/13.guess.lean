/-! Guesses, readings. -/
theorem d_Gu_hasMarks_0 : decode c_Gu_hasMarks 0 = .ok (.iconst 0, 1) := by decide +kernel
theorem d_Gu_hasMarks_1 : decode c_Gu_hasMarks 1 = .ok (.istore 5, 2) := by decide +kernel
theorem d_Gu_hasMarks_3 : decode c_Gu_hasMarks 3 = .ok (.iload 5, 2) := by decide +kernel
theorem d_Gu_hasMarks_5 : decode c_Gu_hasMarks 5 = .ok (.iload 4, 2) := by decide +kernel
theorem d_Gu_hasMarks_7 : decode c_Gu_hasMarks 7 = .ok (.if_icmp .ge 29, 3) := by decide +kernel
theorem d_Gu_hasMarks_10 : decode c_Gu_hasMarks 10 = .ok (.aload_n 0, 1) := by decide +kernel
theorem d_Gu_hasMarks_11 : decode c_Gu_hasMarks 11 = .ok (.iload_n 1, 1) := by decide +kernel
theorem d_Gu_hasMarks_12 : decode c_Gu_hasMarks 12 = .ok (.iload 5, 2) := by decide +kernel
theorem d_Gu_hasMarks_14 : decode c_Gu_hasMarks 14 = .ok (.invokevirtual 31, 3) := by decide +kernel
theorem d_Gu_hasMarks_17 : decode c_Gu_hasMarks 17 = .ok (.aload_n 2, 1) := by decide +kernel
theorem d_Gu_hasMarks_18 : decode c_Gu_hasMarks 18 = .ok (.iload_n 3, 1) := by decide +kernel
theorem d_Gu_hasMarks_19 : decode c_Gu_hasMarks 19 = .ok (.iload 5, 2) := by decide +kernel
theorem d_Gu_hasMarks_21 : decode c_Gu_hasMarks 21 = .ok (.iadd, 1) := by decide +kernel
theorem d_Gu_hasMarks_22 : decode c_Gu_hasMarks 22 = .ok (.invokevirtual 35, 3) := by decide +kernel
theorem d_Gu_hasMarks_25 : decode c_Gu_hasMarks 25 = .ok (.if_icmp .eq 5, 3) := by decide +kernel
theorem d_Gu_hasMarks_28 : decode c_Gu_hasMarks 28 = .ok (.iconst 0, 1) := by decide +kernel
theorem d_Gu_hasMarks_29 : decode c_Gu_hasMarks 29 = .ok (.ireturn, 1) := by decide +kernel
theorem d_Gu_hasMarks_30 : decode c_Gu_hasMarks 30 = .ok (.iinc 5 1, 3) := by decide +kernel
theorem d_Gu_hasMarks_33 : decode c_Gu_hasMarks 33 = .ok (.goto (-30), 3) := by decide +kernel
theorem d_Gu_hasMarks_36 : decode c_Gu_hasMarks 36 = .ok (.iconst 1, 1) := by decide +kernel
theorem d_Gu_hasMarks_37 : decode c_Gu_hasMarks 37 = .ok (.ireturn, 1) := by decide +kernel
theorem C_Gu_hasMarks {M : MM} {n r c a m s : Nat} {J : JT} {q : Nat → Int32} (hJ : CJ M n J) (hr : SH[r]? = some (0, 5)) (hn : NF r 0 = c) (hc : SH[c]? = some (1, 60)) (ha : a + m ≤ 60) (hq : ∀ t, t < m → M c (a + t) = q t) (hs : s < 64) : AF y_Gu_hasMarks c_Gu_hasMarks 6 (some .boolean) 3 [vR 3, vI (i3 s), vR r, vI (i3 a), vI (i3 m)] (M) (some (vI (bI (hmB J n s q m)))) (M) := by
  refine AF.of k_Gu_hasMarks (lo := [some (vR 3), some (vI (i3 s)), some (vR r), some (vI (i3 a)), some (vI (i3 m)), none]) rfl (Nat.le_of_ble_eq_true rfl) (fun X hX hR => ?_)
  refine v_iconst (pc := 0) (v := 0) hX (by decide) d_Gu_hasMarks_0 ?_
  refine v_istore (pc := 1) (lo' := [some (vR _), some (vI _), some (vR _), some (vI _), some (vI _), some (vI _)]) hX (Nat.le_of_ble_eq_true rfl) rfl d_Gu_hasMarks_1 ?_
  refine VW.cast (lo' := [some (vR 3), some (vI (i3 s)), some (vR r), some (vI (i3 a)), some (vI (i3 m)), some (vI (i3 0))]) (st' := []) (G' := gM (M)) rfl rfl rfl ?_
  refine v_forI (X := X) (head := 3) (m) (fun kk => [some (vR 3), some (vI (i3 s)), some (vR r), some (vI (i3 a)), some (vI (i3 m)), some (vI (i3 kk))]) (fun kk => M) (fun kk => allB (fun t => decide (blN J n s (i3 t) = q t)) kk = true) (rfl) (fun k hk hIk ih3 => ?_) (fun hIk => ?_)
  · show VW X 3 [some (vR 3), some (vI (i3 s)), some (vR r), some (vI (i3 a)), some (vI (i3 m)), some (vI (i3 k))] [] (gM (M))
    have hIk : allB (fun t => decide (blN J n s (i3 t) = q t)) k = true := hIk
    refine v_iload (pc := 3) hX rfl d_Gu_hasMarks_3 ?_
    refine v_iload (pc := 5) hX rfl d_Gu_hasMarks_5 ?_
    refine v_icmp_ge (pc := 7) (tgt := 36) hX d_Gu_hasMarks_7 rfl (fun h7 => False.elim (i3_ge_abs hk (by omega) h7)) (fun h7 => ?_)
    refine v_aload_n (pc := 10) hX rfl d_Gu_hasMarks_10 ?_
    refine v_iload_n (pc := 11) hX rfl d_Gu_hasMarks_11 ?_
    refine v_iload (pc := 12) hX rfl d_Gu_hasMarks_12 ?_
    refine f_callV (pc := 14) hX k_Sp_markOf ki_Sp_markOf kv_Sp_markOf ml_Gu_31 (C_Sp_markOf hJ (by assumption)) rfl rfl rfl rfl rfl (Nat.le_of_ble_eq_true rfl) (Nat.le_of_ble_eq_true rfl) (Nat.le_of_ble_eq_true rfl) d_Gu_hasMarks_14 ?_
    refine v_aload_n (pc := 17) hX rfl d_Gu_hasMarks_17 ?_
    refine v_iload_n (pc := 18) hX rfl d_Gu_hasMarks_18 ?_
    refine v_iload (pc := 19) hX rfl d_Gu_hasMarks_19 ?_
    refine v_iadd (pc := 21) hX d_Gu_hasMarks_21 ?_
    rw [← i3_add]
    refine f_callV (pc := 22) hX k_Sh_at ki_Sh_at kv_Sh_at ml_Gu_35 (C_Sh_at (j := a + k) hr hn hc (by omega)) (by assumption) rfl rfl rfl rfl (Nat.le_of_ble_eq_true rfl) (Nat.le_of_ble_eq_true rfl) (Nat.le_of_ble_eq_true rfl) d_Gu_hasMarks_22 ?_
    refine v_icmp_eq (pc := 25) (tgt := 30) hX d_Gu_hasMarks_25 rfl (fun h25 => ?_) (fun h25 => ?_)
    · refine v_iinc (pc := 30) (lo' := [some (vR _), some (vI _), some (vR _), some (vI _), some (vI _), some (vI _)]) hX rfl rfl d_Gu_hasMarks_30 ?_
      refine v_goto (pc := 33) (tgt := 3) hX d_Gu_hasMarks_33 rfl ?_
      exact VW.cast (by rw [i3_succ]; rfl) rfl rfl (ih3 (allB_s hIk (decide_eq_true (h25.trans (hq k hk)))))
    · refine v_iconst (pc := 28) (v := 0) hX (by decide) d_Gu_hasMarks_28 ?_
      exact f_zret (pc := 29) hX hR (bF (allB_no hk (decide_eq_false (fun e => h25 (e.trans (hq k hk).symm))))) (rfl) d_Gu_hasMarks_29
  · show VW X 3 [some (vR 3), some (vI (i3 s)), some (vR r), some (vI (i3 a)), some (vI (i3 m)), some (vI (i3 (m)))] [] (gM (M))
    have hIk : allB (fun t => decide (blN J n s (i3 t) = q t)) (m) = true := hIk
    refine v_iload (pc := 3) hX rfl d_Gu_hasMarks_3 ?_
    refine v_iload (pc := 5) hX rfl d_Gu_hasMarks_5 ?_
    refine v_icmp_ge (pc := 7) (tgt := 36) hX d_Gu_hasMarks_7 rfl (fun h7 => ?_) (fun h7 => False.elim (absurd (Int32.le_refl _) h7))
    refine v_iconst (pc := 36) (v := 1) hX (by decide) d_Gu_hasMarks_36 ?_
    exact f_zret (pc := 37) hX hR (bT hIk) (rfl) d_Gu_hasMarks_37
theorem d_Gu_jars_0 : decode c_Gu_jars 0 = .ok (.iconst 0, 1) := by decide +kernel
theorem d_Gu_jars_1 : decode c_Gu_jars 1 = .ok (.istore 4, 2) := by decide +kernel
theorem d_Gu_jars_3 : decode c_Gu_jars 3 = .ok (.iconst 0, 1) := by decide +kernel
theorem d_Gu_jars_4 : decode c_Gu_jars 4 = .ok (.istore 5, 2) := by decide +kernel
theorem d_Gu_jars_6 : decode c_Gu_jars 6 = .ok (.iload 5, 2) := by decide +kernel
theorem d_Gu_jars_8 : decode c_Gu_jars 8 = .ok (.aload_n 0, 1) := by decide +kernel
theorem d_Gu_jars_9 : decode c_Gu_jars 9 = .ok (.getfield 9, 3) := by decide +kernel
theorem d_Gu_jars_12 : decode c_Gu_jars 12 = .ok (.if_icmp .ge 36, 3) := by decide +kernel
theorem d_Gu_jars_15 : decode c_Gu_jars 15 = .ok (.iload 4, 2) := by decide +kernel
theorem d_Gu_jars_17 : decode c_Gu_jars 17 = .ok (.aload_n 0, 1) := by decide +kernel
theorem d_Gu_jars_18 : decode c_Gu_jars 18 = .ok (.iconst 1, 1) := by decide +kernel
theorem d_Gu_jars_19 : decode c_Gu_jars 19 = .ok (.iload 5, 2) := by decide +kernel
theorem d_Gu_jars_21 : decode c_Gu_jars 21 = .ok (.ishl, 1) := by decide +kernel
theorem d_Gu_jars_22 : decode c_Gu_jars 22 = .ok (.aload_n 1, 1) := by decide +kernel
theorem d_Gu_jars_23 : decode c_Gu_jars 23 = .ok (.iload_n 2, 1) := by decide +kernel
theorem d_Gu_jars_24 : decode c_Gu_jars 24 = .ok (.iload_n 3, 1) := by decide +kernel
theorem d_Gu_jars_25 : decode c_Gu_jars 25 = .ok (.invokestatic 15, 3) := by decide +kernel
theorem d_Gu_jars_28 : decode c_Gu_jars 28 = .ok (.ifCond .eq 10, 3) := by decide +kernel
theorem d_Gu_jars_31 : decode c_Gu_jars 31 = .ok (.iconst 1, 1) := by decide +kernel
theorem d_Gu_jars_32 : decode c_Gu_jars 32 = .ok (.iload 5, 2) := by decide +kernel
theorem d_Gu_jars_34 : decode c_Gu_jars 34 = .ok (.ishl, 1) := by decide +kernel
theorem d_Gu_jars_35 : decode c_Gu_jars 35 = .ok (.goto 4, 3) := by decide +kernel
theorem d_Gu_jars_38 : decode c_Gu_jars 38 = .ok (.iconst 0, 1) := by decide +kernel
theorem d_Gu_jars_39 : decode c_Gu_jars 39 = .ok (.ior, 1) := by decide +kernel
theorem d_Gu_jars_40 : decode c_Gu_jars 40 = .ok (.istore 4, 2) := by decide +kernel
theorem d_Gu_jars_42 : decode c_Gu_jars 42 = .ok (.iinc 5 1, 3) := by decide +kernel
theorem d_Gu_jars_45 : decode c_Gu_jars 45 = .ok (.goto (-39), 3) := by decide +kernel
theorem d_Gu_jars_48 : decode c_Gu_jars 48 = .ok (.iload 4, 2) := by decide +kernel
theorem d_Gu_jars_50 : decode c_Gu_jars 50 = .ok (.ireturn, 1) := by decide +kernel
theorem C_Gu_jars {M : MM} {n r c a m : Nat} {J : JT} {q : Nat → Int32} (hJ : CJ M n J) (hr : SH[r]? = some (0, 5)) (hn : NF r 0 = c) (hc : SH[c]? = some (1, 60)) (ha : a + m ≤ 60) (hq : ∀ t, t < m → M c (a + t) = q t) : AF y_Gu_jars c_Gu_jars 6 (some .int) 4 [vR 3, vR r, vI (i3 a), vI (i3 m)] (M) (some (vI (i3 (gjN (fun j => hmB J n (2 ^ j) q m) n)))) (M) := by
  have h6 := hJ.1
  have hM := hJ.2.1
  refine AF.of k_Gu_jars (lo := [some (vR 3), some (vR r), some (vI (i3 a)), some (vI (i3 m)), none, none]) rfl (Nat.le_of_ble_eq_true rfl) (fun X hX hR => ?_)
  refine v_iconst (pc := 0) (v := 0) hX (by decide) d_Gu_jars_0 ?_
  refine v_istore (pc := 1) (lo' := [some (vR _), some (vR _), some (vI _), some (vI _), some (vI _), none]) hX (Nat.le_of_ble_eq_true rfl) rfl d_Gu_jars_1 ?_
  refine v_iconst (pc := 3) (v := 0) hX (by decide) d_Gu_jars_3 ?_
  refine v_istore (pc := 4) (lo' := [some (vR _), some (vR _), some (vI _), some (vI _), some (vI _), some (vI _)]) hX (Nat.le_of_ble_eq_true rfl) rfl d_Gu_jars_4 ?_
  refine VW.cast (lo' := [some (vR 3), some (vR r), some (vI (i3 a)), some (vI (i3 m)), some (vI (i3 (gjN (fun j => hmB J n (2 ^ j) q m) 0))), some (vI (i3 0))]) (st' := []) (G' := gM (M)) rfl rfl rfl ?_
  refine v_for (X := X) (head := 6) (n) (fun kk => [some (vR 3), some (vR r), some (vI (i3 a)), some (vI (i3 m)), some (vI (i3 (gjN (fun j => hmB J n (2 ^ j) q m) kk))), some (vI (i3 kk))]) (fun kk => M) (fun k hk ih6 => ?_) ?_
  · show VW X 6 [some (vR 3), some (vR r), some (vI (i3 a)), some (vI (i3 m)), some (vI (i3 (gjN (fun j => hmB J n (2 ^ j) q m) k))), some (vI (i3 k))] [] (gM (M))
    have hb := shl_i3 k (by omega)
    have h2k : 2 ^ k < 64 := Nat.lt_of_lt_of_le (Nat.pow_lt_pow_right (by decide) hk) (pow6 h6)
    have hl := gjN_lt (fun j => hmB J n (2 ^ j) q m) k
    refine v_iload (pc := 6) hX rfl d_Gu_jars_6 ?_
    refine v_aload_n (pc := 8) hX rfl d_Gu_jars_8 ?_
    refine g_getI (pc := 9) hX fl_Gu_9 rfl rfl d_Gu_jars_9 ?_
    refine v_icmp_ge (pc := 12) (tgt := 48) hX d_Gu_jars_12 rfl (fun h12 => False.elim (i3_ge_abs hk (by omega) (by rw [← hM]; exact h12))) (fun h12 => ?_)
    refine v_iload (pc := 15) hX rfl d_Gu_jars_15 ?_
    refine v_aload_n (pc := 17) hX rfl d_Gu_jars_17 ?_
    refine v_iconst (pc := 18) (v := 1) hX (by decide) d_Gu_jars_18 ?_
    refine v_iload (pc := 19) hX rfl d_Gu_jars_19 ?_
    refine v_ishl (pc := 21) hX d_Gu_jars_21 ?_
    refine v_aload_n (pc := 22) hX rfl d_Gu_jars_22 ?_
    refine v_iload_n (pc := 23) hX rfl d_Gu_jars_23 ?_
    refine v_iload_n (pc := 24) hX rfl d_Gu_jars_24 ?_
    rw [hb]
    refine f_callS (pc := 25) hX k_Gu_hasMarks ks_Gu_hasMarks ml_Gu_15 (C_Gu_hasMarks (s := 2 ^ k) hJ hr hn hc ha hq h2k) rfl rfl rfl (Nat.le_of_ble_eq_true rfl) (Nat.le_of_ble_eq_true rfl) (Nat.le_of_ble_eq_true rfl) d_Gu_jars_25 ?_
    refine f_ifeqB (pc := 28) (tgt := 38) hX d_Gu_jars_28 rfl (fun h28 => ?_) (fun h28 => ?_)
    · have e : gjN (fun j => hmB J n (2 ^ j) q m) (k + 1) = gjN (fun j => hmB J n (2 ^ j) q m) k := by simp [gjN, h28]
      refine v_iconst (pc := 38) (v := 0) hX (by decide) d_Gu_jars_38 ?_
      refine v_ior (pc := 39) hX d_Gu_jars_39 ?_
      refine v_istore (pc := 40) (lo' := [some (vR _), some (vR _), some (vI _), some (vI _), some (vI _), some (vI _)]) hX (Nat.le_of_ble_eq_true rfl) rfl d_Gu_jars_40 ?_
      refine v_iinc (pc := 42) (lo' := [some (vR _), some (vR _), some (vI _), some (vI _), some (vI _), some (vI _)]) hX rfl rfl d_Gu_jars_42 ?_
      refine v_goto (pc := 45) (tgt := 6) hX d_Gu_jars_45 rfl ?_
      exact VW.cast (by first | (rw [e, i3_succ, hb, or_i3 k (by omega) _ hl]; rfl) | (rw [e, i3_succ, or_0]; rfl)) rfl rfl ih6
    · have e : gjN (fun j => hmB J n (2 ^ j) q m) (k + 1) = gjN (fun j => hmB J n (2 ^ j) q m) k + 2 ^ k := by simp [gjN, h28]
      refine v_iconst (pc := 31) (v := 1) hX (by decide) d_Gu_jars_31 ?_
      refine v_iload (pc := 32) hX rfl d_Gu_jars_32 ?_
      refine v_ishl (pc := 34) hX d_Gu_jars_34 ?_
      refine v_goto (pc := 35) (tgt := 39) hX d_Gu_jars_35 rfl ?_
      refine v_ior (pc := 39) hX d_Gu_jars_39 ?_
      refine v_istore (pc := 40) (lo' := [some (vR _), some (vR _), some (vI _), some (vI _), some (vI _), some (vI _)]) hX (Nat.le_of_ble_eq_true rfl) rfl d_Gu_jars_40 ?_
      refine v_iinc (pc := 42) (lo' := [some (vR _), some (vR _), some (vI _), some (vI _), some (vI _), some (vI _)]) hX rfl rfl d_Gu_jars_42 ?_
      refine v_goto (pc := 45) (tgt := 6) hX d_Gu_jars_45 rfl ?_
      exact VW.cast (by first | (rw [e, i3_succ, hb, or_i3 k (by omega) _ hl]; rfl) | (rw [e, i3_succ, or_0]; rfl)) rfl rfl ih6
  · show VW X 6 [some (vR 3), some (vR r), some (vI (i3 a)), some (vI (i3 m)), some (vI (i3 (gjN (fun j => hmB J n (2 ^ j) q m) (n)))), some (vI (i3 (n)))] [] (gM (M))
    refine v_iload (pc := 6) hX rfl d_Gu_jars_6 ?_
    refine v_aload_n (pc := 8) hX rfl d_Gu_jars_8 ?_
    refine g_getI (pc := 9) hX fl_Gu_9 rfl rfl d_Gu_jars_9 ?_
    refine v_icmp_ge (pc := 12) (tgt := 48) hX d_Gu_jars_12 rfl (fun h12 => ?_) (fun h12 => False.elim (absurd (by rw [hM]; exact Int32.le_refl _) h12))
    refine v_iload (pc := 48) hX rfl d_Gu_jars_48 ?_
    exact f_iret (pc := 50) hX hR (rfl) (rfl) d_Gu_jars_50
theorem d_Gu_howManyPairs_0 : decode c_Gu_howManyPairs 0 = .ok (.iconst 0, 1) := by decide +kernel
theorem d_Gu_howManyPairs_1 : decode c_Gu_howManyPairs 1 = .ok (.istore 4, 2) := by decide +kernel
theorem d_Gu_howManyPairs_3 : decode c_Gu_howManyPairs 3 = .ok (.iconst 1, 1) := by decide +kernel
theorem d_Gu_howManyPairs_4 : decode c_Gu_howManyPairs 4 = .ok (.istore 5, 2) := by decide +kernel
theorem d_Gu_howManyPairs_6 : decode c_Gu_howManyPairs 6 = .ok (.iload 5, 2) := by decide +kernel
theorem d_Gu_howManyPairs_8 : decode c_Gu_howManyPairs 8 = .ok (.aload_n 0, 1) := by decide +kernel
theorem d_Gu_howManyPairs_9 : decode c_Gu_howManyPairs 9 = .ok (.invokevirtual 21, 3) := by decide +kernel
theorem d_Gu_howManyPairs_12 : decode c_Gu_howManyPairs 12 = .ok (.if_icmp .ge 40, 3) := by decide +kernel
theorem d_Gu_howManyPairs_15 : decode c_Gu_howManyPairs 15 = .ok (.iload 4, 2) := by decide +kernel
theorem d_Gu_howManyPairs_17 : decode c_Gu_howManyPairs 17 = .ok (.iload 5, 2) := by decide +kernel
theorem d_Gu_howManyPairs_19 : decode c_Gu_howManyPairs 19 = .ok (.invokestatic 25, 3) := by decide +kernel
theorem d_Gu_howManyPairs_22 : decode c_Gu_howManyPairs 22 = .ok (.iconst 2, 1) := by decide +kernel
theorem d_Gu_howManyPairs_23 : decode c_Gu_howManyPairs 23 = .ok (.if_icmp .ne 19, 3) := by decide +kernel
theorem d_Gu_howManyPairs_26 : decode c_Gu_howManyPairs 26 = .ok (.aload_n 0, 1) := by decide +kernel
theorem d_Gu_howManyPairs_27 : decode c_Gu_howManyPairs 27 = .ok (.iload 5, 2) := by decide +kernel
theorem d_Gu_howManyPairs_29 : decode c_Gu_howManyPairs 29 = .ok (.aload_n 1, 1) := by decide +kernel
theorem d_Gu_howManyPairs_30 : decode c_Gu_howManyPairs 30 = .ok (.iload_n 2, 1) := by decide +kernel
theorem d_Gu_howManyPairs_31 : decode c_Gu_howManyPairs 31 = .ok (.iload_n 3, 1) := by decide +kernel
theorem d_Gu_howManyPairs_32 : decode c_Gu_howManyPairs 32 = .ok (.invokestatic 15, 3) := by decide +kernel
theorem d_Gu_howManyPairs_35 : decode c_Gu_howManyPairs 35 = .ok (.ifCond .eq 7, 3) := by decide +kernel
theorem d_Gu_howManyPairs_38 : decode c_Gu_howManyPairs 38 = .ok (.iconst 1, 1) := by decide +kernel
theorem d_Gu_howManyPairs_39 : decode c_Gu_howManyPairs 39 = .ok (.goto 4, 3) := by decide +kernel
theorem d_Gu_howManyPairs_42 : decode c_Gu_howManyPairs 42 = .ok (.iconst 0, 1) := by decide +kernel
theorem d_Gu_howManyPairs_43 : decode c_Gu_howManyPairs 43 = .ok (.iadd, 1) := by decide +kernel
theorem d_Gu_howManyPairs_44 : decode c_Gu_howManyPairs 44 = .ok (.istore 4, 2) := by decide +kernel
theorem d_Gu_howManyPairs_46 : decode c_Gu_howManyPairs 46 = .ok (.iinc 5 1, 3) := by decide +kernel
theorem d_Gu_howManyPairs_49 : decode c_Gu_howManyPairs 49 = .ok (.goto (-43), 3) := by decide +kernel
theorem d_Gu_howManyPairs_52 : decode c_Gu_howManyPairs 52 = .ok (.iload 4, 2) := by decide +kernel
theorem d_Gu_howManyPairs_54 : decode c_Gu_howManyPairs 54 = .ok (.ireturn, 1) := by decide +kernel
theorem C_Gu_howManyPairs {M : MM} {n r c a m : Nat} {J : JT} {q : Nat → Int32} (hJ : CJ M n J) (hr : SH[r]? = some (0, 5)) (hn : NF r 0 = c) (hc : SH[c]? = some (1, 60)) (ha : a + m ≤ 60) (hq : ∀ t, t < m → M c (a + t) = q t) : AF y_Gu_howManyPairs c_Gu_howManyPairs 6 (some .int) 4 [vR 3, vR r, vI (i3 a), vI (i3 m)] (M) (some (vI (i3 (cntB (fun s => decide (pop 6 s = 2) && hmB J n s q m) (2 ^ n - 1))))) (M) := by
  have h6 := hJ.1
  have hM := hJ.2.1
  have hp := pow6 h6
  refine AF.of k_Gu_howManyPairs (lo := [some (vR 3), some (vR r), some (vI (i3 a)), some (vI (i3 m)), none, none]) rfl (Nat.le_of_ble_eq_true rfl) (fun X hX hR => ?_)
  refine v_iconst (pc := 0) (v := 0) hX (by decide) d_Gu_howManyPairs_0 ?_
  refine v_istore (pc := 1) (lo' := [some (vR _), some (vR _), some (vI _), some (vI _), some (vI _), none]) hX (Nat.le_of_ble_eq_true rfl) rfl d_Gu_howManyPairs_1 ?_
  refine v_iconst (pc := 3) (v := 1) hX (by decide) d_Gu_howManyPairs_3 ?_
  refine v_istore (pc := 4) (lo' := [some (vR _), some (vR _), some (vI _), some (vI _), some (vI _), some (vI _)]) hX (Nat.le_of_ble_eq_true rfl) rfl d_Gu_howManyPairs_4 ?_
  refine VW.cast (lo' := [some (vR 3), some (vR r), some (vI (i3 a)), some (vI (i3 m)), some (vI (i3 (cntB (fun s => decide (pop 6 s = 2) && hmB J n s q m) 0))), some (vI (i3 (0 + 1)))]) (st' := []) (G' := gM (M)) rfl rfl rfl ?_
  refine v_for (X := X) (head := 6) (2 ^ n - 1) (fun kk => [some (vR 3), some (vR r), some (vI (i3 a)), some (vI (i3 m)), some (vI (i3 (cntB (fun s => decide (pop 6 s = 2) && hmB J n s q m) kk))), some (vI (i3 (kk + 1)))]) (fun kk => M) (fun k hk ih6 => ?_) ?_
  · show VW X 6 [some (vR 3), some (vR r), some (vI (i3 a)), some (vI (i3 m)), some (vI (i3 (cntB (fun s => decide (pop 6 s = 2) && hmB J n s q m) k))), some (vI (i3 (k + 1)))] [] (gM (M))
    have hs : k + 1 < 64 := by omega
    refine v_iload (pc := 6) hX rfl d_Gu_howManyPairs_6 ?_
    refine v_aload_n (pc := 8) hX rfl d_Gu_howManyPairs_8 ?_
    refine f_callV (pc := 9) hX k_Sp_setsEnd ki_Sp_setsEnd kv_Sp_setsEnd ml_Gu_21 (C_Sp_setsEnd hJ) rfl rfl rfl rfl rfl (Nat.le_of_ble_eq_true rfl) (Nat.le_of_ble_eq_true rfl) (Nat.le_of_ble_eq_true rfl) d_Gu_howManyPairs_9 ?_
    refine v_icmp_ge (pc := 12) (tgt := 52) hX d_Gu_howManyPairs_12 rfl (fun h12 => False.elim (i3_ge_abs (k := k + 1) (n := 2 ^ n) (by omega) (by omega) h12)) (fun h12 => ?_)
    refine v_iload (pc := 15) hX rfl d_Gu_howManyPairs_15 ?_
    refine v_iload (pc := 17) hX rfl d_Gu_howManyPairs_17 ?_
    refine f_callS (pc := 19) hX k_jI_bitCount ks_jI_bitCount ml_Gu_25 (C_jI_bitCount) rfl rfl rfl (Nat.le_of_ble_eq_true rfl) (Nat.le_of_ble_eq_true rfl) (Nat.le_of_ble_eq_true rfl) d_Gu_howManyPairs_19 ?_
    refine v_iconst (pc := 22) (v := 2) hX (by decide) d_Gu_howManyPairs_22 ?_
    refine v_icmp_ne (pc := 23) (tgt := 42) hX d_Gu_howManyPairs_23 rfl (fun h23 => ?_) (fun h23 => ?_)
    · rw [jbc_pop _ hs] at h23
      have a1 : ¬ pop 6 (k + 1) = 2 := fun x => h23 (by rw [x]; rfl)
      have e : cntB (fun s => decide (pop 6 s = 2) && hmB J n s q m) (k + 1) = cntB (fun s => decide (pop 6 s = 2) && hmB J n s q m) k := by simp [cntB, a1]
      refine v_iconst (pc := 42) (v := 0) hX (by decide) d_Gu_howManyPairs_42 ?_
      refine v_iadd (pc := 43) hX d_Gu_howManyPairs_43 ?_
      refine v_istore (pc := 44) (lo' := [some (vR _), some (vR _), some (vI _), some (vI _), some (vI _), some (vI _)]) hX (Nat.le_of_ble_eq_true rfl) rfl d_Gu_howManyPairs_44 ?_
      refine v_iinc (pc := 46) (lo' := [some (vR _), some (vR _), some (vI _), some (vI _), some (vI _), some (vI _)]) hX rfl rfl d_Gu_howManyPairs_46 ?_
      refine v_goto (pc := 49) (tgt := 6) hX d_Gu_howManyPairs_49 rfl ?_
      exact VW.cast (by first | (rw [e, i3_succ (k + 1), i3_succ]; rfl) | (rw [e, i3_succ (k + 1), Int32.add_zero]; rfl)) rfl rfl ih6
    · rw [jbc_pop _ hs] at h23
      have a1 : pop 6 (k + 1) = 2 := (i3_inj (by have := pop_lt hs; omega) (by decide)).mp (show i3 (pop 6 (k + 1)) = i3 2 from h23)
      refine v_aload_n (pc := 26) hX rfl d_Gu_howManyPairs_26 ?_
      refine v_iload (pc := 27) hX rfl d_Gu_howManyPairs_27 ?_
      refine v_aload_n (pc := 29) hX rfl d_Gu_howManyPairs_29 ?_
      refine v_iload_n (pc := 30) hX rfl d_Gu_howManyPairs_30 ?_
      refine v_iload_n (pc := 31) hX rfl d_Gu_howManyPairs_31 ?_
      refine f_callS (pc := 32) hX k_Gu_hasMarks ks_Gu_hasMarks ml_Gu_15 (C_Gu_hasMarks hJ hr hn hc ha hq (by assumption)) rfl rfl rfl (Nat.le_of_ble_eq_true rfl) (Nat.le_of_ble_eq_true rfl) (Nat.le_of_ble_eq_true rfl) d_Gu_howManyPairs_32 ?_
      refine f_ifeqB (pc := 35) (tgt := 42) hX d_Gu_howManyPairs_35 rfl (fun h35 => ?_) (fun h35 => ?_)
      · have e : cntB (fun s => decide (pop 6 s = 2) && hmB J n s q m) (k + 1) = cntB (fun s => decide (pop 6 s = 2) && hmB J n s q m) k := by simp [cntB, h35]
        refine v_iconst (pc := 42) (v := 0) hX (by decide) d_Gu_howManyPairs_42 ?_
        refine v_iadd (pc := 43) hX d_Gu_howManyPairs_43 ?_
        refine v_istore (pc := 44) (lo' := [some (vR _), some (vR _), some (vI _), some (vI _), some (vI _), some (vI _)]) hX (Nat.le_of_ble_eq_true rfl) rfl d_Gu_howManyPairs_44 ?_
        refine v_iinc (pc := 46) (lo' := [some (vR _), some (vR _), some (vI _), some (vI _), some (vI _), some (vI _)]) hX rfl rfl d_Gu_howManyPairs_46 ?_
        refine v_goto (pc := 49) (tgt := 6) hX d_Gu_howManyPairs_49 rfl ?_
        exact VW.cast (by first | (rw [e, i3_succ (k + 1), i3_succ]; rfl) | (rw [e, i3_succ (k + 1), Int32.add_zero]; rfl)) rfl rfl ih6
      · have e : cntB (fun s => decide (pop 6 s = 2) && hmB J n s q m) (k + 1) = cntB (fun s => decide (pop 6 s = 2) && hmB J n s q m) k + 1 := by simp [cntB, a1, h35]
        refine v_iconst (pc := 38) (v := 1) hX (by decide) d_Gu_howManyPairs_38 ?_
        refine v_goto (pc := 39) (tgt := 43) hX d_Gu_howManyPairs_39 rfl ?_
        refine v_iadd (pc := 43) hX d_Gu_howManyPairs_43 ?_
        refine v_istore (pc := 44) (lo' := [some (vR _), some (vR _), some (vI _), some (vI _), some (vI _), some (vI _)]) hX (Nat.le_of_ble_eq_true rfl) rfl d_Gu_howManyPairs_44 ?_
        refine v_iinc (pc := 46) (lo' := [some (vR _), some (vR _), some (vI _), some (vI _), some (vI _), some (vI _)]) hX rfl rfl d_Gu_howManyPairs_46 ?_
        refine v_goto (pc := 49) (tgt := 6) hX d_Gu_howManyPairs_49 rfl ?_
        exact VW.cast (by first | (rw [e, i3_succ (k + 1), i3_succ]; rfl) | (rw [e, i3_succ (k + 1), Int32.add_zero]; rfl)) rfl rfl ih6
  · show VW X 6 [some (vR 3), some (vR r), some (vI (i3 a)), some (vI (i3 m)), some (vI (i3 (cntB (fun s => decide (pop 6 s = 2) && hmB J n s q m) (2 ^ n - 1)))), some (vI (i3 ((2 ^ n - 1) + 1)))] [] (gM (M))
    refine v_iload (pc := 6) hX rfl d_Gu_howManyPairs_6 ?_
    refine v_aload_n (pc := 8) hX rfl d_Gu_howManyPairs_8 ?_
    refine f_callV (pc := 9) hX k_Sp_setsEnd ki_Sp_setsEnd kv_Sp_setsEnd ml_Gu_21 (C_Sp_setsEnd hJ) rfl rfl rfl rfl rfl (Nat.le_of_ble_eq_true rfl) (Nat.le_of_ble_eq_true rfl) (Nat.le_of_ble_eq_true rfl) d_Gu_howManyPairs_9 ?_
    refine v_icmp_ge (pc := 12) (tgt := 52) hX d_Gu_howManyPairs_12 rfl (fun h12 => ?_) (fun h12 => False.elim (absurd set_end h12))
    refine v_iload (pc := 52) hX rfl d_Gu_howManyPairs_52 ?_
    exact f_iret (pc := 54) hX hR (rfl) (rfl) d_Gu_howManyPairs_54
theorem d_Gu_leastPair_0 : decode c_Gu_leastPair 0 = .ok (.iconst 1, 1) := by decide +kernel
theorem d_Gu_leastPair_1 : decode c_Gu_leastPair 1 = .ok (.istore 4, 2) := by decide +kernel
theorem d_Gu_leastPair_3 : decode c_Gu_leastPair 3 = .ok (.iload 4, 2) := by decide +kernel
theorem d_Gu_leastPair_5 : decode c_Gu_leastPair 5 = .ok (.aload_n 0, 1) := by decide +kernel
theorem d_Gu_leastPair_6 : decode c_Gu_leastPair 6 = .ok (.invokevirtual 21, 3) := by decide +kernel
theorem d_Gu_leastPair_9 : decode c_Gu_leastPair 9 = .ok (.if_icmp .ge 33, 3) := by decide +kernel
theorem d_Gu_leastPair_12 : decode c_Gu_leastPair 12 = .ok (.iload 4, 2) := by decide +kernel
theorem d_Gu_leastPair_14 : decode c_Gu_leastPair 14 = .ok (.invokestatic 25, 3) := by decide +kernel
theorem d_Gu_leastPair_17 : decode c_Gu_leastPair 17 = .ok (.iconst 2, 1) := by decide +kernel
theorem d_Gu_leastPair_18 : decode c_Gu_leastPair 18 = .ok (.if_icmp .ne 18, 3) := by decide +kernel
theorem d_Gu_leastPair_21 : decode c_Gu_leastPair 21 = .ok (.aload_n 0, 1) := by decide +kernel
theorem d_Gu_leastPair_22 : decode c_Gu_leastPair 22 = .ok (.iload 4, 2) := by decide +kernel
theorem d_Gu_leastPair_24 : decode c_Gu_leastPair 24 = .ok (.aload_n 1, 1) := by decide +kernel
theorem d_Gu_leastPair_25 : decode c_Gu_leastPair 25 = .ok (.iload_n 2, 1) := by decide +kernel
theorem d_Gu_leastPair_26 : decode c_Gu_leastPair 26 = .ok (.iload_n 3, 1) := by decide +kernel
theorem d_Gu_leastPair_27 : decode c_Gu_leastPair 27 = .ok (.invokestatic 15, 3) := by decide +kernel
theorem d_Gu_leastPair_30 : decode c_Gu_leastPair 30 = .ok (.ifCond .eq 6, 3) := by decide +kernel
theorem d_Gu_leastPair_33 : decode c_Gu_leastPair 33 = .ok (.iload 4, 2) := by decide +kernel
theorem d_Gu_leastPair_35 : decode c_Gu_leastPair 35 = .ok (.ireturn, 1) := by decide +kernel
theorem d_Gu_leastPair_36 : decode c_Gu_leastPair 36 = .ok (.iinc 4 1, 3) := by decide +kernel
theorem d_Gu_leastPair_39 : decode c_Gu_leastPair 39 = .ok (.goto (-36), 3) := by decide +kernel
theorem d_Gu_leastPair_42 : decode c_Gu_leastPair 42 = .ok (.bipush (-9), 2) := by decide +kernel
theorem d_Gu_leastPair_44 : decode c_Gu_leastPair 44 = .ok (.ireturn, 1) := by decide +kernel
theorem C_Gu_leastPair {M : MM} {n r c a m : Nat} {J : JT} {q : Nat → Int32} (hJ : CJ M n J) (hr : SH[r]? = some (0, 5)) (hn : NF r 0 = c) (hc : SH[c]? = some (1, 60)) (ha : a + m ≤ 60) (hq : ∀ t, t < m → M c (a + t) = q t) : AF y_Gu_leastPair c_Gu_leastPair 5 (some .int) 4 [vR 3, vR r, vI (i3 a), vI (i3 m)] (M) (some (vI (en (fstB (fun s => decide (pop 6 s = 2) && hmB J n s q m) (2 ^ n - 1))))) (M) := by
  have h6 := hJ.1
  have hM := hJ.2.1
  have hp := pow6 h6
  refine AF.of k_Gu_leastPair (lo := [some (vR 3), some (vR r), some (vI (i3 a)), some (vI (i3 m)), none]) rfl (Nat.le_of_ble_eq_true rfl) (fun X hX hR => ?_)
  refine v_iconst (pc := 0) (v := 1) hX (by decide) d_Gu_leastPair_0 ?_
  refine v_istore (pc := 1) (lo' := [some (vR _), some (vR _), some (vI _), some (vI _), some (vI _)]) hX (Nat.le_of_ble_eq_true rfl) rfl d_Gu_leastPair_1 ?_
  refine VW.cast (lo' := [some (vR 3), some (vR r), some (vI (i3 a)), some (vI (i3 m)), some (vI (i3 (0 + 1)))]) (st' := []) (G' := gM (M)) rfl rfl rfl ?_
  refine v_forI (X := X) (head := 3) (2 ^ n - 1) (fun kk => [some (vR 3), some (vR r), some (vI (i3 a)), some (vI (i3 m)), some (vI (i3 (kk + 1)))]) (fun kk => M) (fun kk => fstB (fun s => decide (pop 6 s = 2) && hmB J n s q m) kk = 0) (rfl) (fun k hk hIk ih3 => ?_) (fun hIk => ?_)
  · show VW X 3 [some (vR 3), some (vR r), some (vI (i3 a)), some (vI (i3 m)), some (vI (i3 (k + 1)))] [] (gM (M))
    have hIk : fstB (fun s => decide (pop 6 s = 2) && hmB J n s q m) k = 0 := hIk
    have hs : k + 1 < 64 := by omega
    refine v_iload (pc := 3) hX rfl d_Gu_leastPair_3 ?_
    refine v_aload_n (pc := 5) hX rfl d_Gu_leastPair_5 ?_
    refine f_callV (pc := 6) hX k_Sp_setsEnd ki_Sp_setsEnd kv_Sp_setsEnd ml_Gu_21 (C_Sp_setsEnd hJ) rfl rfl rfl rfl rfl (Nat.le_of_ble_eq_true rfl) (Nat.le_of_ble_eq_true rfl) (Nat.le_of_ble_eq_true rfl) d_Gu_leastPair_6 ?_
    refine v_icmp_ge (pc := 9) (tgt := 42) hX d_Gu_leastPair_9 rfl (fun h9 => False.elim (i3_ge_abs (k := k + 1) (n := 2 ^ n) (by omega) (by omega) h9)) (fun h9 => ?_)
    refine v_iload (pc := 12) hX rfl d_Gu_leastPair_12 ?_
    refine f_callS (pc := 14) hX k_jI_bitCount ks_jI_bitCount ml_Gu_25 (C_jI_bitCount) rfl rfl rfl (Nat.le_of_ble_eq_true rfl) (Nat.le_of_ble_eq_true rfl) (Nat.le_of_ble_eq_true rfl) d_Gu_leastPair_14 ?_
    refine v_iconst (pc := 17) (v := 2) hX (by decide) d_Gu_leastPair_17 ?_
    refine v_icmp_ne (pc := 18) (tgt := 36) hX d_Gu_leastPair_18 rfl (fun h18 => ?_) (fun h18 => ?_)
    · rw [jbc_pop _ hs] at h18
      have a1 : ¬ pop 6 (k + 1) = 2 := fun x => h18 (by rw [x]; rfl)
      have e : fstB (fun s => decide (pop 6 s = 2) && hmB J n s q m) (k + 1) = 0 := fstB_no hIk (by simp [a1])
      refine v_iinc (pc := 36) (lo' := [some (vR _), some (vR _), some (vI _), some (vI _), some (vI _)]) hX rfl rfl d_Gu_leastPair_36 ?_
      refine v_goto (pc := 39) (tgt := 3) hX d_Gu_leastPair_39 rfl ?_
      exact VW.cast (by rw [i3_succ (k + 1)]; rfl) rfl rfl (ih3 (e))
    · rw [jbc_pop _ hs] at h18
      have a1 : pop 6 (k + 1) = 2 := (i3_inj (by have := pop_lt hs; omega) (by decide)).mp (show i3 (pop 6 (k + 1)) = i3 2 from h18)
      refine v_aload_n (pc := 21) hX rfl d_Gu_leastPair_21 ?_
      refine v_iload (pc := 22) hX rfl d_Gu_leastPair_22 ?_
      refine v_aload_n (pc := 24) hX rfl d_Gu_leastPair_24 ?_
      refine v_iload_n (pc := 25) hX rfl d_Gu_leastPair_25 ?_
      refine v_iload_n (pc := 26) hX rfl d_Gu_leastPair_26 ?_
      refine f_callS (pc := 27) hX k_Gu_hasMarks ks_Gu_hasMarks ml_Gu_15 (C_Gu_hasMarks hJ hr hn hc ha hq (by assumption)) rfl rfl rfl (Nat.le_of_ble_eq_true rfl) (Nat.le_of_ble_eq_true rfl) (Nat.le_of_ble_eq_true rfl) d_Gu_leastPair_27 ?_
      refine f_ifeqB (pc := 30) (tgt := 36) hX d_Gu_leastPair_30 rfl (fun h30 => ?_) (fun h30 => ?_)
      · have e : fstB (fun s => decide (pop 6 s = 2) && hmB J n s q m) (k + 1) = 0 := fstB_no hIk (by simp [h30])
        refine v_iinc (pc := 36) (lo' := [some (vR _), some (vR _), some (vI _), some (vI _), some (vI _)]) hX rfl rfl d_Gu_leastPair_36 ?_
        refine v_goto (pc := 39) (tgt := 3) hX d_Gu_leastPair_39 rfl ?_
        exact VW.cast (by rw [i3_succ (k + 1)]; rfl) rfl rfl (ih3 (e))
      · refine v_iload (pc := 33) hX rfl d_Gu_leastPair_33 ?_
        exact f_iret (pc := 35) hX hR (by rw [fstB_hit hIk (by simp [a1, h30]) hk, en_p (Nat.succ_ne_zero k)]) (rfl) d_Gu_leastPair_35
  · show VW X 3 [some (vR 3), some (vR r), some (vI (i3 a)), some (vI (i3 m)), some (vI (i3 ((2 ^ n - 1) + 1)))] [] (gM (M))
    have hIk : fstB (fun s => decide (pop 6 s = 2) && hmB J n s q m) (2 ^ n - 1) = 0 := hIk
    refine v_iload (pc := 3) hX rfl d_Gu_leastPair_3 ?_
    refine v_aload_n (pc := 5) hX rfl d_Gu_leastPair_5 ?_
    refine f_callV (pc := 6) hX k_Sp_setsEnd ki_Sp_setsEnd kv_Sp_setsEnd ml_Gu_21 (C_Sp_setsEnd hJ) rfl rfl rfl rfl rfl (Nat.le_of_ble_eq_true rfl) (Nat.le_of_ble_eq_true rfl) (Nat.le_of_ble_eq_true rfl) d_Gu_leastPair_6 ?_
    refine v_icmp_ge (pc := 9) (tgt := 42) hX d_Gu_leastPair_9 rfl (fun h9 => ?_) (fun h9 => False.elim (absurd set_end h9))
    refine v_bipush (pc := 42) (v := (-9)) hX (by decide) d_Gu_leastPair_42 ?_
    exact f_iret (pc := 44) hX hR (by rw [hIk]; rfl) (rfl) d_Gu_leastPair_44
-- readings: of which jar, in which minute, how sure
def CR (M : MM) (n rc : Nat) (rj : Nat → Nat) (rt : JT) : Prop := rc ≤ 8 ∧ M 22 3 = i3 rc ∧ ∀ x, x < rc → rj x < n ∧ M 23 x = i3 (rj x) ∧ M 24 x = rt x 0 ∧ M 25 x = rt x 1
def soB (J : JT) (rc : Nat) (rj : Nat → Nat) (rt : JT) : Bool := allB (fun x => decide (mk J (rj x) (rt x 0) = rt x 1)) rc
theorem d_Re_take_0 : decode c_Re_take 0 = .ok (.aload_n 0, 1) := by decide +kernel
theorem d_Re_take_1 : decode c_Re_take 1 = .ok (.getfield 21, 3) := by decide +kernel
theorem d_Re_take_4 : decode c_Re_take 4 = .ok (.bipush 8, 2) := by decide +kernel
theorem d_Re_take_6 : decode c_Re_take 6 = .ok (.if_icmp .lt 6, 3) := by decide +kernel
theorem d_Re_take_9 : decode c_Re_take 9 = .ok (.bipush (-4), 2) := by decide +kernel
theorem d_Re_take_11 : decode c_Re_take 11 = .ok (.ireturn, 1) := by decide +kernel
theorem d_Re_take_12 : decode c_Re_take 12 = .ok (.aload_n 0, 1) := by decide +kernel
theorem d_Re_take_13 : decode c_Re_take 13 = .ok (.getfield 9, 3) := by decide +kernel
theorem d_Re_take_16 : decode c_Re_take 16 = .ok (.aload_n 0, 1) := by decide +kernel
theorem d_Re_take_17 : decode c_Re_take 17 = .ok (.getfield 21, 3) := by decide +kernel
theorem d_Re_take_20 : decode c_Re_take 20 = .ok (.iload_n 1, 1) := by decide +kernel
theorem d_Re_take_21 : decode c_Re_take 21 = .ok (.iastore, 1) := by decide +kernel
theorem d_Re_take_22 : decode c_Re_take 22 = .ok (.aload_n 0, 1) := by decide +kernel
theorem d_Re_take_23 : decode c_Re_take 23 = .ok (.getfield 15, 3) := by decide +kernel
theorem d_Re_take_26 : decode c_Re_take 26 = .ok (.aload_n 0, 1) := by decide +kernel
theorem d_Re_take_27 : decode c_Re_take 27 = .ok (.getfield 21, 3) := by decide +kernel
theorem d_Re_take_30 : decode c_Re_take 30 = .ok (.iload_n 2, 1) := by decide +kernel
theorem d_Re_take_31 : decode c_Re_take 31 = .ok (.iastore, 1) := by decide +kernel
theorem d_Re_take_32 : decode c_Re_take 32 = .ok (.aload_n 0, 1) := by decide +kernel
theorem d_Re_take_33 : decode c_Re_take 33 = .ok (.getfield 18, 3) := by decide +kernel
theorem d_Re_take_36 : decode c_Re_take 36 = .ok (.aload_n 0, 1) := by decide +kernel
theorem d_Re_take_37 : decode c_Re_take 37 = .ok (.getfield 21, 3) := by decide +kernel
theorem d_Re_take_40 : decode c_Re_take 40 = .ok (.iload_n 3, 1) := by decide +kernel
theorem d_Re_take_41 : decode c_Re_take 41 = .ok (.iastore, 1) := by decide +kernel
theorem d_Re_take_42 : decode c_Re_take 42 = .ok (.aload_n 0, 1) := by decide +kernel
theorem d_Re_take_43 : decode c_Re_take 43 = .ok (.dup, 1) := by decide +kernel
theorem d_Re_take_44 : decode c_Re_take 44 = .ok (.getfield 21, 3) := by decide +kernel
theorem d_Re_take_47 : decode c_Re_take 47 = .ok (.iconst 1, 1) := by decide +kernel
theorem d_Re_take_48 : decode c_Re_take 48 = .ok (.iadd, 1) := by decide +kernel
theorem d_Re_take_49 : decode c_Re_take 49 = .ok (.putfield 21, 3) := by decide +kernel
theorem d_Re_take_52 : decode c_Re_take 52 = .ok (.aload_n 0, 1) := by decide +kernel
theorem d_Re_take_53 : decode c_Re_take 53 = .ok (.getfield 21, 3) := by decide +kernel
theorem d_Re_take_56 : decode c_Re_take 56 = .ok (.iconst 1, 1) := by decide +kernel
theorem d_Re_take_57 : decode c_Re_take 57 = .ok (.isub, 1) := by decide +kernel
theorem d_Re_take_58 : decode c_Re_take 58 = .ok (.ireturn, 1) := by decide +kernel
theorem C_Re_take_full {M : MM} {a b v : Int32} (hM : M 22 3 = i3 8) : AF y_Re_take c_Re_take 4 (some .int) 1 [vR 22, vI a, vI b, vI v] (M) (some (vI (-4))) (M) := by
  refine AF.of k_Re_take (lo := [some (vR 22), some (vI a), some (vI b), some (vI v)]) rfl (Nat.le_of_ble_eq_true rfl) (fun X hX hR => ?_)
  refine v_aload_n (pc := 0) hX rfl d_Re_take_0 ?_
  refine g_getI (pc := 1) hX fl_Re_21 rfl rfl d_Re_take_1 ?_
  refine v_bipush (pc := 4) (v := 8) hX (by decide) d_Re_take_4 ?_
  refine v_icmp_lt (pc := 6) (tgt := 12) hX d_Re_take_6 rfl (fun h6 => False.elim (by rw [hM] at h6; revert h6; decide)) (fun h6 => ?_)
  refine v_bipush (pc := 9) (v := (-4)) hX (by decide) d_Re_take_9 ?_
  exact f_iret (pc := 11) hX hR (rfl) (rfl) d_Re_take_11
theorem C_Re_take {M : MM} {a b v : Int32} {rc : Nat} (hr : rc < 8) (hM : M 22 3 = i3 rc) : AF y_Re_take c_Re_take 4 (some .int) 1 [vR 22, vI a, vI b, vI v] (M) (some (vI (i3 rc))) (upM (upM (upM (upM M 23 rc a) 24 rc b) 25 rc v) 22 3 (i3 (rc + 1))) := by
  refine AF.of k_Re_take (lo := [some (vR 22), some (vI a), some (vI b), some (vI v)]) rfl (Nat.le_of_ble_eq_true rfl) (fun X hX hR => ?_)
  refine v_aload_n (pc := 0) hX rfl d_Re_take_0 ?_
  refine g_getI (pc := 1) hX fl_Re_21 rfl rfl d_Re_take_1 ?_
  refine v_bipush (pc := 4) (v := 8) hX (by decide) d_Re_take_4 ?_
  refine v_icmp_lt (pc := 6) (tgt := 12) hX d_Re_take_6 rfl (fun h6 => ?_) (fun h6 => False.elim (h6 (by rw [hM]; exact (i3_lt (b := 8) (by omega) (by decide)).mpr hr)))
  refine v_aload_n (pc := 12) hX rfl d_Re_take_12 ?_
  refine g_getR (pc := 13) hX fl_Re_9 rfl rfl nf_22_0 d_Re_take_13 ?_
  refine v_aload_n (pc := 16) hX rfl d_Re_take_16 ?_
  refine g_getI (pc := 17) hX fl_Re_21 rfl rfl d_Re_take_17 ?_
  rw [hM]
  refine v_iload_n (pc := 20) hX rfl d_Re_take_20 ?_
  refine g_iast (pc := 21) hX rfl (IX.of hr (by decide)) d_Re_take_21 ?_
  refine v_aload_n (pc := 22) hX rfl d_Re_take_22 ?_
  refine g_getR (pc := 23) hX fl_Re_15 rfl rfl nf_22_1 d_Re_take_23 ?_
  refine v_aload_n (pc := 26) hX rfl d_Re_take_26 ?_
  refine g_getI (pc := 27) hX fl_Re_21 rfl rfl d_Re_take_27 ?_
  rw [upM_ne (by omega), hM]
  refine v_iload_n (pc := 30) hX rfl d_Re_take_30 ?_
  refine g_iast (pc := 31) hX rfl (IX.of hr (by decide)) d_Re_take_31 ?_
  refine v_aload_n (pc := 32) hX rfl d_Re_take_32 ?_
  refine g_getR (pc := 33) hX fl_Re_18 rfl rfl nf_22_2 d_Re_take_33 ?_
  refine v_aload_n (pc := 36) hX rfl d_Re_take_36 ?_
  refine g_getI (pc := 37) hX fl_Re_21 rfl rfl d_Re_take_37 ?_
  rw [upM_ne (by omega), upM_ne (by omega), hM]
  refine v_iload_n (pc := 40) hX rfl d_Re_take_40 ?_
  refine g_iast (pc := 41) hX rfl (IX.of hr (by decide)) d_Re_take_41 ?_
  refine v_aload_n (pc := 42) hX rfl d_Re_take_42 ?_
  refine v_dup (pc := 43) hX rfl d_Re_take_43 ?_
  refine g_getI (pc := 44) hX fl_Re_21 rfl rfl d_Re_take_44 ?_
  rw [upM_ne (by omega), upM_ne (by omega), upM_ne (by omega), hM]
  refine v_iconst (pc := 47) (v := 1) hX (by decide) d_Re_take_47 ?_
  refine v_iadd (pc := 48) hX d_Re_take_48 ?_
  refine g_putI (pc := 49) hX fl_Re_21 rfl (finI rfl rfl) rfl rfl rfl d_Re_take_49 ?_
  refine v_aload_n (pc := 52) hX rfl d_Re_take_52 ?_
  refine g_getI (pc := 53) hX fl_Re_21 rfl rfl d_Re_take_53 ?_
  refine v_iconst (pc := 56) (v := 1) hX (by decide) d_Re_take_56 ?_
  refine v_isub (pc := 57) hX d_Re_take_57 ?_
  exact f_iret (pc := 58) hX hR (by rw [upM_same, Int32.add_sub_cancel]) (by rw [i3_succ]) d_Re_take_58
theorem d_Re_areSo_0 : decode c_Re_areSo 0 = .ok (.iconst 0, 1) := by decide +kernel
theorem d_Re_areSo_1 : decode c_Re_areSo 1 = .ok (.istore_n 2, 1) := by decide +kernel
theorem d_Re_areSo_2 : decode c_Re_areSo 2 = .ok (.iload_n 2, 1) := by decide +kernel
theorem d_Re_areSo_3 : decode c_Re_areSo 3 = .ok (.aload_n 0, 1) := by decide +kernel
theorem d_Re_areSo_4 : decode c_Re_areSo 4 = .ok (.getfield 21, 3) := by decide +kernel
theorem d_Re_areSo_7 : decode c_Re_areSo 7 = .ok (.if_icmp .ge 45, 3) := by decide +kernel
theorem d_Re_areSo_10 : decode c_Re_areSo 10 = .ok (.aload_n 1, 1) := by decide +kernel
theorem d_Re_areSo_11 : decode c_Re_areSo 11 = .ok (.aload_n 0, 1) := by decide +kernel
theorem d_Re_areSo_12 : decode c_Re_areSo 12 = .ok (.getfield 9, 3) := by decide +kernel
theorem d_Re_areSo_15 : decode c_Re_areSo 15 = .ok (.iload_n 2, 1) := by decide +kernel
theorem d_Re_areSo_16 : decode c_Re_areSo 16 = .ok (.iaload, 1) := by decide +kernel
theorem d_Re_areSo_17 : decode c_Re_areSo 17 = .ok (.invokevirtual 25, 3) := by decide +kernel
theorem d_Re_areSo_20 : decode c_Re_areSo 20 = .ok (.astore_n 3, 1) := by decide +kernel
theorem d_Re_areSo_21 : decode c_Re_areSo 21 = .ok (.aload_n 3, 1) := by decide +kernel
theorem d_Re_areSo_22 : decode c_Re_areSo 22 = .ok (.ifnull 22, 3) := by decide +kernel
theorem d_Re_areSo_25 : decode c_Re_areSo 25 = .ok (.aload_n 3, 1) := by decide +kernel
theorem d_Re_areSo_26 : decode c_Re_areSo 26 = .ok (.aload_n 0, 1) := by decide +kernel
theorem d_Re_areSo_27 : decode c_Re_areSo 27 = .ok (.getfield 15, 3) := by decide +kernel
theorem d_Re_areSo_30 : decode c_Re_areSo 30 = .ok (.iload_n 2, 1) := by decide +kernel
theorem d_Re_areSo_31 : decode c_Re_areSo 31 = .ok (.iaload, 1) := by decide +kernel
theorem d_Re_areSo_32 : decode c_Re_areSo 32 = .ok (.invokevirtual 31, 3) := by decide +kernel
theorem d_Re_areSo_35 : decode c_Re_areSo 35 = .ok (.aload_n 0, 1) := by decide +kernel
theorem d_Re_areSo_36 : decode c_Re_areSo 36 = .ok (.getfield 18, 3) := by decide +kernel
theorem d_Re_areSo_39 : decode c_Re_areSo 39 = .ok (.iload_n 2, 1) := by decide +kernel
theorem d_Re_areSo_40 : decode c_Re_areSo 40 = .ok (.iaload, 1) := by decide +kernel
theorem d_Re_areSo_41 : decode c_Re_areSo 41 = .ok (.if_icmp .eq 5, 3) := by decide +kernel
theorem d_Re_areSo_44 : decode c_Re_areSo 44 = .ok (.iconst 0, 1) := by decide +kernel
theorem d_Re_areSo_45 : decode c_Re_areSo 45 = .ok (.ireturn, 1) := by decide +kernel
theorem d_Re_areSo_46 : decode c_Re_areSo 46 = .ok (.iinc 2 1, 3) := by decide +kernel
theorem d_Re_areSo_49 : decode c_Re_areSo 49 = .ok (.goto (-47), 3) := by decide +kernel
theorem d_Re_areSo_52 : decode c_Re_areSo 52 = .ok (.iconst 1, 1) := by decide +kernel
theorem d_Re_areSo_53 : decode c_Re_areSo 53 = .ok (.ireturn, 1) := by decide +kernel
theorem C_Re_areSo {M : MM} {n rc : Nat} {J : JT} {rj : Nat → Nat} {rt : JT} (hJ : CJ M n J) (hR0 : CR M n rc rj rt) : AF y_Re_areSo c_Re_areSo 4 (some .boolean) 3 [vR 22, vR 3] (M) (some (vI (bI (soB J rc rj rt)))) (M) := by
  have h6 := hJ.1
  have hM := hJ.2.1
  have hc8 := hR0.1
  have hc3 := hR0.2.1
  refine AF.of k_Re_areSo (lo := [some (vR 22), some (vR 3), none, none]) rfl (Nat.le_of_ble_eq_true rfl) (fun X hX hR => ?_)
  refine v_iconst (pc := 0) (v := 0) hX (by decide) d_Re_areSo_0 ?_
  refine v_istore_n (pc := 1) (lo' := [some (vR _), some (vR _), some (vI _), none]) hX (Nat.le_of_ble_eq_true rfl) rfl d_Re_areSo_1 ?_
  refine VW.cast (lo' := [some (vR 22), some (vR 3), some (vI (i3 0)), none]) (st' := []) (G' := gM (M)) rfl rfl rfl ?_
  refine v_forI (X := X) (head := 2) (rc) (fun kk => [some (vR 22), some (vR 3), some (vI (i3 kk)), none]) (fun kk => M) (fun kk => allB (fun x => decide (mk J (rj x) (rt x 0) = rt x 1)) kk = true) (rfl) (fun k hk hIk ih2 => ?_) (fun hIk => ?_)
  · show VW X 2 [some (vR 22), some (vR 3), some (vI (i3 k)), none] [] (gM (M))
    have hIk : allB (fun x => decide (mk J (rj x) (rt x 0) = rt x 1)) k = true := hIk
    obtain ⟨hx1, hx2, hx3, hx4⟩ := hR0.2.2 k hk
    have hsj := sh_jar (rj k) (by omega)
    refine v_iload_n (pc := 2) hX rfl d_Re_areSo_2 ?_
    refine v_aload_n (pc := 3) hX rfl d_Re_areSo_3 ?_
    refine g_getI (pc := 4) hX fl_Re_21 rfl rfl d_Re_areSo_4 ?_
    refine v_icmp_ge (pc := 7) (tgt := 52) hX d_Re_areSo_7 rfl (fun h7 => False.elim (i3_ge_abs hk (by omega) (by rw [← hc3]; exact h7))) (fun h7 => ?_)
    refine v_aload_n (pc := 10) hX rfl d_Re_areSo_10 ?_
    refine v_aload_n (pc := 11) hX rfl d_Re_areSo_11 ?_
    refine g_getR (pc := 12) hX fl_Re_9 rfl rfl nf_22_0 d_Re_areSo_12 ?_
    refine v_iload_n (pc := 15) hX rfl d_Re_areSo_15 ?_
    refine g_iald (pc := 16) hX rfl (IX.of (n := 8) (by omega) (by decide)) d_Re_areSo_16 ?_
    rw [hx2]
    refine f_callV (pc := 17) hX k_Sp_jarAt ki_Sp_jarAt kv_Sp_jarAt ml_Re_25 (C_Sp_jarAt_in h6 hM hx1) rfl rfl rfl rfl rfl (Nat.le_of_ble_eq_true rfl) (Nat.le_of_ble_eq_true rfl) (Nat.le_of_ble_eq_true rfl) d_Re_areSo_17 ?_
    refine v_astore_n (pc := 20) (lo' := [some (vR _), some (vR _), some (vI _), some (vR _)]) hX (Nat.le_of_ble_eq_true rfl) rfl d_Re_areSo_20 ?_
    refine v_aload_n (pc := 21) hX rfl d_Re_areSo_21 ?_
    refine v_ifnull (pc := 22) (tgt := 44) hX d_Re_areSo_22 rfl (fun h22 => False.elim (by have := sh_two (by assumption); omega)) (fun h22 => ?_)
    refine v_aload_n (pc := 25) hX rfl d_Re_areSo_25 ?_
    refine v_aload_n (pc := 26) hX rfl d_Re_areSo_26 ?_
    refine g_getR (pc := 27) hX fl_Re_15 rfl rfl nf_22_1 d_Re_areSo_27 ?_
    refine v_iload_n (pc := 30) hX rfl d_Re_areSo_30 ?_
    refine g_iald (pc := 31) hX rfl (IX.of (n := 8) (by omega) (by decide)) d_Re_areSo_31 ?_
    rw [hx3]
    refine f_callV (pc := 32) hX k_Ja_markIn ki_Ja_markIn kv_Ja_markIn ml_Re_31 (C_Ja_markIn (by assumption)) (by assumption) rfl rfl rfl rfl (Nat.le_of_ble_eq_true rfl) (Nat.le_of_ble_eq_true rfl) (Nat.le_of_ble_eq_true rfl) d_Re_areSo_32 ?_
    refine v_aload_n (pc := 35) hX rfl d_Re_areSo_35 ?_
    refine g_getR (pc := 36) hX fl_Re_18 rfl rfl nf_22_2 d_Re_areSo_36 ?_
    refine v_iload_n (pc := 39) hX rfl d_Re_areSo_39 ?_
    refine g_iald (pc := 40) hX rfl (IX.of (n := 8) (by omega) (by decide)) d_Re_areSo_40 ?_
    rw [hx4, hJ.mk hx1]
    refine v_icmp_eq (pc := 41) (tgt := 46) hX d_Re_areSo_41 rfl (fun h41 => ?_) (fun h41 => ?_)
    · refine v_iinc (pc := 46) (lo' := [some (vR _), some (vR _), some (vI _), some (vR _)]) hX rfl rfl d_Re_areSo_46 ?_
      refine v_goto (pc := 49) (tgt := 2) hX d_Re_areSo_49 rfl ?_
      refine VW.fg [true, true, true, false] ?_
      exact VW.cast (by rw [i3_succ]; rfl) rfl rfl (ih2 (allB_s hIk (decide_eq_true h41)))
    · refine v_iconst (pc := 44) (v := 0) hX (by decide) d_Re_areSo_44 ?_
      exact f_zret (pc := 45) hX hR (bF (allB_no hk (decide_eq_false h41))) (rfl) d_Re_areSo_45
  · show VW X 2 [some (vR 22), some (vR 3), some (vI (i3 (rc))), none] [] (gM (M))
    have hIk : allB (fun x => decide (mk J (rj x) (rt x 0) = rt x 1)) (rc) = true := hIk
    refine v_iload_n (pc := 2) hX rfl d_Re_areSo_2 ?_
    refine v_aload_n (pc := 3) hX rfl d_Re_areSo_3 ?_
    refine g_getI (pc := 4) hX fl_Re_21 rfl rfl d_Re_areSo_4 ?_
    refine v_icmp_ge (pc := 7) (tgt := 52) hX d_Re_areSo_7 rfl (fun h7 => ?_) (fun h7 => False.elim (absurd (by rw [hc3]; exact Int32.le_refl _) h7))
    refine v_iconst (pc := 52) (v := 1) hX (by decide) d_Re_areSo_52 ?_
    exact f_zret (pc := 53) hX hR (bT hIk) (rfl) d_Re_areSo_53
