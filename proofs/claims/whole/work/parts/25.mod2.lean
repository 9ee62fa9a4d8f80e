/-! The model: which to take. -/
theorem stN_no {J : JT} {k : Nat} (h : ¬ 0 < J k 3) : stN J (k + 1) = stN J k := by
  show stN J k + (if 0 < J k 3 then 2 ^ k else 0) = _
  rw [if_neg h]; rfl
theorem stN_yes {J : JT} {k : Nat} (h : 0 < J k 3) : stN J (k + 1) = stN J k + 2 ^ k := by
  show stN J k + (if 0 < J k 3 then 2 ^ k else 0) = _
  rw [if_pos h]
theorem d_Mo_leftNow_0 : decode c_Mo_leftNow 0 = .ok (.iconst 0, 1) := by decide +kernel
theorem d_Mo_leftNow_1 : decode c_Mo_leftNow 1 = .ok (.istore_n 1, 1) := by decide +kernel
theorem d_Mo_leftNow_2 : decode c_Mo_leftNow 2 = .ok (.iconst 0, 1) := by decide +kernel
theorem d_Mo_leftNow_3 : decode c_Mo_leftNow 3 = .ok (.istore_n 2, 1) := by decide +kernel
theorem d_Mo_leftNow_4 : decode c_Mo_leftNow 4 = .ok (.iload_n 2, 1) := by decide +kernel
theorem d_Mo_leftNow_5 : decode c_Mo_leftNow 5 = .ok (.aload_n 0, 1) := by decide +kernel
theorem d_Mo_leftNow_6 : decode c_Mo_leftNow 6 = .ok (.getfield 101, 3) := by decide +kernel
theorem d_Mo_leftNow_9 : decode c_Mo_leftNow 9 = .ok (.if_icmp .ge 28, 3) := by decide +kernel
theorem d_Mo_leftNow_12 : decode c_Mo_leftNow 12 = .ok (.iload_n 1, 1) := by decide +kernel
theorem d_Mo_leftNow_13 : decode c_Mo_leftNow 13 = .ok (.aload_n 0, 1) := by decide +kernel
theorem d_Mo_leftNow_14 : decode c_Mo_leftNow 14 = .ok (.getfield 19, 3) := by decide +kernel
theorem d_Mo_leftNow_17 : decode c_Mo_leftNow 17 = .ok (.iload_n 2, 1) := by decide +kernel
theorem d_Mo_leftNow_18 : decode c_Mo_leftNow 18 = .ok (.iaload, 1) := by decide +kernel
theorem d_Mo_leftNow_19 : decode c_Mo_leftNow 19 = .ok (.ifCond .le 9, 3) := by decide +kernel
theorem d_Mo_leftNow_22 : decode c_Mo_leftNow 22 = .ok (.iconst 1, 1) := by decide +kernel
theorem d_Mo_leftNow_23 : decode c_Mo_leftNow 23 = .ok (.iload_n 2, 1) := by decide +kernel
theorem d_Mo_leftNow_24 : decode c_Mo_leftNow 24 = .ok (.ishl, 1) := by decide +kernel
theorem d_Mo_leftNow_25 : decode c_Mo_leftNow 25 = .ok (.goto 4, 3) := by decide +kernel
theorem d_Mo_leftNow_28 : decode c_Mo_leftNow 28 = .ok (.iconst 0, 1) := by decide +kernel
theorem d_Mo_leftNow_29 : decode c_Mo_leftNow 29 = .ok (.ior, 1) := by decide +kernel
theorem d_Mo_leftNow_30 : decode c_Mo_leftNow 30 = .ok (.istore_n 1, 1) := by decide +kernel
theorem d_Mo_leftNow_31 : decode c_Mo_leftNow 31 = .ok (.iinc 2 1, 3) := by decide +kernel
theorem d_Mo_leftNow_34 : decode c_Mo_leftNow 34 = .ok (.goto (-30), 3) := by decide +kernel
theorem d_Mo_leftNow_37 : decode c_Mo_leftNow 37 = .ok (.iload_n 1, 1) := by decide +kernel
theorem d_Mo_leftNow_38 : decode c_Mo_leftNow 38 = .ok (.ireturn, 1) := by decide +kernel
theorem C_Mo_leftNow {M : MM} {n : Nat} {J : JT} (hJ : MJ M n J) : AF y_Mo_leftNow c_Mo_leftNow 3 (some .int) 1 [vR 36] (M) (some (vI (i3 (stN J n)))) (M) := by
  have h6 := hJ.1
  have hM := hJ.2.1
  refine AF.of k_Mo_leftNow (lo := [some (vR 36), none, none]) rfl (Nat.le_of_ble_eq_true rfl) (fun X hX hR => ?_)
  refine v_iconst (pc := 0) (v := 0) hX (by decide) d_Mo_leftNow_0 ?_
  refine v_istore_n (pc := 1) (lo' := [some (vR _), some (vI _), none]) hX (Nat.le_of_ble_eq_true rfl) rfl d_Mo_leftNow_1 ?_
  refine v_iconst (pc := 2) (v := 0) hX (by decide) d_Mo_leftNow_2 ?_
  refine v_istore_n (pc := 3) (lo' := [some (vR _), some (vI _), some (vI _)]) hX (Nat.le_of_ble_eq_true rfl) rfl d_Mo_leftNow_3 ?_
  refine VW.cast (lo' := [some (vR 36), some (vI (i3 (stN J 0))), some (vI (i3 0))]) (st' := []) (G' := gM (M)) rfl rfl rfl ?_
  refine v_for (X := X) (head := 4) (n) (fun kk => [some (vR 36), some (vI (i3 (stN J kk))), some (vI (i3 kk))]) (fun kk => M) (fun k hk ih4 => ?_) ?_
  · show VW X 4 [some (vR 36), some (vI (i3 (stN J k))), some (vI (i3 k))] [] (gM (M))
    have hb := shl_i3 k (by omega)
    have hl := stN_lt J k
    refine v_iload_n (pc := 4) hX rfl d_Mo_leftNow_4 ?_
    refine v_aload_n (pc := 5) hX rfl d_Mo_leftNow_5 ?_
    refine g_getI (pc := 6) hX fl_Mo_101 rfl rfl d_Mo_leftNow_6 ?_
    refine v_icmp_ge (pc := 9) (tgt := 37) hX d_Mo_leftNow_9 rfl (fun h9 => False.elim (i3_ge_abs hk (by omega) (by rw [← hM]; exact h9))) (fun h9 => ?_)
    refine v_iload_n (pc := 12) hX rfl d_Mo_leftNow_12 ?_
    refine v_aload_n (pc := 13) hX rfl d_Mo_leftNow_13 ?_
    refine g_getR (pc := 14) hX fl_Mo_19 rfl rfl nf_36_5 d_Mo_leftNow_14 ?_
    refine v_iload_n (pc := 17) hX rfl d_Mo_leftNow_17 ?_
    refine g_iald (pc := 18) hX rfl (IX.of (n := 6) (by omega) (by decide)) d_Mo_leftNow_18 ?_
    rw [show M 40 k = J k 3 from hJ.2.2.1 k hk 3 (by decide)]
    refine v_if_le (pc := 19) (tgt := 28) hX d_Mo_leftNow_19 rfl (fun h19 => ?_) (fun h19 => ?_)
    · have e : stN J (k + 1) = stN J k := stN_no (Int32.not_lt.mpr h19)
      refine v_iconst (pc := 28) (v := 0) hX (by decide) d_Mo_leftNow_28 ?_
      refine v_ior (pc := 29) hX d_Mo_leftNow_29 ?_
      refine v_istore_n (pc := 30) (lo' := [some (vR _), some (vI _), some (vI _)]) hX (Nat.le_of_ble_eq_true rfl) rfl d_Mo_leftNow_30 ?_
      refine v_iinc (pc := 31) (lo' := [some (vR _), some (vI _), some (vI _)]) hX rfl rfl d_Mo_leftNow_31 ?_
      refine v_goto (pc := 34) (tgt := 4) hX d_Mo_leftNow_34 rfl ?_
      exact VW.cast (by first | (rw [e, i3_succ, hb, or_i3 k (by omega) _ hl]; rfl) | (rw [e, i3_succ, or_0]; rfl)) rfl rfl ih4
    · have e : stN J (k + 1) = stN J k + 2 ^ k := stN_yes (Int32.not_le.mp h19)
      refine v_iconst (pc := 22) (v := 1) hX (by decide) d_Mo_leftNow_22 ?_
      refine v_iload_n (pc := 23) hX rfl d_Mo_leftNow_23 ?_
      refine v_ishl (pc := 24) hX d_Mo_leftNow_24 ?_
      refine v_goto (pc := 25) (tgt := 29) hX d_Mo_leftNow_25 rfl ?_
      refine v_ior (pc := 29) hX d_Mo_leftNow_29 ?_
      refine v_istore_n (pc := 30) (lo' := [some (vR _), some (vI _), some (vI _)]) hX (Nat.le_of_ble_eq_true rfl) rfl d_Mo_leftNow_30 ?_
      refine v_iinc (pc := 31) (lo' := [some (vR _), some (vI _), some (vI _)]) hX rfl rfl d_Mo_leftNow_31 ?_
      refine v_goto (pc := 34) (tgt := 4) hX d_Mo_leftNow_34 rfl ?_
      exact VW.cast (by first | (rw [e, i3_succ, hb, or_i3 k (by omega) _ hl]; rfl) | (rw [e, i3_succ, or_0]; rfl)) rfl rfl ih4
  · show VW X 4 [some (vR 36), some (vI (i3 (stN J (n)))), some (vI (i3 (n)))] [] (gM (M))
    refine v_iload_n (pc := 4) hX rfl d_Mo_leftNow_4 ?_
    refine v_aload_n (pc := 5) hX rfl d_Mo_leftNow_5 ?_
    refine g_getI (pc := 6) hX fl_Mo_101 rfl rfl d_Mo_leftNow_6 ?_
    refine v_icmp_ge (pc := 9) (tgt := 37) hX d_Mo_leftNow_9 rfl (fun h9 => ?_) (fun h9 => False.elim (absurd (by rw [hM]; exact Int32.le_refl _) h9))
    refine v_iload_n (pc := 37) hX rfl d_Mo_leftNow_37 ?_
    exact f_iret (pc := 38) hX hR (rfl) (rfl) d_Mo_leftNow_38
theorem d_Mo_pricesOf_0 : decode c_Mo_pricesOf 0 = .ok (.iconst 0, 1) := by decide +kernel
theorem d_Mo_pricesOf_1 : decode c_Mo_pricesOf 1 = .ok (.istore_n 2, 1) := by decide +kernel
theorem d_Mo_pricesOf_2 : decode c_Mo_pricesOf 2 = .ok (.iconst 0, 1) := by decide +kernel
theorem d_Mo_pricesOf_3 : decode c_Mo_pricesOf 3 = .ok (.istore_n 3, 1) := by decide +kernel
theorem d_Mo_pricesOf_4 : decode c_Mo_pricesOf 4 = .ok (.iload_n 3, 1) := by decide +kernel
theorem d_Mo_pricesOf_5 : decode c_Mo_pricesOf 5 = .ok (.aload_n 0, 1) := by decide +kernel
theorem d_Mo_pricesOf_6 : decode c_Mo_pricesOf 6 = .ok (.getfield 101, 3) := by decide +kernel
theorem d_Mo_pricesOf_9 : decode c_Mo_pricesOf 9 = .ok (.if_icmp .ge 30, 3) := by decide +kernel
theorem d_Mo_pricesOf_12 : decode c_Mo_pricesOf 12 = .ok (.iload_n 2, 1) := by decide +kernel
theorem d_Mo_pricesOf_13 : decode c_Mo_pricesOf 13 = .ok (.iload_n 1, 1) := by decide +kernel
theorem d_Mo_pricesOf_14 : decode c_Mo_pricesOf 14 = .ok (.iload_n 3, 1) := by decide +kernel
theorem d_Mo_pricesOf_15 : decode c_Mo_pricesOf 15 = .ok (.invokestatic 181, 3) := by decide +kernel
theorem d_Mo_pricesOf_18 : decode c_Mo_pricesOf 18 = .ok (.ifCond .eq 12, 3) := by decide +kernel
theorem d_Mo_pricesOf_21 : decode c_Mo_pricesOf 21 = .ok (.aload_n 0, 1) := by decide +kernel
theorem d_Mo_pricesOf_22 : decode c_Mo_pricesOf 22 = .ok (.getfield 22, 3) := by decide +kernel
theorem d_Mo_pricesOf_25 : decode c_Mo_pricesOf 25 = .ok (.iload_n 3, 1) := by decide +kernel
theorem d_Mo_pricesOf_26 : decode c_Mo_pricesOf 26 = .ok (.iaload, 1) := by decide +kernel
theorem d_Mo_pricesOf_27 : decode c_Mo_pricesOf 27 = .ok (.goto 4, 3) := by decide +kernel
theorem d_Mo_pricesOf_30 : decode c_Mo_pricesOf 30 = .ok (.iconst 0, 1) := by decide +kernel
theorem d_Mo_pricesOf_31 : decode c_Mo_pricesOf 31 = .ok (.iadd, 1) := by decide +kernel
theorem d_Mo_pricesOf_32 : decode c_Mo_pricesOf 32 = .ok (.istore_n 2, 1) := by decide +kernel
theorem d_Mo_pricesOf_33 : decode c_Mo_pricesOf 33 = .ok (.iinc 3 1, 3) := by decide +kernel
theorem d_Mo_pricesOf_36 : decode c_Mo_pricesOf 36 = .ok (.goto (-32), 3) := by decide +kernel
theorem d_Mo_pricesOf_39 : decode c_Mo_pricesOf 39 = .ok (.iload_n 2, 1) := by decide +kernel
theorem d_Mo_pricesOf_40 : decode c_Mo_pricesOf 40 = .ok (.ireturn, 1) := by decide +kernel
theorem C_Mo_pricesOf {M : MM} {n s : Nat} {J : JT} (hJ : MJ M n J) (hs : s < 64) : AF y_Mo_pricesOf c_Mo_pricesOf 4 (some .int) 2 [vR 36, vI (i3 s)] (M) (some (vI (pcB J s n))) (M) := by
  have h6 := hJ.1
  have hM := hJ.2.1
  refine AF.of k_Mo_pricesOf (lo := [some (vR 36), some (vI (i3 s)), none, none]) rfl (Nat.le_of_ble_eq_true rfl) (fun X hX hR => ?_)
  refine v_iconst (pc := 0) (v := 0) hX (by decide) d_Mo_pricesOf_0 ?_
  refine v_istore_n (pc := 1) (lo' := [some (vR _), some (vI _), some (vI _), none]) hX (Nat.le_of_ble_eq_true rfl) rfl d_Mo_pricesOf_1 ?_
  refine v_iconst (pc := 2) (v := 0) hX (by decide) d_Mo_pricesOf_2 ?_
  refine v_istore_n (pc := 3) (lo' := [some (vR _), some (vI _), some (vI _), some (vI _)]) hX (Nat.le_of_ble_eq_true rfl) rfl d_Mo_pricesOf_3 ?_
  refine VW.cast (lo' := [some (vR 36), some (vI (i3 s)), some (vI (pcB J s 0)), some (vI (i3 0))]) (st' := []) (G' := gM (M)) rfl rfl rfl ?_
  refine v_for (X := X) (head := 4) (n) (fun kk => [some (vR 36), some (vI (i3 s)), some (vI (pcB J s kk)), some (vI (i3 kk))]) (fun kk => M) (fun k hk ih4 => ?_) ?_
  · show VW X 4 [some (vR 36), some (vI (i3 s)), some (vI (pcB J s k)), some (vI (i3 k))] [] (gM (M))
    refine v_iload_n (pc := 4) hX rfl d_Mo_pricesOf_4 ?_
    refine v_aload_n (pc := 5) hX rfl d_Mo_pricesOf_5 ?_
    refine g_getI (pc := 6) hX fl_Mo_101 rfl rfl d_Mo_pricesOf_6 ?_
    refine v_icmp_ge (pc := 9) (tgt := 39) hX d_Mo_pricesOf_9 rfl (fun h9 => False.elim (i3_ge_abs hk (by omega) (by rw [← hM]; exact h9))) (fun h9 => ?_)
    refine v_iload_n (pc := 12) hX rfl d_Mo_pricesOf_12 ?_
    refine v_iload_n (pc := 13) hX rfl d_Mo_pricesOf_13 ?_
    refine v_iload_n (pc := 14) hX rfl d_Mo_pricesOf_14 ?_
    refine f_callS (pc := 15) hX k_Mo_isIn ks_Mo_isIn ml_Mo_181 (C_Mo_isIn (by omega) (by omega)) rfl rfl rfl (Nat.le_of_ble_eq_true rfl) (Nat.le_of_ble_eq_true rfl) (Nat.le_of_ble_eq_true rfl) d_Mo_pricesOf_15 ?_
    refine f_ifeqB (pc := 18) (tgt := 30) hX d_Mo_pricesOf_18 rfl (fun h18 => ?_) (fun h18 => ?_)
    · have e : pcB J s (k + 1) = pcB J s k := by simp [pcB, fsum, of_decide_eq_false h18]
      refine v_iconst (pc := 30) (v := 0) hX (by decide) d_Mo_pricesOf_30 ?_
      refine v_iadd (pc := 31) hX d_Mo_pricesOf_31 ?_
      refine v_istore_n (pc := 32) (lo' := [some (vR _), some (vI _), some (vI _), some (vI _)]) hX (Nat.le_of_ble_eq_true rfl) rfl d_Mo_pricesOf_32 ?_
      refine v_iinc (pc := 33) (lo' := [some (vR _), some (vI _), some (vI _), some (vI _)]) hX rfl rfl d_Mo_pricesOf_33 ?_
      refine v_goto (pc := 36) (tgt := 4) hX d_Mo_pricesOf_36 rfl ?_
      exact VW.cast (by first | (rw [e, i3_succ, Int32.add_zero]; rfl) | (rw [e, i3_succ]; rfl)) rfl rfl ih4
    · have e : pcB J s (k + 1) = pcB J s k + J k 4 := by simp [pcB, fsum, of_decide_eq_true h18]
      refine v_aload_n (pc := 21) hX rfl d_Mo_pricesOf_21 ?_
      refine g_getR (pc := 22) hX fl_Mo_22 rfl rfl nf_36_6 d_Mo_pricesOf_22 ?_
      refine v_iload_n (pc := 25) hX rfl d_Mo_pricesOf_25 ?_
      refine g_iald (pc := 26) hX rfl (IX.of (n := 6) (by omega) (by decide)) d_Mo_pricesOf_26 ?_
      rw [show M 41 k = J k 4 from hJ.2.2.1 k hk 4 (by decide)]
      refine v_goto (pc := 27) (tgt := 31) hX d_Mo_pricesOf_27 rfl ?_
      refine v_iadd (pc := 31) hX d_Mo_pricesOf_31 ?_
      refine v_istore_n (pc := 32) (lo' := [some (vR _), some (vI _), some (vI _), some (vI _)]) hX (Nat.le_of_ble_eq_true rfl) rfl d_Mo_pricesOf_32 ?_
      refine v_iinc (pc := 33) (lo' := [some (vR _), some (vI _), some (vI _), some (vI _)]) hX rfl rfl d_Mo_pricesOf_33 ?_
      refine v_goto (pc := 36) (tgt := 4) hX d_Mo_pricesOf_36 rfl ?_
      exact VW.cast (by first | (rw [e, i3_succ, Int32.add_zero]; rfl) | (rw [e, i3_succ]; rfl)) rfl rfl ih4
  · show VW X 4 [some (vR 36), some (vI (i3 s)), some (vI (pcB J s (n))), some (vI (i3 (n)))] [] (gM (M))
    refine v_iload_n (pc := 4) hX rfl d_Mo_pricesOf_4 ?_
    refine v_aload_n (pc := 5) hX rfl d_Mo_pricesOf_5 ?_
    refine g_getI (pc := 6) hX fl_Mo_101 rfl rfl d_Mo_pricesOf_6 ?_
    refine v_icmp_ge (pc := 9) (tgt := 39) hX d_Mo_pricesOf_9 rfl (fun h9 => ?_) (fun h9 => False.elim (absurd (by rw [hM]; exact Int32.le_refl _) h9))
    refine v_iload_n (pc := 39) hX rfl d_Mo_pricesOf_39 ?_
    exact f_iret (pc := 40) hX hR (rfl) (rfl) d_Mo_pricesOf_40
/-- prices are 0 .. 9 -/
def PR (n : Nat) (J : JT) : Prop := ∀ j, j < n → ∃ p, p ≤ 9 ∧ J j 4 = i3 p
theorem pc_i3 {n s : Nat} {J : JT} (h : PR n J) : ∀ k, k ≤ n → ∃ x, x ≤ 9 * k ∧ pcB J s k = i3 x
  | 0, _ => ⟨0, Nat.le_refl _, rfl⟩
  | k + 1, hk => by
    obtain ⟨x, h1, h2⟩ := pc_i3 (s := s) h k (by omega)
    obtain ⟨p, h3, h4⟩ := h k (by omega)
    have e : pcB J s (k + 1) = pcB J s k + (if bt s k = 1 then J k 4 else 0) := rfl
    rw [e, h2]
    by_cases c : bt s k = 1
    · rw [if_pos c, h4]
      exact ⟨x + p, by omega, (i3_add x p).symm⟩
    · rw [if_neg c, Int32.add_zero]
      exact ⟨x, by omega, rfl⟩
def rtB (J : JT) (n s b : Nat) : Bool := decide (b = 0) || (decide (pcB J s n < pcB J b n) || (decide (pcB J s n = pcB J b n) && decide (pop 6 s < pop 6 b)))
theorem i3_sub_int {x y : Nat} (hx : x ≤ 1000) (hy : y ≤ 1000) : (i3 x - i3 y).toInt = (x : Int) - y := by
  rw [Int32.toInt_sub, i3_int (by omega), i3_int (by omega), Int.bmod_def]
  omega
theorem d_Mo_isRather_0 : decode c_Mo_isRather 0 = .ok (.iload_n 2, 1) := by decide +kernel
theorem d_Mo_isRather_1 : decode c_Mo_isRather 1 = .ok (.ifCond .ge 5, 3) := by decide +kernel
theorem d_Mo_isRather_4 : decode c_Mo_isRather 4 = .ok (.iconst 1, 1) := by decide +kernel
theorem d_Mo_isRather_5 : decode c_Mo_isRather 5 = .ok (.ireturn, 1) := by decide +kernel
theorem d_Mo_isRather_6 : decode c_Mo_isRather 6 = .ok (.aload_n 0, 1) := by decide +kernel
theorem d_Mo_isRather_7 : decode c_Mo_isRather 7 = .ok (.iload_n 2, 1) := by decide +kernel
theorem d_Mo_isRather_8 : decode c_Mo_isRather 8 = .ok (.invokevirtual 218, 3) := by decide +kernel
theorem d_Mo_isRather_11 : decode c_Mo_isRather 11 = .ok (.aload_n 0, 1) := by decide +kernel
theorem d_Mo_isRather_12 : decode c_Mo_isRather 12 = .ok (.iload_n 1, 1) := by decide +kernel
theorem d_Mo_isRather_13 : decode c_Mo_isRather 13 = .ok (.invokevirtual 218, 3) := by decide +kernel
theorem d_Mo_isRather_16 : decode c_Mo_isRather 16 = .ok (.isub, 1) := by decide +kernel
theorem d_Mo_isRather_17 : decode c_Mo_isRather 17 = .ok (.istore_n 3, 1) := by decide +kernel
theorem d_Mo_isRather_18 : decode c_Mo_isRather 18 = .ok (.iload_n 3, 1) := by decide +kernel
theorem d_Mo_isRather_19 : decode c_Mo_isRather 19 = .ok (.ifCond .gt 18, 3) := by decide +kernel
theorem d_Mo_isRather_22 : decode c_Mo_isRather 22 = .ok (.iload_n 3, 1) := by decide +kernel
theorem d_Mo_isRather_23 : decode c_Mo_isRather 23 = .ok (.ifCond .ne 18, 3) := by decide +kernel
theorem d_Mo_isRather_26 : decode c_Mo_isRather 26 = .ok (.iload_n 1, 1) := by decide +kernel
theorem d_Mo_isRather_27 : decode c_Mo_isRather 27 = .ok (.invokestatic 184, 3) := by decide +kernel
theorem d_Mo_isRather_30 : decode c_Mo_isRather 30 = .ok (.iload_n 2, 1) := by decide +kernel
theorem d_Mo_isRather_31 : decode c_Mo_isRather 31 = .ok (.invokestatic 184, 3) := by decide +kernel
theorem d_Mo_isRather_34 : decode c_Mo_isRather 34 = .ok (.if_icmp .ge 7, 3) := by decide +kernel
theorem d_Mo_isRather_37 : decode c_Mo_isRather 37 = .ok (.iconst 1, 1) := by decide +kernel
theorem d_Mo_isRather_38 : decode c_Mo_isRather 38 = .ok (.goto 4, 3) := by decide +kernel
theorem d_Mo_isRather_41 : decode c_Mo_isRather 41 = .ok (.iconst 0, 1) := by decide +kernel
theorem d_Mo_isRather_42 : decode c_Mo_isRather 42 = .ok (.ireturn, 1) := by decide +kernel
theorem C_Mo_isRather_0 {M : MM} {n s : Nat} {J : JT} : AF y_Mo_isRather c_Mo_isRather 4 (some .boolean) 3 [vR 36, vI (i3 s), vI (-9)] (M) (some (vI (bI (rtB J n s 0)))) (M) := by
  refine AF.of k_Mo_isRather (lo := [some (vR 36), some (vI (i3 s)), some (vI (-9)), none]) rfl (Nat.le_of_ble_eq_true rfl) (fun X hX hR => ?_)
  refine v_iload_n (pc := 0) hX rfl d_Mo_isRather_0 ?_
  refine v_if_ge (pc := 1) (tgt := 6) hX d_Mo_isRather_1 rfl (fun h1 => False.elim (absurd h1 (by decide))) (fun h1 => ?_)
  refine v_iconst (pc := 4) (v := 1) hX (by decide) d_Mo_isRather_4 ?_
  exact f_zret (pc := 5) hX hR (bT (by unfold rtB; rfl)) (rfl) d_Mo_isRather_5
theorem C_Mo_isRather_1 {M : MM} {n s b : Nat} {J : JT} (hJ : MJ M n J) (hP : PR n J) (hs : s < 64) (hb : b < 64) (hb0 : b ≠ 0) : AF y_Mo_isRather c_Mo_isRather 4 (some .boolean) 3 [vR 36, vI (i3 s), vI (i3 b)] (M) (some (vI (bI (rtB J n s b)))) (M) := by
  have h6 := hJ.1
  obtain ⟨x, x1, x2⟩ := pc_i3 (s := s) hP n (Nat.le_refl n)
  obtain ⟨y, y1, y2⟩ := pc_i3 (s := b) hP n (Nat.le_refl n)
  have hsi := i3_sub_int (x := y) (y := x) (by omega) (by omega)
  have hps := pop_lt hs
  have hpb := pop_lt hb
  refine AF.of k_Mo_isRather (lo := [some (vR 36), some (vI (i3 s)), some (vI (i3 b)), none]) rfl (Nat.le_of_ble_eq_true rfl) (fun X hX hR => ?_)
  refine v_iload_n (pc := 0) hX rfl d_Mo_isRather_0 ?_
  refine v_if_ge (pc := 1) (tgt := 6) hX d_Mo_isRather_1 rfl (fun h1 => ?_) (fun h1 => False.elim (h1 ((i3_le (a := 0) (by decide) (by omega)).mpr (by omega))))
  refine v_aload_n (pc := 6) hX rfl d_Mo_isRather_6 ?_
  refine v_iload_n (pc := 7) hX rfl d_Mo_isRather_7 ?_
  refine f_callV (pc := 8) hX k_Mo_pricesOf ki_Mo_pricesOf kv_Mo_pricesOf ml_Mo_218 (C_Mo_pricesOf hJ (by omega)) rfl rfl rfl rfl rfl (Nat.le_of_ble_eq_true rfl) (Nat.le_of_ble_eq_true rfl) (Nat.le_of_ble_eq_true rfl) d_Mo_isRather_8 ?_
  refine v_aload_n (pc := 11) hX rfl d_Mo_isRather_11 ?_
  refine v_iload_n (pc := 12) hX rfl d_Mo_isRather_12 ?_
  refine f_callV (pc := 13) hX k_Mo_pricesOf ki_Mo_pricesOf kv_Mo_pricesOf ml_Mo_218 (C_Mo_pricesOf hJ (by omega)) rfl rfl rfl rfl rfl (Nat.le_of_ble_eq_true rfl) (Nat.le_of_ble_eq_true rfl) (Nat.le_of_ble_eq_true rfl) d_Mo_isRather_13 ?_
  refine v_isub (pc := 16) hX d_Mo_isRather_16 ?_
  rw [x2, y2]
  refine v_istore_n (pc := 17) (lo' := [some (vR _), some (vI _), some (vI _), some (vI _)]) hX (Nat.le_of_ble_eq_true rfl) rfl d_Mo_isRather_17 ?_
  refine v_iload_n (pc := 18) hX rfl d_Mo_isRather_18 ?_
  refine v_if_gt (pc := 19) (tgt := 37) hX d_Mo_isRather_19 rfl (fun h19 => ?_) (fun h19 => ?_)
  · have e : rtB J n s b = true := by unfold rtB; rw [x2, y2, decide_eq_true (show i3 x < i3 y from (i3_lt (by omega) (by omega)).mpr (by simp only [lt32, q_0, hsi] at h19; omega))]; simp
    refine v_iconst (pc := 37) (v := 1) hX (by decide) d_Mo_isRather_37 ?_
    refine v_goto (pc := 38) (tgt := 42) hX d_Mo_isRather_38 rfl ?_
    exact f_zret (pc := 42) hX hR (by first | exact bT e | exact bF e) (rfl) d_Mo_isRather_42
  · refine v_iload_n (pc := 22) hX rfl d_Mo_isRather_22 ?_
    refine v_if_ne (pc := 23) (tgt := 41) hX d_Mo_isRather_23 rfl (fun h23 => ?_) (fun h23 => ?_)
    · have e : rtB J n s b = false := by
        unfold rtB
        rw [x2, y2, decide_eq_false hb0, decide_eq_false (show ¬ i3 x < i3 y from fun w => by have := (i3_lt (by omega) (by omega)).mp w; simp only [lt32, q_0, hsi] at h19; omega), decide_eq_false (show ¬ i3 x = i3 y from fun w => by have := (i3_inj (by omega) (by omega)).mp w; simp only [eq32, q_0, hsi] at h23; omega)]
        rfl
      refine v_iconst (pc := 41) (v := 0) hX (by decide) d_Mo_isRather_41 ?_
      exact f_zret (pc := 42) hX hR (by first | exact bT e | exact bF e) (rfl) d_Mo_isRather_42
    · have hxy : x = y := by simp only [eq32, q_0, hsi] at h23; omega
      refine v_iload_n (pc := 26) hX rfl d_Mo_isRather_26 ?_
      refine f_callS (pc := 27) hX k_Mo_bits ks_Mo_bits ml_Mo_184 (C_Mo_bits (by omega)) rfl rfl rfl (Nat.le_of_ble_eq_true rfl) (Nat.le_of_ble_eq_true rfl) (Nat.le_of_ble_eq_true rfl) d_Mo_isRather_27 ?_
      refine v_iload_n (pc := 30) hX rfl d_Mo_isRather_30 ?_
      refine f_callS (pc := 31) hX k_Mo_bits ks_Mo_bits ml_Mo_184 (C_Mo_bits (by omega)) rfl rfl rfl (Nat.le_of_ble_eq_true rfl) (Nat.le_of_ble_eq_true rfl) (Nat.le_of_ble_eq_true rfl) d_Mo_isRather_31 ?_
      refine v_icmp_ge (pc := 34) (tgt := 41) hX d_Mo_isRather_34 rfl (fun h34 => ?_) (fun h34 => ?_)
      · have e : rtB J n s b = false := by
          unfold rtB
          rw [x2, y2, hxy, decide_eq_false hb0, decide_eq_false (Int32.lt_irrefl), decide_eq_false (show ¬ pop 6 s < pop 6 b from fun w => by have := (i3_le (by omega) (by omega)).mp h34; omega)]
          simp
        refine v_iconst (pc := 41) (v := 0) hX (by decide) d_Mo_isRather_41 ?_
        exact f_zret (pc := 42) hX hR (by first | exact bT e | exact bF e) (rfl) d_Mo_isRather_42
      · have e : rtB J n s b = true := by
          unfold rtB
          rw [x2, y2, hxy, decide_eq_true (show pop 6 s < pop 6 b from Nat.lt_of_not_le (fun w => h34 ((i3_le (by omega) (by omega)).mpr w)))]
          simp
        refine v_iconst (pc := 37) (v := 1) hX (by decide) d_Mo_isRather_37 ?_
        refine v_goto (pc := 38) (tgt := 42) hX d_Mo_isRather_38 rfl ?_
        exact f_zret (pc := 42) hX hR (by first | exact bT e | exact bF e) (rfl) d_Mo_isRather_42
theorem C_Mo_isRather {M : MM} {n s b : Nat} {J : JT} (hJ : MJ M n J) (hP : PR n J) (hs : s < 64) (hb : b < 64) : AF y_Mo_isRather c_Mo_isRather 4 (some .boolean) 3 [vR 36, vI (i3 s), vI (en b)] M (some (vI (bI (rtB J n s b)))) M := by
  by_cases e : b = 0
  · subst e
    exact C_Mo_isRather_0
  · rw [en_p e]
    exact C_Mo_isRather_1 hJ hP hs hb e
theorem d_Mo_mix_0 : decode c_Mo_mix 0 = .ok (.aload_n 0, 1) := by decide +kernel
theorem d_Mo_mix_1 : decode c_Mo_mix 1 = .ok (.iload_n 1, 1) := by decide +kernel
theorem d_Mo_mix_2 : decode c_Mo_mix 2 = .ok (.invokevirtual 176, 3) := by decide +kernel
theorem d_Mo_mix_5 : decode c_Mo_mix 5 = .ok (.ifCond .eq 5, 3) := by decide +kernel
theorem d_Mo_mix_8 : decode c_Mo_mix 8 = .ok (.iconst (-1), 1) := by decide +kernel
theorem d_Mo_mix_9 : decode c_Mo_mix 9 = .ok (.ireturn, 1) := by decide +kernel
theorem d_Mo_mix_10 : decode c_Mo_mix 10 = .ok (.iload_n 2, 1) := by decide +kernel
theorem d_Mo_mix_11 : decode c_Mo_mix 11 = .ok (.i2l, 1) := by decide +kernel
theorem d_Mo_mix_12 : decode c_Mo_mix 12 = .ok (.lconst 0, 1) := by decide +kernel
theorem d_Mo_mix_13 : decode c_Mo_mix 13 = .ok (.lconst 1, 1) := by decide +kernel
theorem d_Mo_mix_14 : decode c_Mo_mix 14 = .ok (.invokestatic 104, 3) := by decide +kernel
theorem d_Mo_mix_17 : decode c_Mo_mix 17 = .ok (.ifCond .ne 6, 3) := by decide +kernel
theorem d_Mo_mix_20 : decode c_Mo_mix 20 = .ok (.bipush (-2), 2) := by decide +kernel
theorem d_Mo_mix_22 : decode c_Mo_mix 22 = .ok (.ireturn, 1) := by decide +kernel
theorem d_Mo_mix_23 : decode c_Mo_mix 23 = .ok (.aload_n 0, 1) := by decide +kernel
theorem d_Mo_mix_24 : decode c_Mo_mix 24 = .ok (.invokevirtual 221, 3) := by decide +kernel
theorem d_Mo_mix_27 : decode c_Mo_mix 27 = .ok (.istore_n 3, 1) := by decide +kernel
theorem d_Mo_mix_28 : decode c_Mo_mix 28 = .ok (.bipush (-9), 2) := by decide +kernel
theorem d_Mo_mix_30 : decode c_Mo_mix 30 = .ok (.istore 4, 2) := by decide +kernel
theorem d_Mo_mix_32 : decode c_Mo_mix 32 = .ok (.iconst 1, 1) := by decide +kernel
theorem d_Mo_mix_33 : decode c_Mo_mix 33 = .ok (.istore 5, 2) := by decide +kernel
theorem d_Mo_mix_35 : decode c_Mo_mix 35 = .ok (.iload 5, 2) := by decide +kernel
theorem d_Mo_mix_37 : decode c_Mo_mix 37 = .ok (.iconst 1, 1) := by decide +kernel
theorem d_Mo_mix_38 : decode c_Mo_mix 38 = .ok (.aload_n 0, 1) := by decide +kernel
theorem d_Mo_mix_39 : decode c_Mo_mix 39 = .ok (.getfield 101, 3) := by decide +kernel
theorem d_Mo_mix_42 : decode c_Mo_mix 42 = .ok (.ishl, 1) := by decide +kernel
theorem d_Mo_mix_43 : decode c_Mo_mix 43 = .ok (.if_icmp .ge 75, 3) := by decide +kernel
theorem d_Mo_mix_46 : decode c_Mo_mix 46 = .ok (.iload 5, 2) := by decide +kernel
theorem d_Mo_mix_48 : decode c_Mo_mix 48 = .ok (.iload_n 3, 1) := by decide +kernel
theorem d_Mo_mix_49 : decode c_Mo_mix 49 = .ok (.iconst (-1), 1) := by decide +kernel
theorem d_Mo_mix_50 : decode c_Mo_mix 50 = .ok (.ixor, 1) := by decide +kernel
theorem d_Mo_mix_51 : decode c_Mo_mix 51 = .ok (.iand, 1) := by decide +kernel
theorem d_Mo_mix_52 : decode c_Mo_mix 52 = .ok (.ifCond .ne 32, 3) := by decide +kernel
theorem d_Mo_mix_55 : decode c_Mo_mix 55 = .ok (.aload_n 0, 1) := by decide +kernel
theorem d_Mo_mix_56 : decode c_Mo_mix 56 = .ok (.iload 5, 2) := by decide +kernel
theorem d_Mo_mix_58 : decode c_Mo_mix 58 = .ok (.invokevirtual 218, 3) := by decide +kernel
theorem d_Mo_mix_61 : decode c_Mo_mix 61 = .ok (.aload_n 0, 1) := by decide +kernel
theorem d_Mo_mix_62 : decode c_Mo_mix 62 = .ok (.getfield 31, 3) := by decide +kernel
theorem d_Mo_mix_65 : decode c_Mo_mix 65 = .ok (.iload_n 1, 1) := by decide +kernel
theorem d_Mo_mix_66 : decode c_Mo_mix 66 = .ok (.iaload, 1) := by decide +kernel
theorem d_Mo_mix_67 : decode c_Mo_mix 67 = .ok (.if_icmp .gt 17, 3) := by decide +kernel
theorem d_Mo_mix_70 : decode c_Mo_mix 70 = .ok (.aload_n 0, 1) := by decide +kernel
theorem d_Mo_mix_71 : decode c_Mo_mix 71 = .ok (.iload_n 1, 1) := by decide +kernel
theorem d_Mo_mix_72 : decode c_Mo_mix 72 = .ok (.iload 5, 2) := by decide +kernel
theorem d_Mo_mix_74 : decode c_Mo_mix 74 = .ok (.invokevirtual 193, 3) := by decide +kernel
theorem d_Mo_mix_77 : decode c_Mo_mix 77 = .ok (.ifCond .eq 7, 3) := by decide +kernel
theorem d_Mo_mix_80 : decode c_Mo_mix 80 = .ok (.iconst 1, 1) := by decide +kernel
theorem d_Mo_mix_81 : decode c_Mo_mix 81 = .ok (.goto 4, 3) := by decide +kernel
theorem d_Mo_mix_84 : decode c_Mo_mix 84 = .ok (.iconst 0, 1) := by decide +kernel
theorem d_Mo_mix_85 : decode c_Mo_mix 85 = .ok (.istore 6, 2) := by decide +kernel
theorem d_Mo_mix_87 : decode c_Mo_mix 87 = .ok (.iload 6, 2) := by decide +kernel
theorem d_Mo_mix_89 : decode c_Mo_mix 89 = .ok (.ifCond .eq 19, 3) := by decide +kernel
theorem d_Mo_mix_92 : decode c_Mo_mix 92 = .ok (.aload_n 0, 1) := by decide +kernel
theorem d_Mo_mix_93 : decode c_Mo_mix 93 = .ok (.iload 5, 2) := by decide +kernel
theorem d_Mo_mix_95 : decode c_Mo_mix 95 = .ok (.iload 4, 2) := by decide +kernel
theorem d_Mo_mix_97 : decode c_Mo_mix 97 = .ok (.invokevirtual 225, 3) := by decide +kernel
theorem d_Mo_mix_100 : decode c_Mo_mix 100 = .ok (.ifCond .eq 8, 3) := by decide +kernel
theorem d_Mo_mix_103 : decode c_Mo_mix 103 = .ok (.iload 5, 2) := by decide +kernel
theorem d_Mo_mix_105 : decode c_Mo_mix 105 = .ok (.goto 5, 3) := by decide +kernel
theorem d_Mo_mix_108 : decode c_Mo_mix 108 = .ok (.iload 4, 2) := by decide +kernel
theorem d_Mo_mix_110 : decode c_Mo_mix 110 = .ok (.istore 4, 2) := by decide +kernel
theorem d_Mo_mix_112 : decode c_Mo_mix 112 = .ok (.iinc 5 1, 3) := by decide +kernel
theorem d_Mo_mix_115 : decode c_Mo_mix 115 = .ok (.goto (-80), 3) := by decide +kernel
theorem d_Mo_mix_118 : decode c_Mo_mix 118 = .ok (.iload 4, 2) := by decide +kernel
theorem d_Mo_mix_120 : decode c_Mo_mix 120 = .ok (.ifCond .ge 8, 3) := by decide +kernel
theorem d_Mo_mix_123 : decode c_Mo_mix 123 = .ok (.bipush (-9), 2) := by decide +kernel
theorem d_Mo_mix_125 : decode c_Mo_mix 125 = .ok (.goto 18, 3) := by decide +kernel
theorem d_Mo_mix_128 : decode c_Mo_mix 128 = .ok (.iload_n 2, 1) := by decide +kernel
theorem d_Mo_mix_129 : decode c_Mo_mix 129 = .ok (.ifCond .ne 12, 3) := by decide +kernel
theorem d_Mo_mix_132 : decode c_Mo_mix 132 = .ok (.aload_n 0, 1) := by decide +kernel
theorem d_Mo_mix_133 : decode c_Mo_mix 133 = .ok (.iload 4, 2) := by decide +kernel
theorem d_Mo_mix_135 : decode c_Mo_mix 135 = .ok (.invokevirtual 218, 3) := by decide +kernel
theorem d_Mo_mix_138 : decode c_Mo_mix 138 = .ok (.goto 5, 3) := by decide +kernel
theorem d_Mo_mix_141 : decode c_Mo_mix 141 = .ok (.iload 4, 2) := by decide +kernel
theorem d_Mo_mix_143 : decode c_Mo_mix 143 = .ok (.ireturn, 1) := by decide +kernel
theorem C_Mo_mix_out {M : MM} {n : Nat} {B : JT} {x : Int32} (hB : MB M n B) (hx : rg x 0 ((n : Int) - 1) = false) {u : Int32} : AF y_Mo_mix c_Mo_mix 7 (some .int) 5 [vR 36, vI x, vI u] (M) (some (vI (-1))) (M) := by
  refine AF.of k_Mo_mix (lo := [some (vR 36), some (vI x), some (vI u), none, none, none, none]) rfl (Nat.le_of_ble_eq_true rfl) (fun X hX hR => ?_)
  refine v_aload_n (pc := 0) hX rfl d_Mo_mix_0 ?_
  refine v_iload_n (pc := 1) hX rfl d_Mo_mix_1 ?_
  refine f_callV (pc := 2) hX k_Mo_noDecider ki_Mo_noDecider kv_Mo_noDecider ml_Mo_176 (C_Mo_noDecider hB.1 hB.2.1) rfl rfl rfl rfl rfl (Nat.le_of_ble_eq_true rfl) (Nat.le_of_ble_eq_true rfl) (Nat.le_of_ble_eq_true rfl) d_Mo_mix_2 ?_
  rw [hx]
  refine f_ifeqB (pc := 5) (tgt := 10) hX d_Mo_mix_5 rfl (fun h5 => False.elim (absurd h5 (by decide))) (fun h5 => ?_)
  refine v_iconst (pc := 8) (v := (-1)) hX (by decide) d_Mo_mix_8 ?_
  exact f_iret (pc := 9) hX hR (rfl) (rfl) d_Mo_mix_9
theorem C_Mo_mix_bad {M : MM} {n nd b : Nat} {J B : JT} (hJ : MJ M n J) (hB : MB M nd B) (hb : b < nd) {u : Int32} (hu : rg u 0 1 = false) : AF y_Mo_mix c_Mo_mix 7 (some .int) 5 [vR 36, vI (i3 b), vI u] (M) (some (vI (-2))) (M) := by
  have h4 := hB.1
  refine AF.of k_Mo_mix (lo := [some (vR 36), some (vI (i3 b)), some (vI u), none, none, none, none]) rfl (Nat.le_of_ble_eq_true rfl) (fun X hX hR => ?_)
  refine v_aload_n (pc := 0) hX rfl d_Mo_mix_0 ?_
  refine v_iload_n (pc := 1) hX rfl d_Mo_mix_1 ?_
  refine f_callV (pc := 2) hX k_Mo_noDecider ki_Mo_noDecider kv_Mo_noDecider ml_Mo_176 (C_Mo_noDecider hB.1 hB.2.1) rfl rfl rfl rfl rfl (Nat.le_of_ble_eq_true rfl) (Nat.le_of_ble_eq_true rfl) (Nat.le_of_ble_eq_true rfl) d_Mo_mix_2 ?_
  rw [rg_i3 hb (by omega)]
  refine f_ifeqB (pc := 5) (tgt := 10) hX d_Mo_mix_5 rfl (fun h5 => ?_) (fun h5 => False.elim (absurd h5 (by decide)))
  refine v_iload_n (pc := 10) hX rfl d_Mo_mix_10 ?_
  refine v_i2l (pc := 11) hX d_Mo_mix_11 ?_
  refine v_lconst (pc := 12) (v := 0) hX (by decide) d_Mo_mix_12 ?_
  refine v_lconst (pc := 13) (v := 1) hX (by decide) d_Mo_mix_13 ?_
  refine f_callS (pc := 14) hX k_Mo_in ks_Mo_in ml_Mo_104 (C_Mo_in) rfl rfl rfl (Nat.le_of_ble_eq_true rfl) (Nat.le_of_ble_eq_true rfl) (Nat.le_of_ble_eq_true rfl) d_Mo_mix_14 ?_
  rw [rL_rg (L := 0) (H := 1) rfl rfl]
  refine f_ifneB (pc := 17) (tgt := 23) hX d_Mo_mix_17 rfl (fun h17 => False.elim (by rw [hu] at h17; cases h17)) (fun h17 => ?_)
  refine v_bipush (pc := 20) (v := (-2)) hX (by decide) d_Mo_mix_20 ?_
  exact f_iret (pc := 22) hX hR (rfl) (rfl) d_Mo_mix_22
set_option maxHeartbeats 4000000 in
theorem C_Mo_mix_ok {M : MM} {n nd b : Nat} {J B : JT} (hJ : MJ M n J) (hB : MB M nd B) (hb : b < nd) {u : Int32} (hP : PR n J) (hu : rg u 0 1 = true) : AF y_Mo_mix c_Mo_mix 7 (some .int) 5 [vR 36, vI (i3 b), vI u] (M) (some (vI (if (ch J (B b 0) (B b 1) (B b 2) n (stN J n) (2 ^ n - 1)) = 0 then -9 else if u = 0 then pcB J (ch J (B b 0) (B b 1) (B b 2) n (stN J n) (2 ^ n - 1)) n else i3 (ch J (B b 0) (B b 1) (B b 2) n (stN J n) (2 ^ n - 1))))) (M) := by
  have h6 := hJ.1
  have hM := hJ.2.1
  have hp := pow6 h6
  have h4 := hB.1
  have hst : stN J n < 64 := Nat.lt_of_lt_of_le (stN_lt J n) hp
  have hu2 := rg_true.mp hu
  refine AF.of k_Mo_mix (lo := [some (vR 36), some (vI (i3 b)), some (vI u), none, none, none, none]) rfl (Nat.le_of_ble_eq_true rfl) (fun X hX hR => ?_)
  refine v_aload_n (pc := 0) hX rfl d_Mo_mix_0 ?_
  refine v_iload_n (pc := 1) hX rfl d_Mo_mix_1 ?_
  refine f_callV (pc := 2) hX k_Mo_noDecider ki_Mo_noDecider kv_Mo_noDecider ml_Mo_176 (C_Mo_noDecider hB.1 hB.2.1) rfl rfl rfl rfl rfl (Nat.le_of_ble_eq_true rfl) (Nat.le_of_ble_eq_true rfl) (Nat.le_of_ble_eq_true rfl) d_Mo_mix_2 ?_
  rw [rg_i3 hb (by omega)]
  refine f_ifeqB (pc := 5) (tgt := 10) hX d_Mo_mix_5 rfl (fun h5 => ?_) (fun h5 => False.elim (absurd h5 (by decide)))
  refine v_iload_n (pc := 10) hX rfl d_Mo_mix_10 ?_
  refine v_i2l (pc := 11) hX d_Mo_mix_11 ?_
  refine v_lconst (pc := 12) (v := 0) hX (by decide) d_Mo_mix_12 ?_
  refine v_lconst (pc := 13) (v := 1) hX (by decide) d_Mo_mix_13 ?_
  refine f_callS (pc := 14) hX k_Mo_in ks_Mo_in ml_Mo_104 (C_Mo_in) rfl rfl rfl (Nat.le_of_ble_eq_true rfl) (Nat.le_of_ble_eq_true rfl) (Nat.le_of_ble_eq_true rfl) d_Mo_mix_14 ?_
  rw [rL_rg (L := 0) (H := 1) rfl rfl]
  refine f_ifneB (pc := 17) (tgt := 23) hX d_Mo_mix_17 rfl (fun h17 => ?_) (fun h17 => False.elim (by rw [hu] at h17; cases h17))
  refine v_aload_n (pc := 23) hX rfl d_Mo_mix_23 ?_
  refine f_callV (pc := 24) hX k_Mo_leftNow ki_Mo_leftNow kv_Mo_leftNow ml_Mo_221 (C_Mo_leftNow hJ) rfl rfl rfl rfl rfl (Nat.le_of_ble_eq_true rfl) (Nat.le_of_ble_eq_true rfl) (Nat.le_of_ble_eq_true rfl) d_Mo_mix_24 ?_
  refine v_istore_n (pc := 27) (lo' := [some (vR _), some (vI _), some (vI _), some (vI _), none, none, none]) hX (Nat.le_of_ble_eq_true rfl) rfl d_Mo_mix_27 ?_
  refine v_bipush (pc := 28) (v := (-9)) hX (by decide) d_Mo_mix_28 ?_
  refine v_istore (pc := 30) (lo' := [some (vR _), some (vI _), some (vI _), some (vI _), some (vI _), none, none]) hX (Nat.le_of_ble_eq_true rfl) rfl d_Mo_mix_30 ?_
  refine v_iconst (pc := 32) (v := 1) hX (by decide) d_Mo_mix_32 ?_
  refine v_istore (pc := 33) (lo' := [some (vR _), some (vI _), some (vI _), some (vI _), some (vI _), some (vI _), none]) hX (Nat.le_of_ble_eq_true rfl) rfl d_Mo_mix_33 ?_
  refine VW.cast (lo' := [some (vR 36), some (vI (i3 b)), some (vI u), some (vI (i3 (stN J n))), some (vI (en (ch J (B b 0) (B b 1) (B b 2) n (stN J n) 0))), some (vI (i3 (0 + 1))), none]) (st' := []) (G' := gM (M)) rfl rfl rfl ?_
  refine v_for (X := X) (head := 35) (2 ^ n - 1) (fun kk => [some (vR 36), some (vI (i3 b)), some (vI u), some (vI (i3 (stN J n))), some (vI (en (ch J (B b 0) (B b 1) (B b 2) n (stN J n) kk))), some (vI (i3 (kk + 1))), none]) (fun kk => M) (fun k hk ih35 => ?_) ?_
  · show VW X 35 [some (vR 36), some (vI (i3 b)), some (vI u), some (vI (i3 (stN J n))), some (vI (en (ch J (B b 0) (B b 1) (B b 2) n (stN J n) k))), some (vI (i3 (k + 1))), none] [] (gM (M))
    have hs : k + 1 < 64 := by omega
    have hcl := ch_le J (B b 0) (B b 1) (B b 2) n (stN J n) k
    have hc6 : ch J (B b 0) (B b 1) (B b 2) n (stN J n) k < 64 := by omega
    refine v_iload (pc := 35) hX rfl d_Mo_mix_35 ?_
    refine v_iconst (pc := 37) (v := 1) hX (by decide) d_Mo_mix_37 ?_
    refine v_aload_n (pc := 38) hX rfl d_Mo_mix_38 ?_
    refine g_getI (pc := 39) hX fl_Mo_101 rfl rfl d_Mo_mix_39 ?_
    rw [hM]
    refine v_ishl (pc := 42) hX d_Mo_mix_42 ?_
    rw [shl_i3 n (by omega)]
    refine v_icmp_ge (pc := 43) (tgt := 118) hX d_Mo_mix_43 rfl (fun h43 => False.elim (i3_ge_abs (k := k + 1) (n := 2 ^ n) (by omega) (by omega) h43)) (fun h43 => ?_)
    refine v_iload (pc := 46) hX rfl d_Mo_mix_46 ?_
    refine v_iload_n (pc := 48) hX rfl d_Mo_mix_48 ?_
    refine v_iconst (pc := 49) (v := (-1)) hX (by decide) d_Mo_mix_49 ?_
    refine v_ixor (pc := 50) hX d_Mo_mix_50 ?_
    refine v_iand (pc := 51) hX d_Mo_mix_51 ?_
    refine v_if_ne (pc := 52) (tgt := 84) hX d_Mo_mix_52 rfl (fun h52 => ?_) (fun h52 => ?_)
    · have a1 := sb_f hs hst h52
      have e : ch J (B b 0) (B b 1) (B b 2) n (stN J n) (k + 1) = ch J (B b 0) (B b 1) (B b 2) n (stN J n) k := if_neg (by simp [chC, a1])
      refine v_iconst (pc := 84) (v := 0) hX (by decide) d_Mo_mix_84 ?_
      refine v_istore (pc := 85) (lo' := [some (vR _), some (vI _), some (vI _), some (vI _), some (vI _), some (vI _), some (vI _)]) hX (Nat.le_of_ble_eq_true rfl) rfl d_Mo_mix_85 ?_
      refine v_iload (pc := 87) hX rfl d_Mo_mix_87 ?_
      refine v_if_eq (pc := 89) (tgt := 108) hX d_Mo_mix_89 rfl (fun h89 => ?_) (fun h89 => False.elim (by revert h89; decide))
      refine v_iload (pc := 108) hX rfl d_Mo_mix_108 ?_
      refine v_istore (pc := 110) (lo' := [some (vR _), some (vI _), some (vI _), some (vI _), some (vI _), some (vI _), some (vI _)]) hX (Nat.le_of_ble_eq_true rfl) rfl d_Mo_mix_110 ?_
      refine v_iinc (pc := 112) (lo' := [some (vR _), some (vI _), some (vI _), some (vI _), some (vI _), some (vI _), some (vI _)]) hX rfl rfl d_Mo_mix_112 ?_
      refine v_goto (pc := 115) (tgt := 35) hX d_Mo_mix_115 rfl ?_
      refine VW.fg [true, true, true, true, true, true, false] ?_
      exact VW.cast (by first | (rw [e, en_p (Nat.succ_ne_zero k), i3_succ (k + 1)]; rfl) | (rw [e, i3_succ (k + 1)]; rfl)) rfl rfl ih35
    · have a1 := sb_t hs hst h52
      refine v_aload_n (pc := 55) hX rfl d_Mo_mix_55 ?_
      refine v_iload (pc := 56) hX rfl d_Mo_mix_56 ?_
      refine f_callV (pc := 58) hX k_Mo_pricesOf ki_Mo_pricesOf kv_Mo_pricesOf ml_Mo_218 (C_Mo_pricesOf hJ (by omega)) rfl rfl rfl rfl rfl (Nat.le_of_ble_eq_true rfl) (Nat.le_of_ble_eq_true rfl) (Nat.le_of_ble_eq_true rfl) d_Mo_mix_58 ?_
      refine v_aload_n (pc := 61) hX rfl d_Mo_mix_61 ?_
      refine g_getR (pc := 62) hX fl_Mo_31 rfl rfl nf_36_10 d_Mo_mix_62 ?_
      refine v_iload_n (pc := 65) hX rfl d_Mo_mix_65 ?_
      refine g_iald (pc := 66) hX rfl (IX.of (n := 4) (by omega) (by decide)) d_Mo_mix_66 ?_
      rw [show M 44 b = B b 2 from hB.2.2.1 b hb 2 (by decide)]
      refine v_icmp_gt (pc := 67) (tgt := 84) hX d_Mo_mix_67 rfl (fun h67 => ?_) (fun h67 => ?_)
      · have a2 : ¬ pcB J (k + 1) n ≤ B b 2 := Int32.not_le.mpr h67
        have e : ch J (B b 0) (B b 1) (B b 2) n (stN J n) (k + 1) = ch J (B b 0) (B b 1) (B b 2) n (stN J n) k := if_neg (by simp [chC, a2])
        refine v_iconst (pc := 84) (v := 0) hX (by decide) d_Mo_mix_84 ?_
        refine v_istore (pc := 85) (lo' := [some (vR _), some (vI _), some (vI _), some (vI _), some (vI _), some (vI _), some (vI _)]) hX (Nat.le_of_ble_eq_true rfl) rfl d_Mo_mix_85 ?_
        refine v_iload (pc := 87) hX rfl d_Mo_mix_87 ?_
        refine v_if_eq (pc := 89) (tgt := 108) hX d_Mo_mix_89 rfl (fun h89 => ?_) (fun h89 => False.elim (by revert h89; decide))
        refine v_iload (pc := 108) hX rfl d_Mo_mix_108 ?_
        refine v_istore (pc := 110) (lo' := [some (vR _), some (vI _), some (vI _), some (vI _), some (vI _), some (vI _), some (vI _)]) hX (Nat.le_of_ble_eq_true rfl) rfl d_Mo_mix_110 ?_
        refine v_iinc (pc := 112) (lo' := [some (vR _), some (vI _), some (vI _), some (vI _), some (vI _), some (vI _), some (vI _)]) hX rfl rfl d_Mo_mix_112 ?_
        refine v_goto (pc := 115) (tgt := 35) hX d_Mo_mix_115 rfl ?_
        refine VW.fg [true, true, true, true, true, true, false] ?_
        exact VW.cast (by first | (rw [e, en_p (Nat.succ_ne_zero k), i3_succ (k + 1)]; rfl) | (rw [e, i3_succ (k + 1)]; rfl)) rfl rfl ih35
      · have a2 : pcB J (k + 1) n ≤ B b 2 := Int32.not_lt.mp h67
        refine v_aload_n (pc := 70) hX rfl d_Mo_mix_70 ?_
        refine v_iload_n (pc := 71) hX rfl d_Mo_mix_71 ?_
        refine v_iload (pc := 72) hX rfl d_Mo_mix_72 ?_
        refine f_callV (pc := 74) hX k_Mo_decides ki_Mo_decides kv_Mo_decides ml_Mo_193 (C_Mo_decides hJ hB hb (by omega) (by omega)) rfl rfl rfl rfl rfl (Nat.le_of_ble_eq_true rfl) (Nat.le_of_ble_eq_true rfl) (Nat.le_of_ble_eq_true rfl) d_Mo_mix_74 ?_
        refine f_ifeqB (pc := 77) (tgt := 84) hX d_Mo_mix_77 rfl (fun h77 => ?_) (fun h77 => ?_)
        · have e : ch J (B b 0) (B b 1) (B b 2) n (stN J n) (k + 1) = ch J (B b 0) (B b 1) (B b 2) n (stN J n) k := if_neg (by simp [chC, h77])
          refine v_iconst (pc := 84) (v := 0) hX (by decide) d_Mo_mix_84 ?_
          refine v_istore (pc := 85) (lo' := [some (vR _), some (vI _), some (vI _), some (vI _), some (vI _), some (vI _), some (vI _)]) hX (Nat.le_of_ble_eq_true rfl) rfl d_Mo_mix_85 ?_
          refine v_iload (pc := 87) hX rfl d_Mo_mix_87 ?_
          refine v_if_eq (pc := 89) (tgt := 108) hX d_Mo_mix_89 rfl (fun h89 => ?_) (fun h89 => False.elim (by revert h89; decide))
          refine v_iload (pc := 108) hX rfl d_Mo_mix_108 ?_
          refine v_istore (pc := 110) (lo' := [some (vR _), some (vI _), some (vI _), some (vI _), some (vI _), some (vI _), some (vI _)]) hX (Nat.le_of_ble_eq_true rfl) rfl d_Mo_mix_110 ?_
          refine v_iinc (pc := 112) (lo' := [some (vR _), some (vI _), some (vI _), some (vI _), some (vI _), some (vI _), some (vI _)]) hX rfl rfl d_Mo_mix_112 ?_
          refine v_goto (pc := 115) (tgt := 35) hX d_Mo_mix_115 rfl ?_
          refine VW.fg [true, true, true, true, true, true, false] ?_
          exact VW.cast (by first | (rw [e, en_p (Nat.succ_ne_zero k), i3_succ (k + 1)]; rfl) | (rw [e, i3_succ (k + 1)]; rfl)) rfl rfl ih35
        · refine v_iconst (pc := 80) (v := 1) hX (by decide) d_Mo_mix_80 ?_
          refine v_goto (pc := 81) (tgt := 85) hX d_Mo_mix_81 rfl ?_
          refine v_istore (pc := 85) (lo' := [some (vR _), some (vI _), some (vI _), some (vI _), some (vI _), some (vI _), some (vI _)]) hX (Nat.le_of_ble_eq_true rfl) rfl d_Mo_mix_85 ?_
          refine v_iload (pc := 87) hX rfl d_Mo_mix_87 ?_
          refine v_if_eq (pc := 89) (tgt := 108) hX d_Mo_mix_89 rfl (fun h89 => False.elim (by revert h89; decide)) (fun h89 => ?_)
          refine v_aload_n (pc := 92) hX rfl d_Mo_mix_92 ?_
          refine v_iload (pc := 93) hX rfl d_Mo_mix_93 ?_
          refine v_iload (pc := 95) hX rfl d_Mo_mix_95 ?_
          refine f_callV (pc := 97) hX k_Mo_isRather ki_Mo_isRather kv_Mo_isRather ml_Mo_225 (C_Mo_isRather hJ hP hs hc6) rfl rfl rfl rfl rfl (Nat.le_of_ble_eq_true rfl) (Nat.le_of_ble_eq_true rfl) (Nat.le_of_ble_eq_true rfl) d_Mo_mix_97 ?_
          refine f_ifeqB (pc := 100) (tgt := 108) hX d_Mo_mix_100 rfl (fun h100 => ?_) (fun h100 => ?_)
          · have h100' := h100
            unfold rtB at h100'
            have e : ch J (B b 0) (B b 1) (B b 2) n (stN J n) (k + 1) = ch J (B b 0) (B b 1) (B b 2) n (stN J n) k := if_neg (by unfold chC; rw [h100']; simp)
            refine v_iload (pc := 108) hX rfl d_Mo_mix_108 ?_
            refine v_istore (pc := 110) (lo' := [some (vR _), some (vI _), some (vI _), some (vI _), some (vI _), some (vI _), some (vI _)]) hX (Nat.le_of_ble_eq_true rfl) rfl d_Mo_mix_110 ?_
            refine v_iinc (pc := 112) (lo' := [some (vR _), some (vI _), some (vI _), some (vI _), some (vI _), some (vI _), some (vI _)]) hX rfl rfl d_Mo_mix_112 ?_
            refine v_goto (pc := 115) (tgt := 35) hX d_Mo_mix_115 rfl ?_
            refine VW.fg [true, true, true, true, true, true, false] ?_
            exact VW.cast (by first | (rw [e, en_p (Nat.succ_ne_zero k), i3_succ (k + 1)]; rfl) | (rw [e, i3_succ (k + 1)]; rfl)) rfl rfl ih35
          · have h100' := h100
            unfold rtB at h100'
            have e : ch J (B b 0) (B b 1) (B b 2) n (stN J n) (k + 1) = k + 1 := if_pos (by unfold chC; rw [h100', a1, h77, decide_eq_true a2]; rfl)
            refine v_iload (pc := 103) hX rfl d_Mo_mix_103 ?_
            refine v_goto (pc := 105) (tgt := 110) hX d_Mo_mix_105 rfl ?_
            refine v_istore (pc := 110) (lo' := [some (vR _), some (vI _), some (vI _), some (vI _), some (vI _), some (vI _), some (vI _)]) hX (Nat.le_of_ble_eq_true rfl) rfl d_Mo_mix_110 ?_
            refine v_iinc (pc := 112) (lo' := [some (vR _), some (vI _), some (vI _), some (vI _), some (vI _), some (vI _), some (vI _)]) hX rfl rfl d_Mo_mix_112 ?_
            refine v_goto (pc := 115) (tgt := 35) hX d_Mo_mix_115 rfl ?_
            refine VW.fg [true, true, true, true, true, true, false] ?_
            exact VW.cast (by first | (rw [e, en_p (Nat.succ_ne_zero k), i3_succ (k + 1)]; rfl) | (rw [e, i3_succ (k + 1)]; rfl)) rfl rfl ih35
  · show VW X 35 [some (vR 36), some (vI (i3 b)), some (vI u), some (vI (i3 (stN J n))), some (vI (en (ch J (B b 0) (B b 1) (B b 2) n (stN J n) (2 ^ n - 1)))), some (vI (i3 ((2 ^ n - 1) + 1))), none] [] (gM (M))
    have hcl := ch_le J (B b 0) (B b 1) (B b 2) n (stN J n) (2 ^ n - 1)
    have hc6 : (ch J (B b 0) (B b 1) (B b 2) n (stN J n) (2 ^ n - 1)) < 64 := by omega
    refine v_iload (pc := 35) hX rfl d_Mo_mix_35 ?_
    refine v_iconst (pc := 37) (v := 1) hX (by decide) d_Mo_mix_37 ?_
    refine v_aload_n (pc := 38) hX rfl d_Mo_mix_38 ?_
    refine g_getI (pc := 39) hX fl_Mo_101 rfl rfl d_Mo_mix_39 ?_
    rw [hM]
    refine v_ishl (pc := 42) hX d_Mo_mix_42 ?_
    rw [shl_i3 n (by omega)]
    refine v_icmp_ge (pc := 43) (tgt := 118) hX d_Mo_mix_43 rfl (fun h43 => ?_) (fun h43 => False.elim (absurd set_end h43))
    refine v_iload (pc := 118) hX rfl d_Mo_mix_118 ?_
    refine v_if_ge (pc := 120) (tgt := 128) hX d_Mo_mix_120 rfl (fun h120 => ?_) (fun h120 => ?_)
    · have e0 : ¬ (ch J (B b 0) (B b 1) (B b 2) n (stN J n) (2 ^ n - 1)) = 0 := fun w => by rw [w] at h120; exact absurd h120 (by decide)
      refine v_iload_n (pc := 128) hX rfl d_Mo_mix_128 ?_
      refine v_if_ne (pc := 129) (tgt := 141) hX d_Mo_mix_129 rfl (fun h129 => ?_) (fun h129 => ?_)
      · refine v_iload (pc := 141) hX rfl d_Mo_mix_141 ?_
        exact f_iret (pc := 143) hX hR (by first | (rw [if_pos e0]) | (rw [if_neg e0, if_pos (by simpa using h129)]) | (rw [if_neg e0, if_neg h129, en_p e0])) (rfl) d_Mo_mix_143
      · refine v_aload_n (pc := 132) hX rfl d_Mo_mix_132 ?_
        refine v_iload (pc := 133) hX rfl d_Mo_mix_133 ?_
        rw [en_p e0]
        refine f_callV (pc := 135) hX k_Mo_pricesOf ki_Mo_pricesOf kv_Mo_pricesOf ml_Mo_218 (C_Mo_pricesOf hJ hc6) rfl rfl rfl rfl rfl (Nat.le_of_ble_eq_true rfl) (Nat.le_of_ble_eq_true rfl) (Nat.le_of_ble_eq_true rfl) d_Mo_mix_135 ?_
        refine v_goto (pc := 138) (tgt := 143) hX d_Mo_mix_138 rfl ?_
        exact f_iret (pc := 143) hX hR (by first | (rw [if_pos e0]) | (rw [if_neg e0, if_pos (by simpa using h129)]) | (rw [if_neg e0, if_neg h129, en_p e0])) (rfl) d_Mo_mix_143
    · have e0 : (ch J (B b 0) (B b 1) (B b 2) n (stN J n) (2 ^ n - 1)) = 0 := by
        by_cases w : (ch J (B b 0) (B b 1) (B b 2) n (stN J n) (2 ^ n - 1)) = 0
        · exact w
        · exact absurd (by rw [en_p w]; exact (i3_le (a := 0) (by decide) (by omega)).mpr (Nat.zero_le _)) h120
      refine v_bipush (pc := 123) (v := (-9)) hX (by decide) d_Mo_mix_123 ?_
      refine v_goto (pc := 125) (tgt := 143) hX d_Mo_mix_125 rfl ?_
      exact f_iret (pc := 143) hX hR (by first | (rw [if_pos e0]) | (rw [if_neg e0, if_pos (by simpa using h129)]) | (rw [if_neg e0, if_neg h129, en_p e0])) (rfl) d_Mo_mix_143
theorem allB_f {f : Nat → Bool} {k : Nat} (h : allB f k = false) : allB f (k + 1) = false := by
  show (allB f k && f k) = false
  rw [h]; rfl
theorem allB_f2 {f : Nat → Bool} {k : Nat} (h : f k = false) : allB f (k + 1) = false := by
  show (allB f k && f k) = false
  rw [h]; simp
theorem allB_congr {f g : Nat → Bool} : ∀ n, (∀ i, i < n → f i = g i) → allB f n = allB g n
  | 0, _ => rfl
  | n + 1, h => by
    show (allB f n && f n) = (allB g n && g n)
    rw [allB_congr n (fun i hi => h i (by omega)), h n (by omega)]
theorem d_Mo_areLike_0 : decode c_Mo_areLike 0 = .ok (.iconst 1, 1) := by decide +kernel
theorem d_Mo_areLike_1 : decode c_Mo_areLike 1 = .ok (.istore_n 3, 1) := by decide +kernel
theorem d_Mo_areLike_2 : decode c_Mo_areLike 2 = .ok (.iconst 0, 1) := by decide +kernel
theorem d_Mo_areLike_3 : decode c_Mo_areLike 3 = .ok (.istore 4, 2) := by decide +kernel
theorem d_Mo_areLike_5 : decode c_Mo_areLike 5 = .ok (.iload 4, 2) := by decide +kernel
theorem d_Mo_areLike_7 : decode c_Mo_areLike 7 = .ok (.bipush 10, 2) := by decide +kernel
theorem d_Mo_areLike_9 : decode c_Mo_areLike 9 = .ok (.if_icmp .ge 36, 3) := by decide +kernel
theorem d_Mo_areLike_12 : decode c_Mo_areLike 12 = .ok (.iload_n 3, 1) := by decide +kernel
theorem d_Mo_areLike_13 : decode c_Mo_areLike 13 = .ok (.ifCond .eq 24, 3) := by decide +kernel
theorem d_Mo_areLike_16 : decode c_Mo_areLike 16 = .ok (.aload_n 0, 1) := by decide +kernel
theorem d_Mo_areLike_17 : decode c_Mo_areLike 17 = .ok (.iload_n 1, 1) := by decide +kernel
theorem d_Mo_areLike_18 : decode c_Mo_areLike 18 = .ok (.iload 4, 2) := by decide +kernel
theorem d_Mo_areLike_20 : decode c_Mo_areLike 20 = .ok (.invokevirtual 190, 3) := by decide +kernel
theorem d_Mo_areLike_23 : decode c_Mo_areLike 23 = .ok (.aload_n 0, 1) := by decide +kernel
theorem d_Mo_areLike_24 : decode c_Mo_areLike 24 = .ok (.iload_n 2, 1) := by decide +kernel
theorem d_Mo_areLike_25 : decode c_Mo_areLike 25 = .ok (.iload 4, 2) := by decide +kernel
theorem d_Mo_areLike_27 : decode c_Mo_areLike 27 = .ok (.invokevirtual 167, 3) := by decide +kernel
theorem d_Mo_areLike_30 : decode c_Mo_areLike 30 = .ok (.if_icmp .ne 7, 3) := by decide +kernel
theorem d_Mo_areLike_33 : decode c_Mo_areLike 33 = .ok (.iconst 1, 1) := by decide +kernel
theorem d_Mo_areLike_34 : decode c_Mo_areLike 34 = .ok (.goto 4, 3) := by decide +kernel
theorem d_Mo_areLike_37 : decode c_Mo_areLike 37 = .ok (.iconst 0, 1) := by decide +kernel
theorem d_Mo_areLike_38 : decode c_Mo_areLike 38 = .ok (.istore_n 3, 1) := by decide +kernel
theorem d_Mo_areLike_39 : decode c_Mo_areLike 39 = .ok (.iinc 4 1, 3) := by decide +kernel
theorem d_Mo_areLike_42 : decode c_Mo_areLike 42 = .ok (.goto (-37), 3) := by decide +kernel
theorem d_Mo_areLike_45 : decode c_Mo_areLike 45 = .ok (.iload_n 3, 1) := by decide +kernel
theorem d_Mo_areLike_46 : decode c_Mo_areLike 46 = .ok (.ireturn, 1) := by decide +kernel
theorem C_Mo_areLike {M : MM} {n s j : Nat} {J : JT} (hJ : MJ M n J) (hs0 : 0 < s) (hs : s < 2 ^ n) (hj : j < n) : AF y_Mo_areLike c_Mo_areLike 5 (some .boolean) 4 [vR 36, vI (i3 s), vI (i3 j)] (M) (some (vI (bI (smB J n s (2 ^ j))))) (M) := by
  refine AF.of k_Mo_areLike (lo := [some (vR 36), some (vI (i3 s)), some (vI (i3 j)), none, none]) rfl (Nat.le_of_ble_eq_true rfl) (fun X hX hR => ?_)
  refine v_iconst (pc := 0) (v := 1) hX (by decide) d_Mo_areLike_0 ?_
  refine v_istore_n (pc := 1) (lo' := [some (vR _), some (vI _), some (vI _), some (vI _), none]) hX (Nat.le_of_ble_eq_true rfl) rfl d_Mo_areLike_1 ?_
  refine v_iconst (pc := 2) (v := 0) hX (by decide) d_Mo_areLike_2 ?_
  refine v_istore (pc := 3) (lo' := [some (vR _), some (vI _), some (vI _), some (vI _), some (vI _)]) hX (Nat.le_of_ble_eq_true rfl) rfl d_Mo_areLike_3 ?_
  refine VW.cast (lo' := [some (vR 36), some (vI (i3 s)), some (vI (i3 j)), some (vI (bI (allB (fun t => decide (blN J n s (i3 t) = mk J j (i3 t))) 0))), some (vI (i3 0))]) (st' := []) (G' := gM (M)) rfl rfl rfl ?_
  refine v_for (X := X) (head := 5) (10) (fun kk => [some (vR 36), some (vI (i3 s)), some (vI (i3 j)), some (vI (bI (allB (fun t => decide (blN J n s (i3 t) = mk J j (i3 t))) kk))), some (vI (i3 kk))]) (fun kk => M) (fun k hk ih5 => ?_) ?_
  · show VW X 5 [some (vR 36), some (vI (i3 s)), some (vI (i3 j)), some (vI (bI (allB (fun t => decide (blN J n s (i3 t) = mk J j (i3 t))) k))), some (vI (i3 k))] [] (gM (M))
    refine v_iload (pc := 5) hX rfl d_Mo_areLike_5 ?_
    refine v_bipush (pc := 7) (v := 10) hX (by decide) d_Mo_areLike_7 ?_
    refine v_icmp_ge (pc := 9) (tgt := 45) hX d_Mo_areLike_9 rfl (fun h9 => False.elim (i3_ge_abs hk (by decide) h9)) (fun h9 => ?_)
    refine v_iload_n (pc := 12) hX rfl d_Mo_areLike_12 ?_
    refine f_ifeqB (pc := 13) (tgt := 37) hX d_Mo_areLike_13 rfl (fun h13 => ?_) (fun h13 => ?_)
    · have e : allB (fun t => decide (blN J n s (i3 t) = mk J j (i3 t))) (k + 1) = false := allB_f h13
      refine v_iconst (pc := 37) (v := 0) hX (by decide) d_Mo_areLike_37 ?_
      refine v_istore_n (pc := 38) (lo' := [some (vR _), some (vI _), some (vI _), some (vI _), some (vI _)]) hX (Nat.le_of_ble_eq_true rfl) rfl d_Mo_areLike_38 ?_
      refine v_iinc (pc := 39) (lo' := [some (vR _), some (vI _), some (vI _), some (vI _), some (vI _)]) hX rfl rfl d_Mo_areLike_39 ?_
      refine v_goto (pc := 42) (tgt := 5) hX d_Mo_areLike_42 rfl ?_
      exact VW.cast (by rw [e, i3_succ]; rfl) rfl rfl ih5
    · refine v_aload_n (pc := 16) hX rfl d_Mo_areLike_16 ?_
      refine v_iload_n (pc := 17) hX rfl d_Mo_areLike_17 ?_
      refine v_iload (pc := 18) hX rfl d_Mo_areLike_18 ?_
      refine f_callV (pc := 20) hX k_Mo_blendOf ki_Mo_blendOf kv_Mo_blendOf ml_Mo_190 (C_Mo_blendOf hJ (by omega) (by omega) (i3_nn (by omega))) rfl rfl rfl rfl rfl (Nat.le_of_ble_eq_true rfl) (Nat.le_of_ble_eq_true rfl) (Nat.le_of_ble_eq_true rfl) d_Mo_areLike_20 ?_
      refine v_aload_n (pc := 23) hX rfl d_Mo_areLike_23 ?_
      refine v_iload_n (pc := 24) hX rfl d_Mo_areLike_24 ?_
      refine v_iload (pc := 25) hX rfl d_Mo_areLike_25 ?_
      refine f_callV (pc := 27) hX k_Mo_markOf ki_Mo_markOf kv_Mo_markOf ml_Mo_167 (C_Mo_markOf hJ (by assumption) (i3_nn (by omega))) rfl rfl rfl rfl rfl (Nat.le_of_ble_eq_true rfl) (Nat.le_of_ble_eq_true rfl) (Nat.le_of_ble_eq_true rfl) d_Mo_areLike_27 ?_
      refine v_icmp_ne (pc := 30) (tgt := 37) hX d_Mo_areLike_30 rfl (fun h30 => ?_) (fun h30 => ?_)
      · have e : allB (fun t => decide (blN J n s (i3 t) = mk J j (i3 t))) (k + 1) = false := allB_f2 (decide_eq_false h30)
        refine v_iconst (pc := 37) (v := 0) hX (by decide) d_Mo_areLike_37 ?_
        refine v_istore_n (pc := 38) (lo' := [some (vR _), some (vI _), some (vI _), some (vI _), some (vI _)]) hX (Nat.le_of_ble_eq_true rfl) rfl d_Mo_areLike_38 ?_
        refine v_iinc (pc := 39) (lo' := [some (vR _), some (vI _), some (vI _), some (vI _), some (vI _)]) hX rfl rfl d_Mo_areLike_39 ?_
        refine v_goto (pc := 42) (tgt := 5) hX d_Mo_areLike_42 rfl ?_
        exact VW.cast (by rw [e, i3_succ]; rfl) rfl rfl ih5
      · have e : allB (fun t => decide (blN J n s (i3 t) = mk J j (i3 t))) (k + 1) = true := allB_s h13 (decide_eq_true (by simpa using h30))
        refine v_iconst (pc := 33) (v := 1) hX (by decide) d_Mo_areLike_33 ?_
        refine v_goto (pc := 34) (tgt := 38) hX d_Mo_areLike_34 rfl ?_
        refine v_istore_n (pc := 38) (lo' := [some (vR _), some (vI _), some (vI _), some (vI _), some (vI _)]) hX (Nat.le_of_ble_eq_true rfl) rfl d_Mo_areLike_38 ?_
        refine v_iinc (pc := 39) (lo' := [some (vR _), some (vI _), some (vI _), some (vI _), some (vI _)]) hX rfl rfl d_Mo_areLike_39 ?_
        refine v_goto (pc := 42) (tgt := 5) hX d_Mo_areLike_42 rfl ?_
        exact VW.cast (by rw [e, i3_succ]; rfl) rfl rfl ih5
  · show VW X 5 [some (vR 36), some (vI (i3 s)), some (vI (i3 j)), some (vI (bI (allB (fun t => decide (blN J n s (i3 t) = mk J j (i3 t))) (10)))), some (vI (i3 (10)))] [] (gM (M))
    refine v_iload (pc := 5) hX rfl d_Mo_areLike_5 ?_
    refine v_bipush (pc := 7) (v := 10) hX (by decide) d_Mo_areLike_7 ?_
    refine v_icmp_ge (pc := 9) (tgt := 45) hX d_Mo_areLike_9 rfl (fun h9 => ?_) (fun h9 => False.elim (by revert h9; decide))
    refine v_iload_n (pc := 45) hX rfl d_Mo_areLike_45 ?_
    exact f_zret (pc := 46) hX hR (congrArg bI (allB_congr 10 (fun t _ => by rw [bl_one hJ.1 hj]))) (rfl) d_Mo_areLike_46
theorem d_Mo_like_0 : decode c_Mo_like 0 = .ok (.aload_n 0, 1) := by decide +kernel
theorem d_Mo_like_1 : decode c_Mo_like 1 = .ok (.iload_n 1, 1) := by decide +kernel
theorem d_Mo_like_2 : decode c_Mo_like 2 = .ok (.invokevirtual 170, 3) := by decide +kernel
theorem d_Mo_like_5 : decode c_Mo_like 5 = .ok (.ifCond .eq 5, 3) := by decide +kernel
theorem d_Mo_like_8 : decode c_Mo_like 8 = .ok (.iconst (-1), 1) := by decide +kernel
theorem d_Mo_like_9 : decode c_Mo_like 9 = .ok (.ireturn, 1) := by decide +kernel
theorem d_Mo_like_10 : decode c_Mo_like 10 = .ok (.bipush (-9), 2) := by decide +kernel
theorem d_Mo_like_12 : decode c_Mo_like 12 = .ok (.istore_n 2, 1) := by decide +kernel
theorem d_Mo_like_13 : decode c_Mo_like 13 = .ok (.iconst 1, 1) := by decide +kernel
theorem d_Mo_like_14 : decode c_Mo_like 14 = .ok (.istore_n 3, 1) := by decide +kernel
theorem d_Mo_like_15 : decode c_Mo_like 15 = .ok (.iload_n 3, 1) := by decide +kernel
theorem d_Mo_like_16 : decode c_Mo_like 16 = .ok (.iconst 1, 1) := by decide +kernel
theorem d_Mo_like_17 : decode c_Mo_like 17 = .ok (.aload_n 0, 1) := by decide +kernel
theorem d_Mo_like_18 : decode c_Mo_like 18 = .ok (.getfield 101, 3) := by decide +kernel
theorem d_Mo_like_21 : decode c_Mo_like 21 = .ok (.ishl, 1) := by decide +kernel
theorem d_Mo_like_22 : decode c_Mo_like 22 = .ok (.if_icmp .ge 59, 3) := by decide +kernel
theorem d_Mo_like_25 : decode c_Mo_like 25 = .ok (.iload_n 2, 1) := by decide +kernel
theorem d_Mo_like_26 : decode c_Mo_like 26 = .ok (.ifCond .lt 14, 3) := by decide +kernel
theorem d_Mo_like_29 : decode c_Mo_like 29 = .ok (.iload_n 3, 1) := by decide +kernel
theorem d_Mo_like_30 : decode c_Mo_like 30 = .ok (.invokestatic 184, 3) := by decide +kernel
theorem d_Mo_like_33 : decode c_Mo_like 33 = .ok (.iload_n 2, 1) := by decide +kernel
theorem d_Mo_like_34 : decode c_Mo_like 34 = .ok (.invokestatic 184, 3) := by decide +kernel
theorem d_Mo_like_37 : decode c_Mo_like 37 = .ok (.if_icmp .ge 7, 3) := by decide +kernel
theorem d_Mo_like_40 : decode c_Mo_like 40 = .ok (.iconst 1, 1) := by decide +kernel
theorem d_Mo_like_41 : decode c_Mo_like 41 = .ok (.goto 4, 3) := by decide +kernel
theorem d_Mo_like_44 : decode c_Mo_like 44 = .ok (.iconst 0, 1) := by decide +kernel
theorem d_Mo_like_45 : decode c_Mo_like 45 = .ok (.istore 4, 2) := by decide +kernel
theorem d_Mo_like_47 : decode c_Mo_like 47 = .ok (.iload 4, 2) := by decide +kernel
theorem d_Mo_like_49 : decode c_Mo_like 49 = .ok (.ifCond .eq 24, 3) := by decide +kernel
theorem d_Mo_like_52 : decode c_Mo_like 52 = .ok (.iload_n 3, 1) := by decide +kernel
theorem d_Mo_like_53 : decode c_Mo_like 53 = .ok (.iload_n 1, 1) := by decide +kernel
theorem d_Mo_like_54 : decode c_Mo_like 54 = .ok (.invokestatic 181, 3) := by decide +kernel
theorem d_Mo_like_57 : decode c_Mo_like 57 = .ok (.ifCond .ne 16, 3) := by decide +kernel
theorem d_Mo_like_60 : decode c_Mo_like 60 = .ok (.aload_n 0, 1) := by decide +kernel
theorem d_Mo_like_61 : decode c_Mo_like 61 = .ok (.iload_n 3, 1) := by decide +kernel
theorem d_Mo_like_62 : decode c_Mo_like 62 = .ok (.iload_n 1, 1) := by decide +kernel
theorem d_Mo_like_63 : decode c_Mo_like 63 = .ok (.invokevirtual 228, 3) := by decide +kernel
theorem d_Mo_like_66 : decode c_Mo_like 66 = .ok (.ifCond .eq 7, 3) := by decide +kernel
theorem d_Mo_like_69 : decode c_Mo_like 69 = .ok (.iload_n 3, 1) := by decide +kernel
theorem d_Mo_like_70 : decode c_Mo_like 70 = .ok (.goto 4, 3) := by decide +kernel
theorem d_Mo_like_73 : decode c_Mo_like 73 = .ok (.iload_n 2, 1) := by decide +kernel
theorem d_Mo_like_74 : decode c_Mo_like 74 = .ok (.istore_n 2, 1) := by decide +kernel
theorem d_Mo_like_75 : decode c_Mo_like 75 = .ok (.iinc 3 1, 3) := by decide +kernel
theorem d_Mo_like_78 : decode c_Mo_like 78 = .ok (.goto (-63), 3) := by decide +kernel
theorem d_Mo_like_81 : decode c_Mo_like 81 = .ok (.iload_n 2, 1) := by decide +kernel
theorem d_Mo_like_82 : decode c_Mo_like 82 = .ok (.ireturn, 1) := by decide +kernel
theorem C_Mo_like_out {M : MM} {n : Nat} {J : JT} {x : Int32} (hJ : MJ M n J) (hx : rg x 0 ((n : Int) - 1) = false) : AF y_Mo_like c_Mo_like 5 (some .int) 5 [vR 36, vI x] (M) (some (vI (-1))) (M) := by
  refine AF.of k_Mo_like (lo := [some (vR 36), some (vI x), none, none, none]) rfl (Nat.le_of_ble_eq_true rfl) (fun X hX hR => ?_)
  refine v_aload_n (pc := 0) hX rfl d_Mo_like_0 ?_
  refine v_iload_n (pc := 1) hX rfl d_Mo_like_1 ?_
  refine f_callV (pc := 2) hX k_Mo_noJar ki_Mo_noJar kv_Mo_noJar ml_Mo_170 (C_Mo_noJar hJ.1 hJ.2.1) rfl rfl rfl rfl rfl (Nat.le_of_ble_eq_true rfl) (Nat.le_of_ble_eq_true rfl) (Nat.le_of_ble_eq_true rfl) d_Mo_like_2 ?_
  rw [hx]
  refine f_ifeqB (pc := 5) (tgt := 10) hX d_Mo_like_5 rfl (fun h5 => False.elim (absurd h5 (by decide))) (fun h5 => ?_)
  refine v_iconst (pc := 8) (v := (-1)) hX (by decide) d_Mo_like_8 ?_
  exact f_iret (pc := 9) hX hR (rfl) (rfl) d_Mo_like_9
set_option maxHeartbeats 4000000 in
theorem C_Mo_like_in {M : MM} {n j : Nat} {J : JT} (hJ : MJ M n J) (hj : j < n) : AF y_Mo_like c_Mo_like 5 (some .int) 5 [vR 36, vI (i3 j)] (M) (some (vI (en (al J n j (2 ^ n - 1))))) (M) := by
  have h6 := hJ.1
  have hM := hJ.2.1
  have hp := pow6 h6
  refine AF.of k_Mo_like (lo := [some (vR 36), some (vI (i3 j)), none, none, none]) rfl (Nat.le_of_ble_eq_true rfl) (fun X hX hR => ?_)
  refine v_aload_n (pc := 0) hX rfl d_Mo_like_0 ?_
  refine v_iload_n (pc := 1) hX rfl d_Mo_like_1 ?_
  refine f_callV (pc := 2) hX k_Mo_noJar ki_Mo_noJar kv_Mo_noJar ml_Mo_170 (C_Mo_noJar hJ.1 hJ.2.1) rfl rfl rfl rfl rfl (Nat.le_of_ble_eq_true rfl) (Nat.le_of_ble_eq_true rfl) (Nat.le_of_ble_eq_true rfl) d_Mo_like_2 ?_
  rw [rg_i3 hj (by omega)]
  refine f_ifeqB (pc := 5) (tgt := 10) hX d_Mo_like_5 rfl (fun h5 => ?_) (fun h5 => False.elim (absurd h5 (by decide)))
  refine v_bipush (pc := 10) (v := (-9)) hX (by decide) d_Mo_like_10 ?_
  refine v_istore_n (pc := 12) (lo' := [some (vR _), some (vI _), some (vI _), none, none]) hX (Nat.le_of_ble_eq_true rfl) rfl d_Mo_like_12 ?_
  refine v_iconst (pc := 13) (v := 1) hX (by decide) d_Mo_like_13 ?_
  refine v_istore_n (pc := 14) (lo' := [some (vR _), some (vI _), some (vI _), some (vI _), none]) hX (Nat.le_of_ble_eq_true rfl) rfl d_Mo_like_14 ?_
  refine VW.cast (lo' := [some (vR 36), some (vI (i3 j)), some (vI (en (al J n j 0))), some (vI (i3 (0 + 1))), none]) (st' := []) (G' := gM (M)) rfl rfl rfl ?_
  refine v_for (X := X) (head := 15) (2 ^ n - 1) (fun kk => [some (vR 36), some (vI (i3 j)), some (vI (en (al J n j kk))), some (vI (i3 (kk + 1))), none]) (fun kk => M) (fun k hk ih15 => ?_) ?_
  · show VW X 15 [some (vR 36), some (vI (i3 j)), some (vI (en (al J n j k))), some (vI (i3 (k + 1))), none] [] (gM (M))
    have hs : k + 1 < 64 := by omega
    have hcl := al_le J n j k
    have hc6 : al J n j k < 64 := by omega
    refine v_iload_n (pc := 15) hX rfl d_Mo_like_15 ?_
    refine v_iconst (pc := 16) (v := 1) hX (by decide) d_Mo_like_16 ?_
    refine v_aload_n (pc := 17) hX rfl d_Mo_like_17 ?_
    refine g_getI (pc := 18) hX fl_Mo_101 rfl rfl d_Mo_like_18 ?_
    rw [hM]
    refine v_ishl (pc := 21) hX d_Mo_like_21 ?_
    rw [shl_i3 n (by omega)]
    refine v_icmp_ge (pc := 22) (tgt := 81) hX d_Mo_like_22 rfl (fun h22 => False.elim (i3_ge_abs (k := k + 1) (n := 2 ^ n) (by omega) (by omega) h22)) (fun h22 => ?_)
    refine v_iload_n (pc := 25) hX rfl d_Mo_like_25 ?_
    refine v_if_lt (pc := 26) (tgt := 40) hX d_Mo_like_26 rfl (fun h26 => ?_) (fun h26 => ?_)
    · have a1 : al J n j k = 0 := by
        by_cases w : al J n j k = 0
        · exact w
        · rw [en_p w] at h26; have := (i3_lt (b := 0) (by omega) (by decide)).mp h26; omega
      have a2 := a1
      refine v_iconst (pc := 40) (v := 1) hX (by decide) d_Mo_like_40 ?_
      refine v_goto (pc := 41) (tgt := 45) hX d_Mo_like_41 rfl ?_
      refine v_istore (pc := 45) (lo' := [some (vR _), some (vI _), some (vI _), some (vI _), some (vI _)]) hX (Nat.le_of_ble_eq_true rfl) rfl d_Mo_like_45 ?_
      refine v_iload (pc := 47) hX rfl d_Mo_like_47 ?_
      refine v_if_eq (pc := 49) (tgt := 73) hX d_Mo_like_49 rfl (fun h49 => False.elim (by revert h49; decide)) (fun h49 => ?_)
      refine v_iload_n (pc := 52) hX rfl d_Mo_like_52 ?_
      refine v_iload_n (pc := 53) hX rfl d_Mo_like_53 ?_
      refine f_callS (pc := 54) hX k_Mo_isIn ks_Mo_isIn ml_Mo_181 (C_Mo_isIn (by omega) (by omega)) rfl rfl rfl (Nat.le_of_ble_eq_true rfl) (Nat.le_of_ble_eq_true rfl) (Nat.le_of_ble_eq_true rfl) d_Mo_like_54 ?_
      refine f_ifneB (pc := 57) (tgt := 73) hX d_Mo_like_57 rfl (fun h57 => ?_) (fun h57 => ?_)
      · have a3 : ¬ bt (k + 1) j = 0 := by have := of_decide_eq_true h57; omega
        have e : al J n j (k + 1) = al J n j k := if_neg (by simp [alC, a3])
        refine v_iload_n (pc := 73) hX rfl d_Mo_like_73 ?_
        refine v_istore_n (pc := 74) (lo' := [some (vR _), some (vI _), some (vI _), some (vI _), some (vI _)]) hX (Nat.le_of_ble_eq_true rfl) rfl d_Mo_like_74 ?_
        refine v_iinc (pc := 75) (lo' := [some (vR _), some (vI _), some (vI _), some (vI _), some (vI _)]) hX rfl rfl d_Mo_like_75 ?_
        refine v_goto (pc := 78) (tgt := 15) hX d_Mo_like_78 rfl ?_
        refine VW.fg [true, true, true, true, false] ?_
        exact VW.cast (by first | (rw [e, en_p (Nat.succ_ne_zero k), i3_succ (k + 1)]; rfl) | (rw [e, i3_succ (k + 1)]; rfl)) rfl rfl ih15
      · have a3 : bt (k + 1) j = 0 := by have := of_decide_eq_false h57; have := bt_01 (k + 1) j; omega
        refine v_aload_n (pc := 60) hX rfl d_Mo_like_60 ?_
        refine v_iload_n (pc := 61) hX rfl d_Mo_like_61 ?_
        refine v_iload_n (pc := 62) hX rfl d_Mo_like_62 ?_
        refine f_callV (pc := 63) hX k_Mo_areLike ki_Mo_areLike kv_Mo_areLike ml_Mo_228 (C_Mo_areLike hJ (by omega) (by omega) hj) rfl rfl rfl rfl rfl (Nat.le_of_ble_eq_true rfl) (Nat.le_of_ble_eq_true rfl) (Nat.le_of_ble_eq_true rfl) d_Mo_like_63 ?_
        refine f_ifeqB (pc := 66) (tgt := 73) hX d_Mo_like_66 rfl (fun h66 => ?_) (fun h66 => ?_)
        · have e : al J n j (k + 1) = al J n j k := if_neg (by simp [alC, h66])
          refine v_iload_n (pc := 73) hX rfl d_Mo_like_73 ?_
          refine v_istore_n (pc := 74) (lo' := [some (vR _), some (vI _), some (vI _), some (vI _), some (vI _)]) hX (Nat.le_of_ble_eq_true rfl) rfl d_Mo_like_74 ?_
          refine v_iinc (pc := 75) (lo' := [some (vR _), some (vI _), some (vI _), some (vI _), some (vI _)]) hX rfl rfl d_Mo_like_75 ?_
          refine v_goto (pc := 78) (tgt := 15) hX d_Mo_like_78 rfl ?_
          refine VW.fg [true, true, true, true, false] ?_
          exact VW.cast (by first | (rw [e, en_p (Nat.succ_ne_zero k), i3_succ (k + 1)]; rfl) | (rw [e, i3_succ (k + 1)]; rfl)) rfl rfl ih15
        · have e : al J n j (k + 1) = k + 1 := if_pos (by simp [alC, a1, a2, a3, h66])
          refine v_iload_n (pc := 69) hX rfl d_Mo_like_69 ?_
          refine v_goto (pc := 70) (tgt := 74) hX d_Mo_like_70 rfl ?_
          refine v_istore_n (pc := 74) (lo' := [some (vR _), some (vI _), some (vI _), some (vI _), some (vI _)]) hX (Nat.le_of_ble_eq_true rfl) rfl d_Mo_like_74 ?_
          refine v_iinc (pc := 75) (lo' := [some (vR _), some (vI _), some (vI _), some (vI _), some (vI _)]) hX rfl rfl d_Mo_like_75 ?_
          refine v_goto (pc := 78) (tgt := 15) hX d_Mo_like_78 rfl ?_
          refine VW.fg [true, true, true, true, false] ?_
          exact VW.cast (by first | (rw [e, en_p (Nat.succ_ne_zero k), i3_succ (k + 1)]; rfl) | (rw [e, i3_succ (k + 1)]; rfl)) rfl rfl ih15
    · have a1 : ¬ al J n j k = 0 := fun w => h26 (by rw [w]; decide)
      refine v_iload_n (pc := 29) hX rfl d_Mo_like_29 ?_
      refine f_callS (pc := 30) hX k_Mo_bits ks_Mo_bits ml_Mo_184 (C_Mo_bits (by omega)) rfl rfl rfl (Nat.le_of_ble_eq_true rfl) (Nat.le_of_ble_eq_true rfl) (Nat.le_of_ble_eq_true rfl) d_Mo_like_30 ?_
      refine v_iload_n (pc := 33) hX rfl d_Mo_like_33 ?_
      rw [en_p a1]
      refine f_callS (pc := 34) hX k_Mo_bits ks_Mo_bits ml_Mo_184 (C_Mo_bits (by omega)) rfl rfl rfl (Nat.le_of_ble_eq_true rfl) (Nat.le_of_ble_eq_true rfl) (Nat.le_of_ble_eq_true rfl) d_Mo_like_34 ?_
      refine v_icmp_ge (pc := 37) (tgt := 44) hX d_Mo_like_37 rfl (fun h37 => ?_) (fun h37 => ?_)
      · rw [← en_p a1]
        have a2 : ¬ pop 6 (k + 1) < pop 6 (al J n j k) := by
          have := (i3_le (by have := pop_lt hc6; omega) (by have := pop_lt hs; omega)).mp h37
          omega
        have e : al J n j (k + 1) = al J n j k := if_neg (by simp [alC, a1, a2])
        refine v_iconst (pc := 44) (v := 0) hX (by decide) d_Mo_like_44 ?_
        refine v_istore (pc := 45) (lo' := [some (vR _), some (vI _), some (vI _), some (vI _), some (vI _)]) hX (Nat.le_of_ble_eq_true rfl) rfl d_Mo_like_45 ?_
        refine v_iload (pc := 47) hX rfl d_Mo_like_47 ?_
        refine v_if_eq (pc := 49) (tgt := 73) hX d_Mo_like_49 rfl (fun h49 => ?_) (fun h49 => False.elim (by revert h49; decide))
        refine v_iload_n (pc := 73) hX rfl d_Mo_like_73 ?_
        refine v_istore_n (pc := 74) (lo' := [some (vR _), some (vI _), some (vI _), some (vI _), some (vI _)]) hX (Nat.le_of_ble_eq_true rfl) rfl d_Mo_like_74 ?_
        refine v_iinc (pc := 75) (lo' := [some (vR _), some (vI _), some (vI _), some (vI _), some (vI _)]) hX rfl rfl d_Mo_like_75 ?_
        refine v_goto (pc := 78) (tgt := 15) hX d_Mo_like_78 rfl ?_
        refine VW.fg [true, true, true, true, false] ?_
        exact VW.cast (by first | (rw [e, en_p (Nat.succ_ne_zero k), i3_succ (k + 1)]; rfl) | (rw [e, i3_succ (k + 1)]; rfl)) rfl rfl ih15
      · rw [← en_p a1]
        have a2 : pop 6 (k + 1) < pop 6 (al J n j k) := by
          exact Nat.lt_of_not_le (fun q => h37 ((i3_le (by have := pop_lt hc6; omega) (by have := pop_lt hs; omega)).mpr q))
        refine v_iconst (pc := 40) (v := 1) hX (by decide) d_Mo_like_40 ?_
        refine v_goto (pc := 41) (tgt := 45) hX d_Mo_like_41 rfl ?_
        refine v_istore (pc := 45) (lo' := [some (vR _), some (vI _), some (vI _), some (vI _), some (vI _)]) hX (Nat.le_of_ble_eq_true rfl) rfl d_Mo_like_45 ?_
        refine v_iload (pc := 47) hX rfl d_Mo_like_47 ?_
        refine v_if_eq (pc := 49) (tgt := 73) hX d_Mo_like_49 rfl (fun h49 => False.elim (by revert h49; decide)) (fun h49 => ?_)
        refine v_iload_n (pc := 52) hX rfl d_Mo_like_52 ?_
        refine v_iload_n (pc := 53) hX rfl d_Mo_like_53 ?_
        refine f_callS (pc := 54) hX k_Mo_isIn ks_Mo_isIn ml_Mo_181 (C_Mo_isIn (by omega) (by omega)) rfl rfl rfl (Nat.le_of_ble_eq_true rfl) (Nat.le_of_ble_eq_true rfl) (Nat.le_of_ble_eq_true rfl) d_Mo_like_54 ?_
        refine f_ifneB (pc := 57) (tgt := 73) hX d_Mo_like_57 rfl (fun h57 => ?_) (fun h57 => ?_)
        · have a3 : ¬ bt (k + 1) j = 0 := by have := of_decide_eq_true h57; omega
          have e : al J n j (k + 1) = al J n j k := if_neg (by simp [alC, a3])
          refine v_iload_n (pc := 73) hX rfl d_Mo_like_73 ?_
          refine v_istore_n (pc := 74) (lo' := [some (vR _), some (vI _), some (vI _), some (vI _), some (vI _)]) hX (Nat.le_of_ble_eq_true rfl) rfl d_Mo_like_74 ?_
          refine v_iinc (pc := 75) (lo' := [some (vR _), some (vI _), some (vI _), some (vI _), some (vI _)]) hX rfl rfl d_Mo_like_75 ?_
          refine v_goto (pc := 78) (tgt := 15) hX d_Mo_like_78 rfl ?_
          refine VW.fg [true, true, true, true, false] ?_
          exact VW.cast (by first | (rw [e, en_p (Nat.succ_ne_zero k), i3_succ (k + 1)]; rfl) | (rw [e, i3_succ (k + 1)]; rfl)) rfl rfl ih15
        · have a3 : bt (k + 1) j = 0 := by have := of_decide_eq_false h57; have := bt_01 (k + 1) j; omega
          refine v_aload_n (pc := 60) hX rfl d_Mo_like_60 ?_
          refine v_iload_n (pc := 61) hX rfl d_Mo_like_61 ?_
          refine v_iload_n (pc := 62) hX rfl d_Mo_like_62 ?_
          refine f_callV (pc := 63) hX k_Mo_areLike ki_Mo_areLike kv_Mo_areLike ml_Mo_228 (C_Mo_areLike hJ (by omega) (by omega) hj) rfl rfl rfl rfl rfl (Nat.le_of_ble_eq_true rfl) (Nat.le_of_ble_eq_true rfl) (Nat.le_of_ble_eq_true rfl) d_Mo_like_63 ?_
          refine f_ifeqB (pc := 66) (tgt := 73) hX d_Mo_like_66 rfl (fun h66 => ?_) (fun h66 => ?_)
          · have e : al J n j (k + 1) = al J n j k := if_neg (by simp [alC, h66])
            refine v_iload_n (pc := 73) hX rfl d_Mo_like_73 ?_
            refine v_istore_n (pc := 74) (lo' := [some (vR _), some (vI _), some (vI _), some (vI _), some (vI _)]) hX (Nat.le_of_ble_eq_true rfl) rfl d_Mo_like_74 ?_
            refine v_iinc (pc := 75) (lo' := [some (vR _), some (vI _), some (vI _), some (vI _), some (vI _)]) hX rfl rfl d_Mo_like_75 ?_
            refine v_goto (pc := 78) (tgt := 15) hX d_Mo_like_78 rfl ?_
            refine VW.fg [true, true, true, true, false] ?_
            exact VW.cast (by first | (rw [e, en_p (Nat.succ_ne_zero k), i3_succ (k + 1)]; rfl) | (rw [e, i3_succ (k + 1)]; rfl)) rfl rfl ih15
          · have e : al J n j (k + 1) = k + 1 := if_pos (by simp [alC, a1, a2, a3, h66])
            refine v_iload_n (pc := 69) hX rfl d_Mo_like_69 ?_
            refine v_goto (pc := 70) (tgt := 74) hX d_Mo_like_70 rfl ?_
            refine v_istore_n (pc := 74) (lo' := [some (vR _), some (vI _), some (vI _), some (vI _), some (vI _)]) hX (Nat.le_of_ble_eq_true rfl) rfl d_Mo_like_74 ?_
            refine v_iinc (pc := 75) (lo' := [some (vR _), some (vI _), some (vI _), some (vI _), some (vI _)]) hX rfl rfl d_Mo_like_75 ?_
            refine v_goto (pc := 78) (tgt := 15) hX d_Mo_like_78 rfl ?_
            refine VW.fg [true, true, true, true, false] ?_
            exact VW.cast (by first | (rw [e, en_p (Nat.succ_ne_zero k), i3_succ (k + 1)]; rfl) | (rw [e, i3_succ (k + 1)]; rfl)) rfl rfl ih15
  · show VW X 15 [some (vR 36), some (vI (i3 j)), some (vI (en (al J n j (2 ^ n - 1)))), some (vI (i3 ((2 ^ n - 1) + 1))), none] [] (gM (M))
    refine v_iload_n (pc := 15) hX rfl d_Mo_like_15 ?_
    refine v_iconst (pc := 16) (v := 1) hX (by decide) d_Mo_like_16 ?_
    refine v_aload_n (pc := 17) hX rfl d_Mo_like_17 ?_
    refine g_getI (pc := 18) hX fl_Mo_101 rfl rfl d_Mo_like_18 ?_
    rw [hM]
    refine v_ishl (pc := 21) hX d_Mo_like_21 ?_
    rw [shl_i3 n (by omega)]
    refine v_icmp_ge (pc := 22) (tgt := 81) hX d_Mo_like_22 rfl (fun h22 => ?_) (fun h22 => False.elim (absurd set_end h22))
    refine v_iload_n (pc := 81) hX rfl d_Mo_like_81 ?_
    exact f_iret (pc := 82) hX hR (rfl) (rfl) d_Mo_like_82
theorem d_Mo_isTold_0 : decode c_Mo_isTold 0 = .ok (.iconst 1, 1) := by decide +kernel
theorem d_Mo_isTold_1 : decode c_Mo_isTold 1 = .ok (.istore 4, 2) := by decide +kernel
theorem d_Mo_isTold_3 : decode c_Mo_isTold 3 = .ok (.iconst 0, 1) := by decide +kernel
theorem d_Mo_isTold_4 : decode c_Mo_isTold 4 = .ok (.istore 5, 2) := by decide +kernel
theorem d_Mo_isTold_6 : decode c_Mo_isTold 6 = .ok (.iload 5, 2) := by decide +kernel
theorem d_Mo_isTold_8 : decode c_Mo_isTold 8 = .ok (.iload_n 3, 1) := by decide +kernel
theorem d_Mo_isTold_9 : decode c_Mo_isTold 9 = .ok (.if_icmp .ge 40, 3) := by decide +kernel
theorem d_Mo_isTold_12 : decode c_Mo_isTold 12 = .ok (.iload 4, 2) := by decide +kernel
theorem d_Mo_isTold_14 : decode c_Mo_isTold 14 = .ok (.ifCond .eq 26, 3) := by decide +kernel
theorem d_Mo_isTold_17 : decode c_Mo_isTold 17 = .ok (.aload_n 0, 1) := by decide +kernel
theorem d_Mo_isTold_18 : decode c_Mo_isTold 18 = .ok (.iload_n 1, 1) := by decide +kernel
theorem d_Mo_isTold_19 : decode c_Mo_isTold 19 = .ok (.iload 5, 2) := by decide +kernel
theorem d_Mo_isTold_21 : decode c_Mo_isTold 21 = .ok (.invokevirtual 190, 3) := by decide +kernel
theorem d_Mo_isTold_24 : decode c_Mo_isTold 24 = .ok (.aload_n 0, 1) := by decide +kernel
theorem d_Mo_isTold_25 : decode c_Mo_isTold 25 = .ok (.getfield 85, 3) := by decide +kernel
theorem d_Mo_isTold_28 : decode c_Mo_isTold 28 = .ok (.iload_n 2, 1) := by decide +kernel
theorem d_Mo_isTold_29 : decode c_Mo_isTold 29 = .ok (.iload 5, 2) := by decide +kernel
theorem d_Mo_isTold_31 : decode c_Mo_isTold 31 = .ok (.iadd, 1) := by decide +kernel
theorem d_Mo_isTold_32 : decode c_Mo_isTold 32 = .ok (.iaload, 1) := by decide +kernel
theorem d_Mo_isTold_33 : decode c_Mo_isTold 33 = .ok (.if_icmp .ne 7, 3) := by decide +kernel
theorem d_Mo_isTold_36 : decode c_Mo_isTold 36 = .ok (.iconst 1, 1) := by decide +kernel
theorem d_Mo_isTold_37 : decode c_Mo_isTold 37 = .ok (.goto 4, 3) := by decide +kernel
theorem d_Mo_isTold_40 : decode c_Mo_isTold 40 = .ok (.iconst 0, 1) := by decide +kernel
theorem d_Mo_isTold_41 : decode c_Mo_isTold 41 = .ok (.istore 4, 2) := by decide +kernel
theorem d_Mo_isTold_43 : decode c_Mo_isTold 43 = .ok (.iinc 5 1, 3) := by decide +kernel
theorem d_Mo_isTold_46 : decode c_Mo_isTold 46 = .ok (.goto (-40), 3) := by decide +kernel
theorem d_Mo_isTold_49 : decode c_Mo_isTold 49 = .ok (.iload 4, 2) := by decide +kernel
theorem d_Mo_isTold_51 : decode c_Mo_isTold 51 = .ok (.ireturn, 1) := by decide +kernel
theorem C_Mo_isTold {M : MM} {n m F s : Nat} {J : JT} {q : Nat → Int32} (hJ : MJ M n J) (hF : F + m ≤ 240) (hq : ∀ t, t < m → M 62 (F + t) = q t) (hs0 : 0 < s) (hs : s < 2 ^ n) : AF y_Mo_isTold c_Mo_isTold 6 (some .boolean) 4 [vR 36, vI (i3 s), vI (i3 F), vI (i3 m)] (M) (some (vI (bI (hmB J n s q m)))) (M) := by
  refine AF.of k_Mo_isTold (lo := [some (vR 36), some (vI (i3 s)), some (vI (i3 F)), some (vI (i3 m)), none, none]) rfl (Nat.le_of_ble_eq_true rfl) (fun X hX hR => ?_)
  refine v_iconst (pc := 0) (v := 1) hX (by decide) d_Mo_isTold_0 ?_
  refine v_istore (pc := 1) (lo' := [some (vR _), some (vI _), some (vI _), some (vI _), some (vI _), none]) hX (Nat.le_of_ble_eq_true rfl) rfl d_Mo_isTold_1 ?_
  refine v_iconst (pc := 3) (v := 0) hX (by decide) d_Mo_isTold_3 ?_
  refine v_istore (pc := 4) (lo' := [some (vR _), some (vI _), some (vI _), some (vI _), some (vI _), some (vI _)]) hX (Nat.le_of_ble_eq_true rfl) rfl d_Mo_isTold_4 ?_
  refine VW.cast (lo' := [some (vR 36), some (vI (i3 s)), some (vI (i3 F)), some (vI (i3 m)), some (vI (bI (allB (fun t => decide (blN J n s (i3 t) = q t)) 0))), some (vI (i3 0))]) (st' := []) (G' := gM (M)) rfl rfl rfl ?_
  refine v_for (X := X) (head := 6) (m) (fun kk => [some (vR 36), some (vI (i3 s)), some (vI (i3 F)), some (vI (i3 m)), some (vI (bI (allB (fun t => decide (blN J n s (i3 t) = q t)) kk))), some (vI (i3 kk))]) (fun kk => M) (fun k hk ih6 => ?_) ?_
  · show VW X 6 [some (vR 36), some (vI (i3 s)), some (vI (i3 F)), some (vI (i3 m)), some (vI (bI (allB (fun t => decide (blN J n s (i3 t) = q t)) k))), some (vI (i3 k))] [] (gM (M))
    refine v_iload (pc := 6) hX rfl d_Mo_isTold_6 ?_
    refine v_iload_n (pc := 8) hX rfl d_Mo_isTold_8 ?_
    refine v_icmp_ge (pc := 9) (tgt := 49) hX d_Mo_isTold_9 rfl (fun h9 => False.elim (i3_ge_abs hk (by omega) h9)) (fun h9 => ?_)
    refine v_iload (pc := 12) hX rfl d_Mo_isTold_12 ?_
    refine f_ifeqB (pc := 14) (tgt := 40) hX d_Mo_isTold_14 rfl (fun h14 => ?_) (fun h14 => ?_)
    · have e : allB (fun t => decide (blN J n s (i3 t) = q t)) (k + 1) = false := allB_f h14
      refine v_iconst (pc := 40) (v := 0) hX (by decide) d_Mo_isTold_40 ?_
      refine v_istore (pc := 41) (lo' := [some (vR _), some (vI _), some (vI _), some (vI _), some (vI _), some (vI _)]) hX (Nat.le_of_ble_eq_true rfl) rfl d_Mo_isTold_41 ?_
      refine v_iinc (pc := 43) (lo' := [some (vR _), some (vI _), some (vI _), some (vI _), some (vI _), some (vI _)]) hX rfl rfl d_Mo_isTold_43 ?_
      refine v_goto (pc := 46) (tgt := 6) hX d_Mo_isTold_46 rfl ?_
      exact VW.cast (by rw [e, i3_succ]; rfl) rfl rfl ih6
    · refine v_aload_n (pc := 17) hX rfl d_Mo_isTold_17 ?_
      refine v_iload_n (pc := 18) hX rfl d_Mo_isTold_18 ?_
      refine v_iload (pc := 19) hX rfl d_Mo_isTold_19 ?_
      refine f_callV (pc := 21) hX k_Mo_blendOf ki_Mo_blendOf kv_Mo_blendOf ml_Mo_190 (C_Mo_blendOf hJ (by omega) (by omega) (i3_nn (by omega))) rfl rfl rfl rfl rfl (Nat.le_of_ble_eq_true rfl) (Nat.le_of_ble_eq_true rfl) (Nat.le_of_ble_eq_true rfl) d_Mo_isTold_21 ?_
      refine v_aload_n (pc := 24) hX rfl d_Mo_isTold_24 ?_
      refine g_getR (pc := 25) hX fl_Mo_85 rfl rfl nf_36_33 d_Mo_isTold_25 ?_
      refine v_iload_n (pc := 28) hX rfl d_Mo_isTold_28 ?_
      refine v_iload (pc := 29) hX rfl d_Mo_isTold_29 ?_
      refine v_iadd (pc := 31) hX d_Mo_isTold_31 ?_
      rw [← i3_add]
      refine g_iald (pc := 32) hX rfl (IX.of (n := 240) (by omega) (by decide)) d_Mo_isTold_32 ?_
      rw [hq k hk]
      refine v_icmp_ne (pc := 33) (tgt := 40) hX d_Mo_isTold_33 rfl (fun h33 => ?_) (fun h33 => ?_)
      · have e : allB (fun t => decide (blN J n s (i3 t) = q t)) (k + 1) = false := allB_f2 (decide_eq_false h33)
        refine v_iconst (pc := 40) (v := 0) hX (by decide) d_Mo_isTold_40 ?_
        refine v_istore (pc := 41) (lo' := [some (vR _), some (vI _), some (vI _), some (vI _), some (vI _), some (vI _)]) hX (Nat.le_of_ble_eq_true rfl) rfl d_Mo_isTold_41 ?_
        refine v_iinc (pc := 43) (lo' := [some (vR _), some (vI _), some (vI _), some (vI _), some (vI _), some (vI _)]) hX rfl rfl d_Mo_isTold_43 ?_
        refine v_goto (pc := 46) (tgt := 6) hX d_Mo_isTold_46 rfl ?_
        exact VW.cast (by rw [e, i3_succ]; rfl) rfl rfl ih6
      · have e : allB (fun t => decide (blN J n s (i3 t) = q t)) (k + 1) = true := allB_s h14 (decide_eq_true (by simpa using h33))
        refine v_iconst (pc := 36) (v := 1) hX (by decide) d_Mo_isTold_36 ?_
        refine v_goto (pc := 37) (tgt := 41) hX d_Mo_isTold_37 rfl ?_
        refine v_istore (pc := 41) (lo' := [some (vR _), some (vI _), some (vI _), some (vI _), some (vI _), some (vI _)]) hX (Nat.le_of_ble_eq_true rfl) rfl d_Mo_isTold_41 ?_
        refine v_iinc (pc := 43) (lo' := [some (vR _), some (vI _), some (vI _), some (vI _), some (vI _), some (vI _)]) hX rfl rfl d_Mo_isTold_43 ?_
        refine v_goto (pc := 46) (tgt := 6) hX d_Mo_isTold_46 rfl ?_
        exact VW.cast (by rw [e, i3_succ]; rfl) rfl rfl ih6
  · show VW X 6 [some (vR 36), some (vI (i3 s)), some (vI (i3 F)), some (vI (i3 m)), some (vI (bI (allB (fun t => decide (blN J n s (i3 t) = q t)) (m)))), some (vI (i3 (m)))] [] (gM (M))
    refine v_iload (pc := 6) hX rfl d_Mo_isTold_6 ?_
    refine v_iload_n (pc := 8) hX rfl d_Mo_isTold_8 ?_
    refine v_icmp_ge (pc := 9) (tgt := 49) hX d_Mo_isTold_9 rfl (fun h9 => ?_) (fun h9 => False.elim (absurd (Int32.le_refl _) h9))
    refine v_iload (pc := 49) hX rfl d_Mo_isTold_49 ?_
    exact f_zret (pc := 51) hX hR (rfl) (rfl) d_Mo_isTold_51
def gaN (f : Nat → Bool) : Nat → Nat
  | 0 => 0
  | k + 1 => if (decide (pop 6 (k + 1) = 1) && f (k + 1)) = true then gaN f k ||| (k + 1) else gaN f k
theorem gaN_lt (f : Nat → Bool) : ∀ k, k < 64 → gaN f k < 64
  | 0, _ => by show (0 : Nat) < 64; decide
  | k + 1, h => by
    have := gaN_lt f k (by omega)
    unfold gaN
    split
    · exact Nat.or_lt_two_pow (n := 6) this h
    · exact this
theorem or6_i3 : ∀ a, a < 64 → ∀ b, b < 64 → (i3 a ||| i3 b) = i3 (a ||| b) := by decide +kernel
theorem pop_only : ∀ n, n < 6 → ∀ s, s < 64 → 2 ^ n < s → s < 2 ^ (n + 1) → pop 6 s ≠ 1 := by decide +kernel
theorem pop_two : ∀ n, n < 6 → pop 6 (2 ^ n) = 1 := by decide +kernel
theorem or_add : ∀ n, n < 6 → ∀ s, s < 2 ^ n → s ||| 2 ^ n = s + 2 ^ n := by decide +kernel
theorem gaN_up {f : Nat → Bool} {n : Nat} (hn : n < 6) : ∀ d, 2 ^ n + d < 2 ^ (n + 1) → gaN f (2 ^ n + d) = gaN f (2 ^ n)
  | 0, _ => rfl
  | d + 1, h => by
    have hp : 2 ^ (n + 1) ≤ 64 := pow6 (by omega)
    have e := gaN_up (f := f) hn d (by omega)
    show gaN f ((2 ^ n + d) + 1) = _
    conv => lhs; unfold gaN
    rw [if_neg, e]
    rw [decide_eq_false (pop_only n hn (2 ^ n + d + 1) (by omega) (by omega) (by omega))]
    simp
theorem gaN_gj (f : Nat → Bool) : ∀ n, n ≤ 6 → gaN f (2 ^ n - 1) = gjN (fun j => f (2 ^ j)) n
  | 0, _ => rfl
  | n + 1, h => by
    have ih := gaN_gj f n (by omega)
    have hl := gjN_lt (fun j => f (2 ^ j)) n
    have hp : 0 < 2 ^ n := Nat.two_pow_pos n
    have e1 : 2 ^ (n + 1) - 1 = 2 ^ n + (2 ^ n - 1) := by rw [Nat.pow_succ]; omega
    rw [e1, gaN_up (by omega) _ (by rw [Nat.pow_succ]; omega)]
    have e2 : gaN f (2 ^ n) = if (decide (pop 6 (2 ^ n) = 1) && f (2 ^ n)) = true then gaN f (2 ^ n - 1) ||| 2 ^ n else gaN f (2 ^ n - 1) := by
      generalize hd : 2 ^ n - 1 = d
      rw [show 2 ^ n = d + 1 by omega]
      rfl
    rw [e2, ih, pop_two n (by omega)]
    show _ = gjN (fun j => f (2 ^ j)) n + (if f (2 ^ n) = true then 2 ^ n else 0)
    by_cases c : f (2 ^ n) = true
    · rw [if_pos (by rw [c]; rfl), if_pos c, or_add n (by omega) _ hl]
    · rw [if_neg (by simpa using c), if_neg c]; rfl
theorem ga_y {f : Nat → Bool} {k : Nat} (h1 : pop 6 (k + 1) = 1) (h2 : f (k + 1) = true) : gaN f (k + 1) = gaN f k ||| (k + 1) := if_pos (by rw [decide_eq_true h1, h2]; rfl)
theorem ga_n1 {f : Nat → Bool} {k : Nat} (h1 : ¬ pop 6 (k + 1) = 1) : gaN f (k + 1) = gaN f k := if_neg (by rw [decide_eq_false h1]; simp)
theorem ga_n2 {f : Nat → Bool} {k : Nat} (h1 : f (k + 1) = false) : gaN f (k + 1) = gaN f k := if_neg (by rw [h1]; simp)
theorem cn_y {f : Nat → Bool} {k : Nat} (h : f (k + 1) = true) : cntB f (k + 1) = cntB f k + 1 := by
  show cntB f k + (if f (k + 1) = true then 1 else 0) = _
  rw [if_pos h]
theorem cn_n {f : Nat → Bool} {k : Nat} (h : f (k + 1) = false) : cntB f (k + 1) = cntB f k := by
  show cntB f k + (if f (k + 1) = true then 1 else 0) = _
  rw [h]; rfl
theorem fs_y {f : Nat → Bool} {k : Nat} (h0 : fstB f k = 0) (h : f (k + 1) = true) : fstB f (k + 1) = k + 1 := by
  unfold fstB; rw [if_neg (by omega), if_pos h]
theorem fs_n {f : Nat → Bool} {k : Nat} (h : f (k + 1) = false) : fstB f (k + 1) = fstB f k := by
  conv => lhs; unfold fstB
  by_cases c : fstB f k ≠ 0
  · rw [if_pos c]
  · rw [if_neg c, h, if_neg (by simp)]; omega
theorem fs_s {f : Nat → Bool} {k : Nat} (h : ¬ fstB f k = 0) : fstB f (k + 1) = fstB f k := by
  conv => lhs; unfold fstB
  rw [if_pos h]
theorem fstB_le (f : Nat → Bool) : ∀ k, fstB f k ≤ k
  | 0 => Nat.le_refl _
  | k + 1 => by
    have := fstB_le f k
    unfold fstB
    split
    · omega
    · split <;> omega
theorem d_Mo_guessBy_0 : decode c_Mo_guessBy 0 = .ok (.iconst 0, 1) := by decide +kernel
theorem d_Mo_guessBy_1 : decode c_Mo_guessBy 1 = .ok (.istore 4, 2) := by decide +kernel
theorem d_Mo_guessBy_3 : decode c_Mo_guessBy 3 = .ok (.iconst 0, 1) := by decide +kernel
theorem d_Mo_guessBy_4 : decode c_Mo_guessBy 4 = .ok (.istore 5, 2) := by decide +kernel
theorem d_Mo_guessBy_6 : decode c_Mo_guessBy 6 = .ok (.bipush (-9), 2) := by decide +kernel
theorem d_Mo_guessBy_8 : decode c_Mo_guessBy 8 = .ok (.istore 6, 2) := by decide +kernel
theorem d_Mo_guessBy_10 : decode c_Mo_guessBy 10 = .ok (.iconst 1, 1) := by decide +kernel
theorem d_Mo_guessBy_11 : decode c_Mo_guessBy 11 = .ok (.istore 7, 2) := by decide +kernel
theorem d_Mo_guessBy_13 : decode c_Mo_guessBy 13 = .ok (.iload 7, 2) := by decide +kernel
theorem d_Mo_guessBy_15 : decode c_Mo_guessBy 15 = .ok (.iconst 1, 1) := by decide +kernel
theorem d_Mo_guessBy_16 : decode c_Mo_guessBy 16 = .ok (.aload_n 0, 1) := by decide +kernel
theorem d_Mo_guessBy_17 : decode c_Mo_guessBy 17 = .ok (.getfield 101, 3) := by decide +kernel
theorem d_Mo_guessBy_20 : decode c_Mo_guessBy 20 = .ok (.ishl, 1) := by decide +kernel
theorem d_Mo_guessBy_21 : decode c_Mo_guessBy 21 = .ok (.if_icmp .ge 116, 3) := by decide +kernel
theorem d_Mo_guessBy_24 : decode c_Mo_guessBy 24 = .ok (.iload 7, 2) := by decide +kernel
theorem d_Mo_guessBy_26 : decode c_Mo_guessBy 26 = .ok (.invokestatic 184, 3) := by decide +kernel
theorem d_Mo_guessBy_29 : decode c_Mo_guessBy 29 = .ok (.iconst 3, 1) := by decide +kernel
theorem d_Mo_guessBy_30 : decode c_Mo_guessBy 30 = .ok (.if_icmp .ge 18, 3) := by decide +kernel
theorem d_Mo_guessBy_33 : decode c_Mo_guessBy 33 = .ok (.aload_n 0, 1) := by decide +kernel
theorem d_Mo_guessBy_34 : decode c_Mo_guessBy 34 = .ok (.iload 7, 2) := by decide +kernel
theorem d_Mo_guessBy_36 : decode c_Mo_guessBy 36 = .ok (.iload_n 1, 1) := by decide +kernel
theorem d_Mo_guessBy_37 : decode c_Mo_guessBy 37 = .ok (.iload_n 2, 1) := by decide +kernel
theorem d_Mo_guessBy_38 : decode c_Mo_guessBy 38 = .ok (.invokevirtual 231, 3) := by decide +kernel
theorem d_Mo_guessBy_41 : decode c_Mo_guessBy 41 = .ok (.ifCond .eq 7, 3) := by decide +kernel
theorem d_Mo_guessBy_44 : decode c_Mo_guessBy 44 = .ok (.iconst 1, 1) := by decide +kernel
theorem d_Mo_guessBy_45 : decode c_Mo_guessBy 45 = .ok (.goto 4, 3) := by decide +kernel
theorem d_Mo_guessBy_48 : decode c_Mo_guessBy 48 = .ok (.iconst 0, 1) := by decide +kernel
theorem d_Mo_guessBy_49 : decode c_Mo_guessBy 49 = .ok (.istore 8, 2) := by decide +kernel
theorem d_Mo_guessBy_51 : decode c_Mo_guessBy 51 = .ok (.iload 4, 2) := by decide +kernel
theorem d_Mo_guessBy_53 : decode c_Mo_guessBy 53 = .ok (.iload 8, 2) := by decide +kernel
theorem d_Mo_guessBy_55 : decode c_Mo_guessBy 55 = .ok (.ifCond .eq 17, 3) := by decide +kernel
theorem d_Mo_guessBy_58 : decode c_Mo_guessBy 58 = .ok (.iload 7, 2) := by decide +kernel
theorem d_Mo_guessBy_60 : decode c_Mo_guessBy 60 = .ok (.invokestatic 184, 3) := by decide +kernel
theorem d_Mo_guessBy_63 : decode c_Mo_guessBy 63 = .ok (.iconst 1, 1) := by decide +kernel
theorem d_Mo_guessBy_64 : decode c_Mo_guessBy 64 = .ok (.if_icmp .ne 8, 3) := by decide +kernel
theorem d_Mo_guessBy_67 : decode c_Mo_guessBy 67 = .ok (.iload 7, 2) := by decide +kernel
theorem d_Mo_guessBy_69 : decode c_Mo_guessBy 69 = .ok (.goto 4, 3) := by decide +kernel
theorem d_Mo_guessBy_72 : decode c_Mo_guessBy 72 = .ok (.iconst 0, 1) := by decide +kernel
theorem d_Mo_guessBy_73 : decode c_Mo_guessBy 73 = .ok (.ior, 1) := by decide +kernel
theorem d_Mo_guessBy_74 : decode c_Mo_guessBy 74 = .ok (.istore 4, 2) := by decide +kernel
theorem d_Mo_guessBy_76 : decode c_Mo_guessBy 76 = .ok (.iload 8, 2) := by decide +kernel
theorem d_Mo_guessBy_78 : decode c_Mo_guessBy 78 = .ok (.ifCond .eq 16, 3) := by decide +kernel
theorem d_Mo_guessBy_81 : decode c_Mo_guessBy 81 = .ok (.iload 7, 2) := by decide +kernel
theorem d_Mo_guessBy_83 : decode c_Mo_guessBy 83 = .ok (.invokestatic 184, 3) := by decide +kernel
theorem d_Mo_guessBy_86 : decode c_Mo_guessBy 86 = .ok (.iconst 2, 1) := by decide +kernel
theorem d_Mo_guessBy_87 : decode c_Mo_guessBy 87 = .ok (.if_icmp .ne 7, 3) := by decide +kernel
theorem d_Mo_guessBy_90 : decode c_Mo_guessBy 90 = .ok (.iconst 1, 1) := by decide +kernel
theorem d_Mo_guessBy_91 : decode c_Mo_guessBy 91 = .ok (.goto 4, 3) := by decide +kernel
theorem d_Mo_guessBy_94 : decode c_Mo_guessBy 94 = .ok (.iconst 0, 1) := by decide +kernel
theorem d_Mo_guessBy_95 : decode c_Mo_guessBy 95 = .ok (.istore 9, 2) := by decide +kernel
theorem d_Mo_guessBy_97 : decode c_Mo_guessBy 97 = .ok (.iload 5, 2) := by decide +kernel
theorem d_Mo_guessBy_99 : decode c_Mo_guessBy 99 = .ok (.iload 9, 2) := by decide +kernel
theorem d_Mo_guessBy_101 : decode c_Mo_guessBy 101 = .ok (.ifCond .eq 7, 3) := by decide +kernel
theorem d_Mo_guessBy_104 : decode c_Mo_guessBy 104 = .ok (.iconst 1, 1) := by decide +kernel
theorem d_Mo_guessBy_105 : decode c_Mo_guessBy 105 = .ok (.goto 4, 3) := by decide +kernel
theorem d_Mo_guessBy_108 : decode c_Mo_guessBy 108 = .ok (.iconst 0, 1) := by decide +kernel
theorem d_Mo_guessBy_109 : decode c_Mo_guessBy 109 = .ok (.iadd, 1) := by decide +kernel
theorem d_Mo_guessBy_110 : decode c_Mo_guessBy 110 = .ok (.istore 5, 2) := by decide +kernel
theorem d_Mo_guessBy_112 : decode c_Mo_guessBy 112 = .ok (.iload 9, 2) := by decide +kernel
theorem d_Mo_guessBy_114 : decode c_Mo_guessBy 114 = .ok (.ifCond .eq 13, 3) := by decide +kernel
theorem d_Mo_guessBy_117 : decode c_Mo_guessBy 117 = .ok (.iload 6, 2) := by decide +kernel
theorem d_Mo_guessBy_119 : decode c_Mo_guessBy 119 = .ok (.ifCond .ge 8, 3) := by decide +kernel
theorem d_Mo_guessBy_122 : decode c_Mo_guessBy 122 = .ok (.iload 7, 2) := by decide +kernel
theorem d_Mo_guessBy_124 : decode c_Mo_guessBy 124 = .ok (.goto 5, 3) := by decide +kernel
theorem d_Mo_guessBy_127 : decode c_Mo_guessBy 127 = .ok (.iload 6, 2) := by decide +kernel
theorem d_Mo_guessBy_129 : decode c_Mo_guessBy 129 = .ok (.istore 6, 2) := by decide +kernel
theorem d_Mo_guessBy_131 : decode c_Mo_guessBy 131 = .ok (.iinc 7 1, 3) := by decide +kernel
theorem d_Mo_guessBy_134 : decode c_Mo_guessBy 134 = .ok (.goto (-121), 3) := by decide +kernel
theorem d_Mo_guessBy_137 : decode c_Mo_guessBy 137 = .ok (.iload_n 3, 1) := by decide +kernel
theorem d_Mo_guessBy_138 : decode c_Mo_guessBy 138 = .ok (.ifCond .ne 8, 3) := by decide +kernel
theorem d_Mo_guessBy_141 : decode c_Mo_guessBy 141 = .ok (.iload 4, 2) := by decide +kernel
theorem d_Mo_guessBy_143 : decode c_Mo_guessBy 143 = .ok (.goto 15, 3) := by decide +kernel
theorem d_Mo_guessBy_146 : decode c_Mo_guessBy 146 = .ok (.iload_n 3, 1) := by decide +kernel
theorem d_Mo_guessBy_147 : decode c_Mo_guessBy 147 = .ok (.iconst 1, 1) := by decide +kernel
theorem d_Mo_guessBy_148 : decode c_Mo_guessBy 148 = .ok (.if_icmp .ne 8, 3) := by decide +kernel
theorem d_Mo_guessBy_151 : decode c_Mo_guessBy 151 = .ok (.iload 5, 2) := by decide +kernel
theorem d_Mo_guessBy_153 : decode c_Mo_guessBy 153 = .ok (.goto 5, 3) := by decide +kernel
theorem d_Mo_guessBy_156 : decode c_Mo_guessBy 156 = .ok (.iload 6, 2) := by decide +kernel
theorem d_Mo_guessBy_158 : decode c_Mo_guessBy 158 = .ok (.ireturn, 1) := by decide +kernel
set_option maxHeartbeats 8000000 in
theorem C_Mo_guessBy {M : MM} {n m F : Nat} {J : JT} {q : Nat → Int32} (hJ : MJ M n J) (hF : F + m ≤ 240) (hq : ∀ t, t < m → M 62 (F + t) = q t) {y : Int32} : AF y_Mo_guessBy c_Mo_guessBy 10 (some .int) 5 [vR 36, vI (i3 F), vI (i3 m), vI y] (M) (some (vI (guN J n q m y))) (M) := by
  have h6 := hJ.1
  have hM := hJ.2.1
  have hp := pow6 h6
  refine AF.of k_Mo_guessBy (lo := [some (vR 36), some (vI (i3 F)), some (vI (i3 m)), some (vI y), none, none, none, none, none, none]) rfl (Nat.le_of_ble_eq_true rfl) (fun X hX hR => ?_)
  refine v_iconst (pc := 0) (v := 0) hX (by decide) d_Mo_guessBy_0 ?_
  refine v_istore (pc := 1) (lo' := [some (vR _), some (vI _), some (vI _), some (vI _), some (vI _), none, none, none, none, none]) hX (Nat.le_of_ble_eq_true rfl) rfl d_Mo_guessBy_1 ?_
  refine v_iconst (pc := 3) (v := 0) hX (by decide) d_Mo_guessBy_3 ?_
  refine v_istore (pc := 4) (lo' := [some (vR _), some (vI _), some (vI _), some (vI _), some (vI _), some (vI _), none, none, none, none]) hX (Nat.le_of_ble_eq_true rfl) rfl d_Mo_guessBy_4 ?_
  refine v_bipush (pc := 6) (v := (-9)) hX (by decide) d_Mo_guessBy_6 ?_
  refine v_istore (pc := 8) (lo' := [some (vR _), some (vI _), some (vI _), some (vI _), some (vI _), some (vI _), some (vI _), none, none, none]) hX (Nat.le_of_ble_eq_true rfl) rfl d_Mo_guessBy_8 ?_
  refine v_iconst (pc := 10) (v := 1) hX (by decide) d_Mo_guessBy_10 ?_
  refine v_istore (pc := 11) (lo' := [some (vR _), some (vI _), some (vI _), some (vI _), some (vI _), some (vI _), some (vI _), some (vI _), none, none]) hX (Nat.le_of_ble_eq_true rfl) rfl d_Mo_guessBy_11 ?_
  refine VW.cast (lo' := [some (vR 36), some (vI (i3 F)), some (vI (i3 m)), some (vI y), some (vI (i3 (gaN (fun s => hmB J n s q m) 0))), some (vI (i3 (cntB (fun s => decide (pop 6 s = 2) && hmB J n s q m) 0))), some (vI (en (fstB (fun s => decide (pop 6 s = 2) && hmB J n s q m) 0))), some (vI (i3 (0 + 1))), none, none]) (st' := []) (G' := gM (M)) rfl rfl rfl ?_
  refine v_for (X := X) (head := 13) (2 ^ n - 1) (fun kk => [some (vR 36), some (vI (i3 F)), some (vI (i3 m)), some (vI y), some (vI (i3 (gaN (fun s => hmB J n s q m) kk))), some (vI (i3 (cntB (fun s => decide (pop 6 s = 2) && hmB J n s q m) kk))), some (vI (en (fstB (fun s => decide (pop 6 s = 2) && hmB J n s q m) kk))), some (vI (i3 (kk + 1))), none, none]) (fun kk => M) (fun k hk ih13 => ?_) ?_
  · show VW X 13 [some (vR 36), some (vI (i3 F)), some (vI (i3 m)), some (vI y), some (vI (i3 (gaN (fun s => hmB J n s q m) k))), some (vI (i3 (cntB (fun s => decide (pop 6 s = 2) && hmB J n s q m) k))), some (vI (en (fstB (fun s => decide (pop 6 s = 2) && hmB J n s q m) k))), some (vI (i3 (k + 1))), none, none] [] (gM (M))
    have hs : k + 1 < 64 := by omega
    have hpl := pop_lt hs
    have hga := gaN_lt (fun s => hmB J n s q m) k (by omega)
    have hfl := fstB_le (fun s => decide (pop 6 s = 2) && hmB J n s q m) k
    refine v_iload (pc := 13) hX rfl d_Mo_guessBy_13 ?_
    refine v_iconst (pc := 15) (v := 1) hX (by decide) d_Mo_guessBy_15 ?_
    refine v_aload_n (pc := 16) hX rfl d_Mo_guessBy_16 ?_
    refine g_getI (pc := 17) hX fl_Mo_101 rfl rfl d_Mo_guessBy_17 ?_
    rw [hM]
    refine v_ishl (pc := 20) hX d_Mo_guessBy_20 ?_
    rw [shl_i3 n (by omega)]
    refine v_icmp_ge (pc := 21) (tgt := 137) hX d_Mo_guessBy_21 rfl (fun h21 => False.elim (i3_ge_abs (k := k + 1) (n := 2 ^ n) (by omega) (by omega) h21)) (fun h21 => ?_)
    refine v_iload (pc := 24) hX rfl d_Mo_guessBy_24 ?_
    refine f_callS (pc := 26) hX k_Mo_bits ks_Mo_bits ml_Mo_184 (C_Mo_bits (by omega)) rfl rfl rfl (Nat.le_of_ble_eq_true rfl) (Nat.le_of_ble_eq_true rfl) (Nat.le_of_ble_eq_true rfl) d_Mo_guessBy_26 ?_
    refine v_iconst (pc := 29) (v := 3) hX (by decide) d_Mo_guessBy_29 ?_
    refine v_icmp_ge (pc := 30) (tgt := 48) hX d_Mo_guessBy_30 rfl (fun h30 => ?_) (fun h30 => ?_)
    · have p3 : 3 ≤ pop 6 (k + 1) := (i3_le (a := 3) (by decide) (by omega)).mp h30
      have eA : gaN (fun s => hmB J n s q m) (k + 1) = gaN (fun s => hmB J n s q m) k := ga_n1 (by omega)
      have eB : cntB (fun s => decide (pop 6 s = 2) && hmB J n s q m) (k + 1) = cntB (fun s => decide (pop 6 s = 2) && hmB J n s q m) k := cn_n (by rw [decide_eq_false (show ¬ pop 6 (k + 1) = 2 by omega)]; rfl)
      have eC : fstB (fun s => decide (pop 6 s = 2) && hmB J n s q m) (k + 1) = fstB (fun s => decide (pop 6 s = 2) && hmB J n s q m) k := fs_n (by rw [decide_eq_false (show ¬ pop 6 (k + 1) = 2 by omega)]; rfl)
      refine v_iconst (pc := 48) (v := 0) hX (by decide) d_Mo_guessBy_48 ?_
      refine v_istore (pc := 49) (lo' := [some (vR _), some (vI _), some (vI _), some (vI _), some (vI _), some (vI _), some (vI _), some (vI _), some (vI _), none]) hX (Nat.le_of_ble_eq_true rfl) rfl d_Mo_guessBy_49 ?_
      refine v_iload (pc := 51) hX rfl d_Mo_guessBy_51 ?_
      refine v_iload (pc := 53) hX rfl d_Mo_guessBy_53 ?_
      refine v_if_eq (pc := 55) (tgt := 72) hX d_Mo_guessBy_55 rfl (fun h55 => ?_) (fun h55 => False.elim (by revert h55; decide))
      refine v_iconst (pc := 72) (v := 0) hX (by decide) d_Mo_guessBy_72 ?_
      refine v_ior (pc := 73) hX d_Mo_guessBy_73 ?_
      refine v_istore (pc := 74) (lo' := [some (vR _), some (vI _), some (vI _), some (vI _), some (vI _), some (vI _), some (vI _), some (vI _), some (vI _), none]) hX (Nat.le_of_ble_eq_true rfl) rfl d_Mo_guessBy_74 ?_
      refine v_iload (pc := 76) hX rfl d_Mo_guessBy_76 ?_
      refine v_if_eq (pc := 78) (tgt := 94) hX d_Mo_guessBy_78 rfl (fun h78 => ?_) (fun h78 => False.elim (by revert h78; decide))
      refine v_iconst (pc := 94) (v := 0) hX (by decide) d_Mo_guessBy_94 ?_
      refine v_istore (pc := 95) (lo' := [some (vR _), some (vI _), some (vI _), some (vI _), some (vI _), some (vI _), some (vI _), some (vI _), some (vI _), some (vI _)]) hX (Nat.le_of_ble_eq_true rfl) rfl d_Mo_guessBy_95 ?_
      refine v_iload (pc := 97) hX rfl d_Mo_guessBy_97 ?_
      refine v_iload (pc := 99) hX rfl d_Mo_guessBy_99 ?_
      refine v_if_eq (pc := 101) (tgt := 108) hX d_Mo_guessBy_101 rfl (fun h101 => ?_) (fun h101 => False.elim (by revert h101; decide))
      refine v_iconst (pc := 108) (v := 0) hX (by decide) d_Mo_guessBy_108 ?_
      refine v_iadd (pc := 109) hX d_Mo_guessBy_109 ?_
      refine v_istore (pc := 110) (lo' := [some (vR _), some (vI _), some (vI _), some (vI _), some (vI _), some (vI _), some (vI _), some (vI _), some (vI _), some (vI _)]) hX (Nat.le_of_ble_eq_true rfl) rfl d_Mo_guessBy_110 ?_
      refine v_iload (pc := 112) hX rfl d_Mo_guessBy_112 ?_
      refine v_if_eq (pc := 114) (tgt := 127) hX d_Mo_guessBy_114 rfl (fun h114 => ?_) (fun h114 => False.elim (by revert h114; decide))
      refine v_iload (pc := 127) hX rfl d_Mo_guessBy_127 ?_
      refine v_istore (pc := 129) (lo' := [some (vR _), some (vI _), some (vI _), some (vI _), some (vI _), some (vI _), some (vI _), some (vI _), some (vI _), some (vI _)]) hX (Nat.le_of_ble_eq_true rfl) rfl d_Mo_guessBy_129 ?_
      refine v_iinc (pc := 131) (lo' := [some (vR _), some (vI _), some (vI _), some (vI _), some (vI _), some (vI _), some (vI _), some (vI _), some (vI _), some (vI _)]) hX rfl rfl d_Mo_guessBy_131 ?_
      refine v_goto (pc := 134) (tgt := 13) hX d_Mo_guessBy_134 rfl ?_
      refine VW.fg [true, true, true, true, true, true, true, true, false, false] ?_
      exact VW.cast (by rw [eA, eB, eC, i3_succ (k + 1)]; first | (rw [Int32.add_zero, or_0]; rfl) | (rw [Int32.add_zero, or6_i3 _ hga _ hs]; rfl) | (rw [i3_succ, or_0, en_p (Nat.succ_ne_zero k)]; rfl) | (rw [i3_succ, or_0]; rfl) | (rw [i3_succ (cntB (fun s => decide (pop 6 s = 2) && hmB J n s q m) k), or6_i3 _ hga _ hs, en_p (Nat.succ_ne_zero k)]; rfl) | (rw [i3_succ (cntB (fun s => decide (pop 6 s = 2) && hmB J n s q m) k), or6_i3 _ hga _ hs]; rfl)) rfl rfl ih13
    · refine v_aload_n (pc := 33) hX rfl d_Mo_guessBy_33 ?_
      refine v_iload (pc := 34) hX rfl d_Mo_guessBy_34 ?_
      refine v_iload_n (pc := 36) hX rfl d_Mo_guessBy_36 ?_
      refine v_iload_n (pc := 37) hX rfl d_Mo_guessBy_37 ?_
      refine f_callV (pc := 38) hX k_Mo_isTold ki_Mo_isTold kv_Mo_isTold ml_Mo_231 (C_Mo_isTold hJ hF hq (by omega) (by omega)) rfl rfl rfl rfl rfl (Nat.le_of_ble_eq_true rfl) (Nat.le_of_ble_eq_true rfl) (Nat.le_of_ble_eq_true rfl) d_Mo_guessBy_38 ?_
      refine f_ifeqB (pc := 41) (tgt := 48) hX d_Mo_guessBy_41 rfl (fun h41 => ?_) (fun h41 => ?_)
      · have eA : gaN (fun s => hmB J n s q m) (k + 1) = gaN (fun s => hmB J n s q m) k := ga_n2 h41
        have eB : cntB (fun s => decide (pop 6 s = 2) && hmB J n s q m) (k + 1) = cntB (fun s => decide (pop 6 s = 2) && hmB J n s q m) k := cn_n (by show (decide (pop 6 (k + 1) = 2) && hmB J n (k + 1) q m) = false; rw [h41]; simp)
        have eC : fstB (fun s => decide (pop 6 s = 2) && hmB J n s q m) (k + 1) = fstB (fun s => decide (pop 6 s = 2) && hmB J n s q m) k := fs_n (by show (decide (pop 6 (k + 1) = 2) && hmB J n (k + 1) q m) = false; rw [h41]; simp)
        refine v_iconst (pc := 48) (v := 0) hX (by decide) d_Mo_guessBy_48 ?_
        refine v_istore (pc := 49) (lo' := [some (vR _), some (vI _), some (vI _), some (vI _), some (vI _), some (vI _), some (vI _), some (vI _), some (vI _), none]) hX (Nat.le_of_ble_eq_true rfl) rfl d_Mo_guessBy_49 ?_
        refine v_iload (pc := 51) hX rfl d_Mo_guessBy_51 ?_
        refine v_iload (pc := 53) hX rfl d_Mo_guessBy_53 ?_
        refine v_if_eq (pc := 55) (tgt := 72) hX d_Mo_guessBy_55 rfl (fun h55 => ?_) (fun h55 => False.elim (by revert h55; decide))
        refine v_iconst (pc := 72) (v := 0) hX (by decide) d_Mo_guessBy_72 ?_
        refine v_ior (pc := 73) hX d_Mo_guessBy_73 ?_
        refine v_istore (pc := 74) (lo' := [some (vR _), some (vI _), some (vI _), some (vI _), some (vI _), some (vI _), some (vI _), some (vI _), some (vI _), none]) hX (Nat.le_of_ble_eq_true rfl) rfl d_Mo_guessBy_74 ?_
        refine v_iload (pc := 76) hX rfl d_Mo_guessBy_76 ?_
        refine v_if_eq (pc := 78) (tgt := 94) hX d_Mo_guessBy_78 rfl (fun h78 => ?_) (fun h78 => False.elim (by revert h78; decide))
        refine v_iconst (pc := 94) (v := 0) hX (by decide) d_Mo_guessBy_94 ?_
        refine v_istore (pc := 95) (lo' := [some (vR _), some (vI _), some (vI _), some (vI _), some (vI _), some (vI _), some (vI _), some (vI _), some (vI _), some (vI _)]) hX (Nat.le_of_ble_eq_true rfl) rfl d_Mo_guessBy_95 ?_
        refine v_iload (pc := 97) hX rfl d_Mo_guessBy_97 ?_
        refine v_iload (pc := 99) hX rfl d_Mo_guessBy_99 ?_
        refine v_if_eq (pc := 101) (tgt := 108) hX d_Mo_guessBy_101 rfl (fun h101 => ?_) (fun h101 => False.elim (by revert h101; decide))
        refine v_iconst (pc := 108) (v := 0) hX (by decide) d_Mo_guessBy_108 ?_
        refine v_iadd (pc := 109) hX d_Mo_guessBy_109 ?_
        refine v_istore (pc := 110) (lo' := [some (vR _), some (vI _), some (vI _), some (vI _), some (vI _), some (vI _), some (vI _), some (vI _), some (vI _), some (vI _)]) hX (Nat.le_of_ble_eq_true rfl) rfl d_Mo_guessBy_110 ?_
        refine v_iload (pc := 112) hX rfl d_Mo_guessBy_112 ?_
        refine v_if_eq (pc := 114) (tgt := 127) hX d_Mo_guessBy_114 rfl (fun h114 => ?_) (fun h114 => False.elim (by revert h114; decide))
        refine v_iload (pc := 127) hX rfl d_Mo_guessBy_127 ?_
        refine v_istore (pc := 129) (lo' := [some (vR _), some (vI _), some (vI _), some (vI _), some (vI _), some (vI _), some (vI _), some (vI _), some (vI _), some (vI _)]) hX (Nat.le_of_ble_eq_true rfl) rfl d_Mo_guessBy_129 ?_
        refine v_iinc (pc := 131) (lo' := [some (vR _), some (vI _), some (vI _), some (vI _), some (vI _), some (vI _), some (vI _), some (vI _), some (vI _), some (vI _)]) hX rfl rfl d_Mo_guessBy_131 ?_
        refine v_goto (pc := 134) (tgt := 13) hX d_Mo_guessBy_134 rfl ?_
        refine VW.fg [true, true, true, true, true, true, true, true, false, false] ?_
        exact VW.cast (by rw [eA, eB, eC, i3_succ (k + 1)]; first | (rw [Int32.add_zero, or_0]; rfl) | (rw [Int32.add_zero, or6_i3 _ hga _ hs]; rfl) | (rw [i3_succ, or_0, en_p (Nat.succ_ne_zero k)]; rfl) | (rw [i3_succ, or_0]; rfl) | (rw [i3_succ (cntB (fun s => decide (pop 6 s = 2) && hmB J n s q m) k), or6_i3 _ hga _ hs, en_p (Nat.succ_ne_zero k)]; rfl) | (rw [i3_succ (cntB (fun s => decide (pop 6 s = 2) && hmB J n s q m) k), or6_i3 _ hga _ hs]; rfl)) rfl rfl ih13
      · refine v_iconst (pc := 44) (v := 1) hX (by decide) d_Mo_guessBy_44 ?_
        refine v_goto (pc := 45) (tgt := 49) hX d_Mo_guessBy_45 rfl ?_
        refine v_istore (pc := 49) (lo' := [some (vR _), some (vI _), some (vI _), some (vI _), some (vI _), some (vI _), some (vI _), some (vI _), some (vI _), none]) hX (Nat.le_of_ble_eq_true rfl) rfl d_Mo_guessBy_49 ?_
        refine v_iload (pc := 51) hX rfl d_Mo_guessBy_51 ?_
        refine v_iload (pc := 53) hX rfl d_Mo_guessBy_53 ?_
        refine v_if_eq (pc := 55) (tgt := 72) hX d_Mo_guessBy_55 rfl (fun h55 => False.elim (by revert h55; decide)) (fun h55 => ?_)
        refine v_iload (pc := 58) hX rfl d_Mo_guessBy_58 ?_
        refine f_callS (pc := 60) hX k_Mo_bits ks_Mo_bits ml_Mo_184 (C_Mo_bits (by omega)) rfl rfl rfl (Nat.le_of_ble_eq_true rfl) (Nat.le_of_ble_eq_true rfl) (Nat.le_of_ble_eq_true rfl) d_Mo_guessBy_60 ?_
        refine v_iconst (pc := 63) (v := 1) hX (by decide) d_Mo_guessBy_63 ?_
        refine v_icmp_ne (pc := 64) (tgt := 72) hX d_Mo_guessBy_64 rfl (fun h64 => ?_) (fun h64 => ?_)
        · have eA : gaN (fun s => hmB J n s q m) (k + 1) = gaN (fun s => hmB J n s q m) k := ga_n1 (fun w => h64 (by rw [w]; rfl))
          refine v_iconst (pc := 72) (v := 0) hX (by decide) d_Mo_guessBy_72 ?_
          refine v_ior (pc := 73) hX d_Mo_guessBy_73 ?_
          refine v_istore (pc := 74) (lo' := [some (vR _), some (vI _), some (vI _), some (vI _), some (vI _), some (vI _), some (vI _), some (vI _), some (vI _), none]) hX (Nat.le_of_ble_eq_true rfl) rfl d_Mo_guessBy_74 ?_
          refine v_iload (pc := 76) hX rfl d_Mo_guessBy_76 ?_
          refine v_if_eq (pc := 78) (tgt := 94) hX d_Mo_guessBy_78 rfl (fun h78 => False.elim (by revert h78; decide)) (fun h78 => ?_)
          refine v_iload (pc := 81) hX rfl d_Mo_guessBy_81 ?_
          refine f_callS (pc := 83) hX k_Mo_bits ks_Mo_bits ml_Mo_184 (C_Mo_bits (by omega)) rfl rfl rfl (Nat.le_of_ble_eq_true rfl) (Nat.le_of_ble_eq_true rfl) (Nat.le_of_ble_eq_true rfl) d_Mo_guessBy_83 ?_
          refine v_iconst (pc := 86) (v := 2) hX (by decide) d_Mo_guessBy_86 ?_
          refine v_icmp_ne (pc := 87) (tgt := 94) hX d_Mo_guessBy_87 rfl (fun h87 => ?_) (fun h87 => ?_)
          · have p2 : ¬ pop 6 (k + 1) = 2 := fun w => h87 (by rw [w]; rfl)
            have eB : cntB (fun s => decide (pop 6 s = 2) && hmB J n s q m) (k + 1) = cntB (fun s => decide (pop 6 s = 2) && hmB J n s q m) k := cn_n (by rw [decide_eq_false p2]; rfl)
            have eC : fstB (fun s => decide (pop 6 s = 2) && hmB J n s q m) (k + 1) = fstB (fun s => decide (pop 6 s = 2) && hmB J n s q m) k := fs_n (by rw [decide_eq_false p2]; rfl)
            refine v_iconst (pc := 94) (v := 0) hX (by decide) d_Mo_guessBy_94 ?_
            refine v_istore (pc := 95) (lo' := [some (vR _), some (vI _), some (vI _), some (vI _), some (vI _), some (vI _), some (vI _), some (vI _), some (vI _), some (vI _)]) hX (Nat.le_of_ble_eq_true rfl) rfl d_Mo_guessBy_95 ?_
            refine v_iload (pc := 97) hX rfl d_Mo_guessBy_97 ?_
            refine v_iload (pc := 99) hX rfl d_Mo_guessBy_99 ?_
            refine v_if_eq (pc := 101) (tgt := 108) hX d_Mo_guessBy_101 rfl (fun h101 => ?_) (fun h101 => False.elim (by revert h101; decide))
            refine v_iconst (pc := 108) (v := 0) hX (by decide) d_Mo_guessBy_108 ?_
            refine v_iadd (pc := 109) hX d_Mo_guessBy_109 ?_
            refine v_istore (pc := 110) (lo' := [some (vR _), some (vI _), some (vI _), some (vI _), some (vI _), some (vI _), some (vI _), some (vI _), some (vI _), some (vI _)]) hX (Nat.le_of_ble_eq_true rfl) rfl d_Mo_guessBy_110 ?_
            refine v_iload (pc := 112) hX rfl d_Mo_guessBy_112 ?_
            refine v_if_eq (pc := 114) (tgt := 127) hX d_Mo_guessBy_114 rfl (fun h114 => ?_) (fun h114 => False.elim (by revert h114; decide))
            refine v_iload (pc := 127) hX rfl d_Mo_guessBy_127 ?_
            refine v_istore (pc := 129) (lo' := [some (vR _), some (vI _), some (vI _), some (vI _), some (vI _), some (vI _), some (vI _), some (vI _), some (vI _), some (vI _)]) hX (Nat.le_of_ble_eq_true rfl) rfl d_Mo_guessBy_129 ?_
            refine v_iinc (pc := 131) (lo' := [some (vR _), some (vI _), some (vI _), some (vI _), some (vI _), some (vI _), some (vI _), some (vI _), some (vI _), some (vI _)]) hX rfl rfl d_Mo_guessBy_131 ?_
            refine v_goto (pc := 134) (tgt := 13) hX d_Mo_guessBy_134 rfl ?_
            refine VW.fg [true, true, true, true, true, true, true, true, false, false] ?_
            exact VW.cast (by rw [eA, eB, eC, i3_succ (k + 1)]; first | (rw [Int32.add_zero, or_0]; rfl) | (rw [Int32.add_zero, or6_i3 _ hga _ hs]; rfl) | (rw [i3_succ, or_0, en_p (Nat.succ_ne_zero k)]; rfl) | (rw [i3_succ, or_0]; rfl) | (rw [i3_succ (cntB (fun s => decide (pop 6 s = 2) && hmB J n s q m) k), or6_i3 _ hga _ hs, en_p (Nat.succ_ne_zero k)]; rfl) | (rw [i3_succ (cntB (fun s => decide (pop 6 s = 2) && hmB J n s q m) k), or6_i3 _ hga _ hs]; rfl)) rfl rfl ih13
          · have p2 : pop 6 (k + 1) = 2 := (i3_inj (a := pop 6 (k + 1)) (b := 2) (by omega) (by decide)).mp h87
            have t2 : (fun s => decide (pop 6 s = 2) && hmB J n s q m) (k + 1) = true := by show (decide (pop 6 (k + 1) = 2) && hmB J n (k + 1) q m) = true; rw [decide_eq_true p2, h41]; rfl
            have eB : cntB (fun s => decide (pop 6 s = 2) && hmB J n s q m) (k + 1) = cntB (fun s => decide (pop 6 s = 2) && hmB J n s q m) k + 1 := cn_y t2
            refine v_iconst (pc := 90) (v := 1) hX (by decide) d_Mo_guessBy_90 ?_
            refine v_goto (pc := 91) (tgt := 95) hX d_Mo_guessBy_91 rfl ?_
            refine v_istore (pc := 95) (lo' := [some (vR _), some (vI _), some (vI _), some (vI _), some (vI _), some (vI _), some (vI _), some (vI _), some (vI _), some (vI _)]) hX (Nat.le_of_ble_eq_true rfl) rfl d_Mo_guessBy_95 ?_
            refine v_iload (pc := 97) hX rfl d_Mo_guessBy_97 ?_
            refine v_iload (pc := 99) hX rfl d_Mo_guessBy_99 ?_
            refine v_if_eq (pc := 101) (tgt := 108) hX d_Mo_guessBy_101 rfl (fun h101 => False.elim (by revert h101; decide)) (fun h101 => ?_)
            refine v_iconst (pc := 104) (v := 1) hX (by decide) d_Mo_guessBy_104 ?_
            refine v_goto (pc := 105) (tgt := 109) hX d_Mo_guessBy_105 rfl ?_
            refine v_iadd (pc := 109) hX d_Mo_guessBy_109 ?_
            refine v_istore (pc := 110) (lo' := [some (vR _), some (vI _), some (vI _), some (vI _), some (vI _), some (vI _), some (vI _), some (vI _), some (vI _), some (vI _)]) hX (Nat.le_of_ble_eq_true rfl) rfl d_Mo_guessBy_110 ?_
            refine v_iload (pc := 112) hX rfl d_Mo_guessBy_112 ?_
            refine v_if_eq (pc := 114) (tgt := 127) hX d_Mo_guessBy_114 rfl (fun h114 => False.elim (by revert h114; decide)) (fun h114 => ?_)
            refine v_iload (pc := 117) hX rfl d_Mo_guessBy_117 ?_
            refine v_if_ge (pc := 119) (tgt := 127) hX d_Mo_guessBy_119 rfl (fun h119 => ?_) (fun h119 => ?_)
            · have eC : fstB (fun s => decide (pop 6 s = 2) && hmB J n s q m) (k + 1) = fstB (fun s => decide (pop 6 s = 2) && hmB J n s q m) k := fs_s (fun w => by rw [w] at h119; exact absurd h119 (by decide))
              refine v_iload (pc := 127) hX rfl d_Mo_guessBy_127 ?_
              refine v_istore (pc := 129) (lo' := [some (vR _), some (vI _), some (vI _), some (vI _), some (vI _), some (vI _), some (vI _), some (vI _), some (vI _), some (vI _)]) hX (Nat.le_of_ble_eq_true rfl) rfl d_Mo_guessBy_129 ?_
              refine v_iinc (pc := 131) (lo' := [some (vR _), some (vI _), some (vI _), some (vI _), some (vI _), some (vI _), some (vI _), some (vI _), some (vI _), some (vI _)]) hX rfl rfl d_Mo_guessBy_131 ?_
              refine v_goto (pc := 134) (tgt := 13) hX d_Mo_guessBy_134 rfl ?_
              refine VW.fg [true, true, true, true, true, true, true, true, false, false] ?_
              exact VW.cast (by rw [eA, eB, eC, i3_succ (k + 1)]; first | (rw [Int32.add_zero, or_0]; rfl) | (rw [Int32.add_zero, or6_i3 _ hga _ hs]; rfl) | (rw [i3_succ, or_0, en_p (Nat.succ_ne_zero k)]; rfl) | (rw [i3_succ, or_0]; rfl) | (rw [i3_succ (cntB (fun s => decide (pop 6 s = 2) && hmB J n s q m) k), or6_i3 _ hga _ hs, en_p (Nat.succ_ne_zero k)]; rfl) | (rw [i3_succ (cntB (fun s => decide (pop 6 s = 2) && hmB J n s q m) k), or6_i3 _ hga _ hs]; rfl)) rfl rfl ih13
            · have eC : fstB (fun s => decide (pop 6 s = 2) && hmB J n s q m) (k + 1) = k + 1 := fs_y (by by_cases w : fstB (fun s => decide (pop 6 s = 2) && hmB J n s q m) k = 0; exact w; exact absurd (by rw [en_p w]; exact (i3_le (a := 0) (by decide) (by omega)).mpr (Nat.zero_le _)) h119) t2
              refine v_iload (pc := 122) hX rfl d_Mo_guessBy_122 ?_
              refine v_goto (pc := 124) (tgt := 129) hX d_Mo_guessBy_124 rfl ?_
              refine v_istore (pc := 129) (lo' := [some (vR _), some (vI _), some (vI _), some (vI _), some (vI _), some (vI _), some (vI _), some (vI _), some (vI _), some (vI _)]) hX (Nat.le_of_ble_eq_true rfl) rfl d_Mo_guessBy_129 ?_
              refine v_iinc (pc := 131) (lo' := [some (vR _), some (vI _), some (vI _), some (vI _), some (vI _), some (vI _), some (vI _), some (vI _), some (vI _), some (vI _)]) hX rfl rfl d_Mo_guessBy_131 ?_
              refine v_goto (pc := 134) (tgt := 13) hX d_Mo_guessBy_134 rfl ?_
              refine VW.fg [true, true, true, true, true, true, true, true, false, false] ?_
              exact VW.cast (by rw [eA, eB, eC, i3_succ (k + 1)]; first | (rw [Int32.add_zero, or_0]; rfl) | (rw [Int32.add_zero, or6_i3 _ hga _ hs]; rfl) | (rw [i3_succ, or_0, en_p (Nat.succ_ne_zero k)]; rfl) | (rw [i3_succ, or_0]; rfl) | (rw [i3_succ (cntB (fun s => decide (pop 6 s = 2) && hmB J n s q m) k), or6_i3 _ hga _ hs, en_p (Nat.succ_ne_zero k)]; rfl) | (rw [i3_succ (cntB (fun s => decide (pop 6 s = 2) && hmB J n s q m) k), or6_i3 _ hga _ hs]; rfl)) rfl rfl ih13
        · have eA : gaN (fun s => hmB J n s q m) (k + 1) = gaN (fun s => hmB J n s q m) k ||| (k + 1) := ga_y ((i3_inj (a := pop 6 (k + 1)) (b := 1) (by omega) (by decide)).mp h64) h41
          refine v_iload (pc := 67) hX rfl d_Mo_guessBy_67 ?_
          refine v_goto (pc := 69) (tgt := 73) hX d_Mo_guessBy_69 rfl ?_
          refine v_ior (pc := 73) hX d_Mo_guessBy_73 ?_
          refine v_istore (pc := 74) (lo' := [some (vR _), some (vI _), some (vI _), some (vI _), some (vI _), some (vI _), some (vI _), some (vI _), some (vI _), none]) hX (Nat.le_of_ble_eq_true rfl) rfl d_Mo_guessBy_74 ?_
          refine v_iload (pc := 76) hX rfl d_Mo_guessBy_76 ?_
          refine v_if_eq (pc := 78) (tgt := 94) hX d_Mo_guessBy_78 rfl (fun h78 => False.elim (by revert h78; decide)) (fun h78 => ?_)
          refine v_iload (pc := 81) hX rfl d_Mo_guessBy_81 ?_
          refine f_callS (pc := 83) hX k_Mo_bits ks_Mo_bits ml_Mo_184 (C_Mo_bits (by omega)) rfl rfl rfl (Nat.le_of_ble_eq_true rfl) (Nat.le_of_ble_eq_true rfl) (Nat.le_of_ble_eq_true rfl) d_Mo_guessBy_83 ?_
          refine v_iconst (pc := 86) (v := 2) hX (by decide) d_Mo_guessBy_86 ?_
          refine v_icmp_ne (pc := 87) (tgt := 94) hX d_Mo_guessBy_87 rfl (fun h87 => ?_) (fun h87 => ?_)
          · have p2 : ¬ pop 6 (k + 1) = 2 := fun w => h87 (by rw [w]; rfl)
            have eB : cntB (fun s => decide (pop 6 s = 2) && hmB J n s q m) (k + 1) = cntB (fun s => decide (pop 6 s = 2) && hmB J n s q m) k := cn_n (by rw [decide_eq_false p2]; rfl)
            have eC : fstB (fun s => decide (pop 6 s = 2) && hmB J n s q m) (k + 1) = fstB (fun s => decide (pop 6 s = 2) && hmB J n s q m) k := fs_n (by rw [decide_eq_false p2]; rfl)
            refine v_iconst (pc := 94) (v := 0) hX (by decide) d_Mo_guessBy_94 ?_
            refine v_istore (pc := 95) (lo' := [some (vR _), some (vI _), some (vI _), some (vI _), some (vI _), some (vI _), some (vI _), some (vI _), some (vI _), some (vI _)]) hX (Nat.le_of_ble_eq_true rfl) rfl d_Mo_guessBy_95 ?_
            refine v_iload (pc := 97) hX rfl d_Mo_guessBy_97 ?_
            refine v_iload (pc := 99) hX rfl d_Mo_guessBy_99 ?_
            refine v_if_eq (pc := 101) (tgt := 108) hX d_Mo_guessBy_101 rfl (fun h101 => ?_) (fun h101 => False.elim (by revert h101; decide))
            refine v_iconst (pc := 108) (v := 0) hX (by decide) d_Mo_guessBy_108 ?_
            refine v_iadd (pc := 109) hX d_Mo_guessBy_109 ?_
            refine v_istore (pc := 110) (lo' := [some (vR _), some (vI _), some (vI _), some (vI _), some (vI _), some (vI _), some (vI _), some (vI _), some (vI _), some (vI _)]) hX (Nat.le_of_ble_eq_true rfl) rfl d_Mo_guessBy_110 ?_
            refine v_iload (pc := 112) hX rfl d_Mo_guessBy_112 ?_
            refine v_if_eq (pc := 114) (tgt := 127) hX d_Mo_guessBy_114 rfl (fun h114 => ?_) (fun h114 => False.elim (by revert h114; decide))
            refine v_iload (pc := 127) hX rfl d_Mo_guessBy_127 ?_
            refine v_istore (pc := 129) (lo' := [some (vR _), some (vI _), some (vI _), some (vI _), some (vI _), some (vI _), some (vI _), some (vI _), some (vI _), some (vI _)]) hX (Nat.le_of_ble_eq_true rfl) rfl d_Mo_guessBy_129 ?_
            refine v_iinc (pc := 131) (lo' := [some (vR _), some (vI _), some (vI _), some (vI _), some (vI _), some (vI _), some (vI _), some (vI _), some (vI _), some (vI _)]) hX rfl rfl d_Mo_guessBy_131 ?_
            refine v_goto (pc := 134) (tgt := 13) hX d_Mo_guessBy_134 rfl ?_
            refine VW.fg [true, true, true, true, true, true, true, true, false, false] ?_
            exact VW.cast (by rw [eA, eB, eC, i3_succ (k + 1)]; first | (rw [Int32.add_zero, or_0]; rfl) | (rw [Int32.add_zero, or6_i3 _ hga _ hs]; rfl) | (rw [i3_succ, or_0, en_p (Nat.succ_ne_zero k)]; rfl) | (rw [i3_succ, or_0]; rfl) | (rw [i3_succ (cntB (fun s => decide (pop 6 s = 2) && hmB J n s q m) k), or6_i3 _ hga _ hs, en_p (Nat.succ_ne_zero k)]; rfl) | (rw [i3_succ (cntB (fun s => decide (pop 6 s = 2) && hmB J n s q m) k), or6_i3 _ hga _ hs]; rfl)) rfl rfl ih13
          · have p2 : pop 6 (k + 1) = 2 := (i3_inj (a := pop 6 (k + 1)) (b := 2) (by omega) (by decide)).mp h87
            have t2 : (fun s => decide (pop 6 s = 2) && hmB J n s q m) (k + 1) = true := by show (decide (pop 6 (k + 1) = 2) && hmB J n (k + 1) q m) = true; rw [decide_eq_true p2, h41]; rfl
            have eB : cntB (fun s => decide (pop 6 s = 2) && hmB J n s q m) (k + 1) = cntB (fun s => decide (pop 6 s = 2) && hmB J n s q m) k + 1 := cn_y t2
            refine v_iconst (pc := 90) (v := 1) hX (by decide) d_Mo_guessBy_90 ?_
            refine v_goto (pc := 91) (tgt := 95) hX d_Mo_guessBy_91 rfl ?_
            refine v_istore (pc := 95) (lo' := [some (vR _), some (vI _), some (vI _), some (vI _), some (vI _), some (vI _), some (vI _), some (vI _), some (vI _), some (vI _)]) hX (Nat.le_of_ble_eq_true rfl) rfl d_Mo_guessBy_95 ?_
            refine v_iload (pc := 97) hX rfl d_Mo_guessBy_97 ?_
            refine v_iload (pc := 99) hX rfl d_Mo_guessBy_99 ?_
            refine v_if_eq (pc := 101) (tgt := 108) hX d_Mo_guessBy_101 rfl (fun h101 => False.elim (by revert h101; decide)) (fun h101 => ?_)
            refine v_iconst (pc := 104) (v := 1) hX (by decide) d_Mo_guessBy_104 ?_
            refine v_goto (pc := 105) (tgt := 109) hX d_Mo_guessBy_105 rfl ?_
            refine v_iadd (pc := 109) hX d_Mo_guessBy_109 ?_
            refine v_istore (pc := 110) (lo' := [some (vR _), some (vI _), some (vI _), some (vI _), some (vI _), some (vI _), some (vI _), some (vI _), some (vI _), some (vI _)]) hX (Nat.le_of_ble_eq_true rfl) rfl d_Mo_guessBy_110 ?_
            refine v_iload (pc := 112) hX rfl d_Mo_guessBy_112 ?_
            refine v_if_eq (pc := 114) (tgt := 127) hX d_Mo_guessBy_114 rfl (fun h114 => False.elim (by revert h114; decide)) (fun h114 => ?_)
            refine v_iload (pc := 117) hX rfl d_Mo_guessBy_117 ?_
            refine v_if_ge (pc := 119) (tgt := 127) hX d_Mo_guessBy_119 rfl (fun h119 => ?_) (fun h119 => ?_)
            · have eC : fstB (fun s => decide (pop 6 s = 2) && hmB J n s q m) (k + 1) = fstB (fun s => decide (pop 6 s = 2) && hmB J n s q m) k := fs_s (fun w => by rw [w] at h119; exact absurd h119 (by decide))
              refine v_iload (pc := 127) hX rfl d_Mo_guessBy_127 ?_
              refine v_istore (pc := 129) (lo' := [some (vR _), some (vI _), some (vI _), some (vI _), some (vI _), some (vI _), some (vI _), some (vI _), some (vI _), some (vI _)]) hX (Nat.le_of_ble_eq_true rfl) rfl d_Mo_guessBy_129 ?_
              refine v_iinc (pc := 131) (lo' := [some (vR _), some (vI _), some (vI _), some (vI _), some (vI _), some (vI _), some (vI _), some (vI _), some (vI _), some (vI _)]) hX rfl rfl d_Mo_guessBy_131 ?_
              refine v_goto (pc := 134) (tgt := 13) hX d_Mo_guessBy_134 rfl ?_
              refine VW.fg [true, true, true, true, true, true, true, true, false, false] ?_
              exact VW.cast (by rw [eA, eB, eC, i3_succ (k + 1)]; first | (rw [Int32.add_zero, or_0]; rfl) | (rw [Int32.add_zero, or6_i3 _ hga _ hs]; rfl) | (rw [i3_succ, or_0, en_p (Nat.succ_ne_zero k)]; rfl) | (rw [i3_succ, or_0]; rfl) | (rw [i3_succ (cntB (fun s => decide (pop 6 s = 2) && hmB J n s q m) k), or6_i3 _ hga _ hs, en_p (Nat.succ_ne_zero k)]; rfl) | (rw [i3_succ (cntB (fun s => decide (pop 6 s = 2) && hmB J n s q m) k), or6_i3 _ hga _ hs]; rfl)) rfl rfl ih13
            · have eC : fstB (fun s => decide (pop 6 s = 2) && hmB J n s q m) (k + 1) = k + 1 := fs_y (by by_cases w : fstB (fun s => decide (pop 6 s = 2) && hmB J n s q m) k = 0; exact w; exact absurd (by rw [en_p w]; exact (i3_le (a := 0) (by decide) (by omega)).mpr (Nat.zero_le _)) h119) t2
              refine v_iload (pc := 122) hX rfl d_Mo_guessBy_122 ?_
              refine v_goto (pc := 124) (tgt := 129) hX d_Mo_guessBy_124 rfl ?_
              refine v_istore (pc := 129) (lo' := [some (vR _), some (vI _), some (vI _), some (vI _), some (vI _), some (vI _), some (vI _), some (vI _), some (vI _), some (vI _)]) hX (Nat.le_of_ble_eq_true rfl) rfl d_Mo_guessBy_129 ?_
              refine v_iinc (pc := 131) (lo' := [some (vR _), some (vI _), some (vI _), some (vI _), some (vI _), some (vI _), some (vI _), some (vI _), some (vI _), some (vI _)]) hX rfl rfl d_Mo_guessBy_131 ?_
              refine v_goto (pc := 134) (tgt := 13) hX d_Mo_guessBy_134 rfl ?_
              refine VW.fg [true, true, true, true, true, true, true, true, false, false] ?_
              exact VW.cast (by rw [eA, eB, eC, i3_succ (k + 1)]; first | (rw [Int32.add_zero, or_0]; rfl) | (rw [Int32.add_zero, or6_i3 _ hga _ hs]; rfl) | (rw [i3_succ, or_0, en_p (Nat.succ_ne_zero k)]; rfl) | (rw [i3_succ, or_0]; rfl) | (rw [i3_succ (cntB (fun s => decide (pop 6 s = 2) && hmB J n s q m) k), or6_i3 _ hga _ hs, en_p (Nat.succ_ne_zero k)]; rfl) | (rw [i3_succ (cntB (fun s => decide (pop 6 s = 2) && hmB J n s q m) k), or6_i3 _ hga _ hs]; rfl)) rfl rfl ih13
  · show VW X 13 [some (vR 36), some (vI (i3 F)), some (vI (i3 m)), some (vI y), some (vI (i3 (gaN (fun s => hmB J n s q m) (2 ^ n - 1)))), some (vI (i3 (cntB (fun s => decide (pop 6 s = 2) && hmB J n s q m) (2 ^ n - 1)))), some (vI (en (fstB (fun s => decide (pop 6 s = 2) && hmB J n s q m) (2 ^ n - 1)))), some (vI (i3 ((2 ^ n - 1) + 1))), none, none] [] (gM (M))
    refine v_iload (pc := 13) hX rfl d_Mo_guessBy_13 ?_
    refine v_iconst (pc := 15) (v := 1) hX (by decide) d_Mo_guessBy_15 ?_
    refine v_aload_n (pc := 16) hX rfl d_Mo_guessBy_16 ?_
    refine g_getI (pc := 17) hX fl_Mo_101 rfl rfl d_Mo_guessBy_17 ?_
    rw [hM]
    refine v_ishl (pc := 20) hX d_Mo_guessBy_20 ?_
    rw [shl_i3 n (by omega)]
    refine v_icmp_ge (pc := 21) (tgt := 137) hX d_Mo_guessBy_21 rfl (fun h21 => ?_) (fun h21 => False.elim (absurd set_end h21))
    refine v_iload_n (pc := 137) hX rfl d_Mo_guessBy_137 ?_
    refine v_if_ne (pc := 138) (tgt := 146) hX d_Mo_guessBy_138 rfl (fun h138 => ?_) (fun h138 => ?_)
    · refine v_iload_n (pc := 146) hX rfl d_Mo_guessBy_146 ?_
      refine v_iconst (pc := 147) (v := 1) hX (by decide) d_Mo_guessBy_147 ?_
      refine v_icmp_ne (pc := 148) (tgt := 156) hX d_Mo_guessBy_148 rfl (fun h148 => ?_) (fun h148 => ?_)
      · refine v_iload (pc := 156) hX rfl d_Mo_guessBy_156 ?_
        exact f_iret (pc := 158) hX hR (by unfold guN; first | (rw [if_pos (by simpa using h138), gaN_gj _ n h6]) | (rw [if_neg h138, if_pos (by simpa using h148)]) | (rw [if_neg h138, if_neg h148])) (rfl) d_Mo_guessBy_158
      · refine v_iload (pc := 151) hX rfl d_Mo_guessBy_151 ?_
        refine v_goto (pc := 153) (tgt := 158) hX d_Mo_guessBy_153 rfl ?_
        exact f_iret (pc := 158) hX hR (by unfold guN; first | (rw [if_pos (by simpa using h138), gaN_gj _ n h6]) | (rw [if_neg h138, if_pos (by simpa using h148)]) | (rw [if_neg h138, if_neg h148])) (rfl) d_Mo_guessBy_158
    · refine v_iload (pc := 141) hX rfl d_Mo_guessBy_141 ?_
      refine v_goto (pc := 143) (tgt := 158) hX d_Mo_guessBy_143 rfl ?_
      exact f_iret (pc := 158) hX hR (by unfold guN; first | (rw [if_pos (by simpa using h138), gaN_gj _ n h6]) | (rw [if_neg h138, if_pos (by simpa using h148)]) | (rw [if_neg h138, if_neg h148])) (rfl) d_Mo_guessBy_158
