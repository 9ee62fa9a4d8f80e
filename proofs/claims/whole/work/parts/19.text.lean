/-! Texts: the first fault. -/
-- a text: codes q 0 .. q (m - 1)
def kcN (x : Int32) : Int32 := if x = 108 then 0 else if x = 112 then 2 else if x = 119 then 1 else -9
def stB (q : Nat → Int32) (m p : Nat) (sg : Int32) : Bool := decide (p < m) && decide (q p = sg)
def dgB (q : Nat → Int32) (m p : Nat) : Bool := decide (p < m) && rg (q p - 48) 0 9
def ftJ (q : Nat → Int32) (m p : Nat) : Nat := if p + 1 < m ∧ kcN (q (p + 1)) ≠ -9 then 2 + chs (fun i => !dgB q m (p + 2 + i)) 4 else 1
def ftD (q : Nat → Int32) (m p : Nat) : Nat := 1 + chs (fun i => !dgB q m (p + 1 + i)) 4
def gJ (q : Nat → Int32) (m k : Nat) : Bool := stB q m (1 + 6 * k) 59 && decide (ftJ q m (1 + 6 * k) = 6)
def gD (q : Nat → Int32) (m p k : Nat) : Bool := stB q m (p + 5 * k) 44 && decide (ftD q m (p + 5 * k) = 5)
def nJ (q : Nat → Int32) (m : Nat) : Nat := chs (fun k => !gJ q m k) 6
def nD (q : Nat → Int32) (m p : Nat) : Nat := chs (fun k => !gD q m p k) 4
def eo (x : Option Nat) : Int32 := match x with
  | none => -9
  | some k => i3 k
def ffD (q : Nat → Int32) (m p : Nat) : Option Nat :=
  if nD q m p < 4 ∧ stB q m (p + 5 * nD q m p) 44 = true then some (p + 5 * nD q m p + ftD q m (p + 5 * nD q m p))
  else if nD q m p = 0 ∨ p + 5 * nD q m p < m then some (p + 5 * nD q m p) else none
def ffO (q : Nat → Int32) (m : Nat) : Option Nat :=
  if ¬ (0 < m ∧ q 0 = 116) then some 0
  else if nJ q m < 6 ∧ stB q m (1 + 6 * nJ q m) 59 = true then some (1 + 6 * nJ q m + ftJ q m (1 + 6 * nJ q m))
  else if nJ q m = 0 then some 1
  else ffD q m (1 + 6 * nJ q m)
theorem ftJ_le (q : Nat → Int32) (m p : Nat) : ftJ q m p ≤ 6 := by
  unfold ftJ
  have := chs_le (fun i => !dgB q m (p + 2 + i)) 4
  split <;> omega
theorem ftD_le (q : Nat → Int32) (m p : Nat) : ftD q m p ≤ 5 := by
  unfold ftD
  have := chs_le (fun i => !dgB q m (p + 1 + i)) 4
  omega
theorem d_Tx_kindOf_0 : decode c_Tx_kindOf 0 = .ok (.iload_n 0, 1) := by decide +kernel
theorem d_Tx_kindOf_1 : decode c_Tx_kindOf 1 = .ok (.lookupswitch 41 #[(108, 35), (112, 39), (119, 37)], 35) := by decide +kernel
theorem d_Tx_kindOf_36 : decode c_Tx_kindOf 36 = .ok (.iconst 0, 1) := by decide +kernel
theorem d_Tx_kindOf_37 : decode c_Tx_kindOf 37 = .ok (.ireturn, 1) := by decide +kernel
theorem d_Tx_kindOf_38 : decode c_Tx_kindOf 38 = .ok (.iconst 1, 1) := by decide +kernel
theorem d_Tx_kindOf_39 : decode c_Tx_kindOf 39 = .ok (.ireturn, 1) := by decide +kernel
theorem d_Tx_kindOf_40 : decode c_Tx_kindOf 40 = .ok (.iconst 2, 1) := by decide +kernel
theorem d_Tx_kindOf_41 : decode c_Tx_kindOf 41 = .ok (.ireturn, 1) := by decide +kernel
theorem d_Tx_kindOf_42 : decode c_Tx_kindOf 42 = .ok (.bipush (-9), 2) := by decide +kernel
theorem d_Tx_kindOf_44 : decode c_Tx_kindOf 44 = .ok (.ireturn, 1) := by decide +kernel
theorem C_Tx_kindOf {M : MM} {x : Int32} : AF y_Tx_kindOf c_Tx_kindOf 1 (some .int) 1 [vI x] (M) (some (vI (kcN x))) (M) := by
  refine AF.of k_Tx_kindOf (lo := [some (vI x)]) rfl (Nat.le_of_ble_eq_true rfl) (fun X hX hR => ?_)
  refine v_iload_n (pc := 0) hX rfl d_Tx_kindOf_0 ?_
  refine v_top (fun y1 q1 => ?_)
  by_cases e1_108 : y1 = 108
  · subst e1_108
    refine v_look (pc := 1) (tgt := 36) (off := 35) hX d_Tx_kindOf_1 (by decide) (by decide) rfl ?_
    refine v_iconst (pc := 36) (v := 0) hX (by decide) d_Tx_kindOf_36 ?_
    exact f_iret (pc := 37) hX hR (by subst q1; rfl) (rfl) d_Tx_kindOf_37
  by_cases e1_112 : y1 = 112
  · subst e1_112
    refine v_look (pc := 1) (tgt := 40) (off := 39) hX d_Tx_kindOf_1 (by decide) (by decide) rfl ?_
    refine v_iconst (pc := 40) (v := 2) hX (by decide) d_Tx_kindOf_40 ?_
    exact f_iret (pc := 41) hX hR (by subst q1; rfl) (rfl) d_Tx_kindOf_41
  by_cases e1_119 : y1 = 119
  · subst e1_119
    refine v_look (pc := 1) (tgt := 38) (off := 37) hX d_Tx_kindOf_1 (by decide) (by decide) rfl ?_
    refine v_iconst (pc := 38) (v := 1) hX (by decide) d_Tx_kindOf_38 ?_
    exact f_iret (pc := 39) hX hR (by subst q1; rfl) (rfl) d_Tx_kindOf_39
  refine v_look (pc := 1) (tgt := 42) hX d_Tx_kindOf_1 (by decide) (look_out (by simp only [eq32, q_0, q_1, q_2, q_3, q_4, q_5, q_6, q_7, q_8, q_9, q_10, q_11, q_12, q_15, q_16, q_20, q_21, q_23, q_24, q_29, q_31, q_44, q_48, q_59, q_60, q_61, q_63, q_99, q_100, q_108, q_112, q_116, q_119, q_240, q_m1, q_m9] at e1_108 e1_112 e1_119; simp; omega)) rfl ?_
  refine v_bipush (pc := 42) (v := (-9)) hX (by decide) d_Tx_kindOf_42 ?_
  exact f_iret (pc := 44) hX hR (by subst q1; unfold kcN; rw [if_neg e1_108, if_neg e1_112, if_neg e1_119]) (rfl) d_Tx_kindOf_44
theorem d_Tx_startsWith_0 : decode c_Tx_startsWith 0 = .ok (.iload_n 3, 1) := by decide +kernel
theorem d_Tx_startsWith_1 : decode c_Tx_startsWith 1 = .ok (.iload_n 2, 1) := by decide +kernel
theorem d_Tx_startsWith_2 : decode c_Tx_startsWith 2 = .ok (.if_icmp .ge 19, 3) := by decide +kernel
theorem d_Tx_startsWith_5 : decode c_Tx_startsWith 5 = .ok (.aload_n 0, 1) := by decide +kernel
theorem d_Tx_startsWith_6 : decode c_Tx_startsWith 6 = .ok (.iload_n 1, 1) := by decide +kernel
theorem d_Tx_startsWith_7 : decode c_Tx_startsWith 7 = .ok (.iload_n 3, 1) := by decide +kernel
theorem d_Tx_startsWith_8 : decode c_Tx_startsWith 8 = .ok (.iadd, 1) := by decide +kernel
theorem d_Tx_startsWith_9 : decode c_Tx_startsWith 9 = .ok (.invokevirtual 9, 3) := by decide +kernel
theorem d_Tx_startsWith_12 : decode c_Tx_startsWith 12 = .ok (.iload 4, 2) := by decide +kernel
theorem d_Tx_startsWith_14 : decode c_Tx_startsWith 14 = .ok (.if_icmp .ne 7, 3) := by decide +kernel
theorem d_Tx_startsWith_17 : decode c_Tx_startsWith 17 = .ok (.iconst 1, 1) := by decide +kernel
theorem d_Tx_startsWith_18 : decode c_Tx_startsWith 18 = .ok (.goto 4, 3) := by decide +kernel
theorem d_Tx_startsWith_21 : decode c_Tx_startsWith 21 = .ok (.iconst 0, 1) := by decide +kernel
theorem d_Tx_startsWith_22 : decode c_Tx_startsWith 22 = .ok (.ireturn, 1) := by decide +kernel
theorem C_Tx_startsWith {M : MM} {r c a m p : Nat} {q : Nat → Int32} (hr : SH[r]? = some (0, 5)) (hn : NF r 0 = c) (hc : SH[c]? = some (1, 60)) (ha : a + m ≤ 60) (hq : ∀ t, t < m → M c (a + t) = q t) {sg : Int32} (hp : p ≤ 100) : AF y_Tx_startsWith c_Tx_startsWith 5 (some .boolean) 3 [vR r, vI (i3 a), vI (i3 m), vI (i3 p), vI sg] (M) (some (vI (bI (stB q m p sg)))) (M) := by
  refine AF.of k_Tx_startsWith (lo := [some (vR r), some (vI (i3 a)), some (vI (i3 m)), some (vI (i3 p)), some (vI sg)]) rfl (Nat.le_of_ble_eq_true rfl) (fun X hX hR => ?_)
  refine v_iload_n (pc := 0) hX rfl d_Tx_startsWith_0 ?_
  refine v_iload_n (pc := 1) hX rfl d_Tx_startsWith_1 ?_
  refine v_icmp_ge (pc := 2) (tgt := 21) hX d_Tx_startsWith_2 rfl (fun h2 => ?_) (fun h2 => ?_)
  · have e : stB q m p sg = false := by unfold stB; rw [decide_eq_false (by have := (i3_le (by omega) (by omega)).mp h2; omega)]; rfl
    refine v_iconst (pc := 21) (v := 0) hX (by decide) d_Tx_startsWith_21 ?_
    exact f_zret (pc := 22) hX hR (by first | exact bT e | exact bF e) (rfl) d_Tx_startsWith_22
  · have hpm : p < m := Nat.lt_of_not_le (fun w => h2 ((i3_le (by omega) (by omega)).mpr w))
    refine v_aload_n (pc := 5) hX rfl d_Tx_startsWith_5 ?_
    refine v_iload_n (pc := 6) hX rfl d_Tx_startsWith_6 ?_
    refine v_iload_n (pc := 7) hX rfl d_Tx_startsWith_7 ?_
    refine v_iadd (pc := 8) hX d_Tx_startsWith_8 ?_
    rw [← i3_add]
    refine f_callV (pc := 9) hX k_Sh_at ki_Sh_at kv_Sh_at ml_Tx_9 (C_Sh_at (j := a + p) hr hn hc (by omega)) (by assumption) rfl rfl rfl rfl (Nat.le_of_ble_eq_true rfl) (Nat.le_of_ble_eq_true rfl) (Nat.le_of_ble_eq_true rfl) d_Tx_startsWith_9 ?_
    rw [hq p hpm]
    refine v_iload (pc := 12) hX rfl d_Tx_startsWith_12 ?_
    refine v_icmp_ne (pc := 14) (tgt := 21) hX d_Tx_startsWith_14 rfl (fun h14 => ?_) (fun h14 => ?_)
    · have e : stB q m p sg = false := by unfold stB; rw [decide_eq_false h14]; simp
      refine v_iconst (pc := 21) (v := 0) hX (by decide) d_Tx_startsWith_21 ?_
      exact f_zret (pc := 22) hX hR (by first | exact bT e | exact bF e) (rfl) d_Tx_startsWith_22
    · have e : stB q m p sg = true := by unfold stB; rw [decide_eq_true hpm, decide_eq_true (by simpa using h14)]; rfl
      refine v_iconst (pc := 17) (v := 1) hX (by decide) d_Tx_startsWith_17 ?_
      refine v_goto (pc := 18) (tgt := 22) hX d_Tx_startsWith_18 rfl ?_
      exact f_zret (pc := 22) hX hR (by first | exact bT e | exact bF e) (rfl) d_Tx_startsWith_22
theorem d_Tx_fitting_0 : decode c_Tx_fitting 0 = .ok (.iconst 1, 1) := by decide +kernel
theorem d_Tx_fitting_1 : decode c_Tx_fitting 1 = .ok (.istore 5, 2) := by decide +kernel
theorem d_Tx_fitting_3 : decode c_Tx_fitting 3 = .ok (.iload 4, 2) := by decide +kernel
theorem d_Tx_fitting_5 : decode c_Tx_fitting 5 = .ok (.bipush 6, 2) := by decide +kernel
theorem d_Tx_fitting_7 : decode c_Tx_fitting 7 = .ok (.if_icmp .ne 33, 3) := by decide +kernel
theorem d_Tx_fitting_10 : decode c_Tx_fitting 10 = .ok (.iload_n 3, 1) := by decide +kernel
theorem d_Tx_fitting_11 : decode c_Tx_fitting 11 = .ok (.iconst 1, 1) := by decide +kernel
theorem d_Tx_fitting_12 : decode c_Tx_fitting 12 = .ok (.iadd, 1) := by decide +kernel
theorem d_Tx_fitting_13 : decode c_Tx_fitting 13 = .ok (.iload_n 2, 1) := by decide +kernel
theorem d_Tx_fitting_14 : decode c_Tx_fitting 14 = .ok (.if_icmp .ge 20, 3) := by decide +kernel
theorem d_Tx_fitting_17 : decode c_Tx_fitting 17 = .ok (.aload_n 0, 1) := by decide +kernel
theorem d_Tx_fitting_18 : decode c_Tx_fitting 18 = .ok (.iload_n 1, 1) := by decide +kernel
theorem d_Tx_fitting_19 : decode c_Tx_fitting 19 = .ok (.iload_n 3, 1) := by decide +kernel
theorem d_Tx_fitting_20 : decode c_Tx_fitting 20 = .ok (.iadd, 1) := by decide +kernel
theorem d_Tx_fitting_21 : decode c_Tx_fitting 21 = .ok (.iconst 1, 1) := by decide +kernel
theorem d_Tx_fitting_22 : decode c_Tx_fitting 22 = .ok (.iadd, 1) := by decide +kernel
theorem d_Tx_fitting_23 : decode c_Tx_fitting 23 = .ok (.invokevirtual 9, 3) := by decide +kernel
theorem d_Tx_fitting_26 : decode c_Tx_fitting 26 = .ok (.invokestatic 25, 3) := by decide +kernel
theorem d_Tx_fitting_29 : decode c_Tx_fitting 29 = .ok (.bipush (-9), 2) := by decide +kernel
theorem d_Tx_fitting_31 : decode c_Tx_fitting 31 = .ok (.if_icmp .ne 6, 3) := by decide +kernel
theorem d_Tx_fitting_34 : decode c_Tx_fitting 34 = .ok (.iload 5, 2) := by decide +kernel
theorem d_Tx_fitting_36 : decode c_Tx_fitting 36 = .ok (.ireturn, 1) := by decide +kernel
theorem d_Tx_fitting_37 : decode c_Tx_fitting 37 = .ok (.iconst 2, 1) := by decide +kernel
theorem d_Tx_fitting_38 : decode c_Tx_fitting 38 = .ok (.istore 5, 2) := by decide +kernel
theorem d_Tx_fitting_40 : decode c_Tx_fitting 40 = .ok (.iload 5, 2) := by decide +kernel
theorem d_Tx_fitting_42 : decode c_Tx_fitting 42 = .ok (.iload 4, 2) := by decide +kernel
theorem d_Tx_fitting_44 : decode c_Tx_fitting 44 = .ok (.if_icmp .ge 38, 3) := by decide +kernel
theorem d_Tx_fitting_47 : decode c_Tx_fitting 47 = .ok (.iload_n 3, 1) := by decide +kernel
theorem d_Tx_fitting_48 : decode c_Tx_fitting 48 = .ok (.iload 5, 2) := by decide +kernel
theorem d_Tx_fitting_50 : decode c_Tx_fitting 50 = .ok (.iadd, 1) := by decide +kernel
theorem d_Tx_fitting_51 : decode c_Tx_fitting 51 = .ok (.iload_n 2, 1) := by decide +kernel
theorem d_Tx_fitting_52 : decode c_Tx_fitting 52 = .ok (.if_icmp .ge 30, 3) := by decide +kernel
theorem d_Tx_fitting_55 : decode c_Tx_fitting 55 = .ok (.aload_n 0, 1) := by decide +kernel
theorem d_Tx_fitting_56 : decode c_Tx_fitting 56 = .ok (.iload_n 1, 1) := by decide +kernel
theorem d_Tx_fitting_57 : decode c_Tx_fitting 57 = .ok (.iload_n 3, 1) := by decide +kernel
theorem d_Tx_fitting_58 : decode c_Tx_fitting 58 = .ok (.iadd, 1) := by decide +kernel
theorem d_Tx_fitting_59 : decode c_Tx_fitting 59 = .ok (.iload 5, 2) := by decide +kernel
theorem d_Tx_fitting_61 : decode c_Tx_fitting 61 = .ok (.iadd, 1) := by decide +kernel
theorem d_Tx_fitting_62 : decode c_Tx_fitting 62 = .ok (.invokevirtual 9, 3) := by decide +kernel
theorem d_Tx_fitting_65 : decode c_Tx_fitting 65 = .ok (.bipush 48, 2) := by decide +kernel
theorem d_Tx_fitting_67 : decode c_Tx_fitting 67 = .ok (.isub, 1) := by decide +kernel
theorem d_Tx_fitting_68 : decode c_Tx_fitting 68 = .ok (.bipush 10, 2) := by decide +kernel
theorem d_Tx_fitting_70 : decode c_Tx_fitting 70 = .ok (.invokestatic 28, 3) := by decide +kernel
theorem d_Tx_fitting_73 : decode c_Tx_fitting 73 = .ok (.ifCond .eq 9, 3) := by decide +kernel
theorem d_Tx_fitting_76 : decode c_Tx_fitting 76 = .ok (.iinc 5 1, 3) := by decide +kernel
theorem d_Tx_fitting_79 : decode c_Tx_fitting 79 = .ok (.goto (-39), 3) := by decide +kernel
theorem d_Tx_fitting_82 : decode c_Tx_fitting 82 = .ok (.iload 5, 2) := by decide +kernel
theorem d_Tx_fitting_84 : decode c_Tx_fitting 84 = .ok (.ireturn, 1) := by decide +kernel
theorem C_Tx_fitting_6 {M : MM} {r c a m p : Nat} {q : Nat → Int32} (hr : SH[r]? = some (0, 5)) (hn : NF r 0 = c) (hc : SH[c]? = some (1, 60)) (ha : a + m ≤ 60) (hq : ∀ t, t < m → M c (a + t) = q t) (hp : p ≤ 100) : AF y_Tx_fitting c_Tx_fitting 6 (some .int) 3 [vR r, vI (i3 a), vI (i3 m), vI (i3 p), vI 6] (M) (some (vI (i3 (ftJ q m p)))) (M) := by
  refine AF.of k_Tx_fitting (lo := [some (vR r), some (vI (i3 a)), some (vI (i3 m)), some (vI (i3 p)), some (vI 6), none]) rfl (Nat.le_of_ble_eq_true rfl) (fun X hX hR => ?_)
  refine v_iconst (pc := 0) (v := 1) hX (by decide) d_Tx_fitting_0 ?_
  refine v_istore (pc := 1) (lo' := [some (vR _), some (vI _), some (vI _), some (vI _), some (vI _), some (vI _)]) hX (Nat.le_of_ble_eq_true rfl) rfl d_Tx_fitting_1 ?_
  refine v_iload (pc := 3) hX rfl d_Tx_fitting_3 ?_
  refine v_bipush (pc := 5) (v := 6) hX (by decide) d_Tx_fitting_5 ?_
  refine v_icmp_ne (pc := 7) (tgt := 40) hX d_Tx_fitting_7 rfl (fun h7 => False.elim (h7 rfl)) (fun h7 => ?_)
  refine v_iload_n (pc := 10) hX rfl d_Tx_fitting_10 ?_
  refine v_iconst (pc := 11) (v := 1) hX (by decide) d_Tx_fitting_11 ?_
  refine v_iadd (pc := 12) hX d_Tx_fitting_12 ?_
  refine v_iload_n (pc := 13) hX rfl d_Tx_fitting_13 ?_
  rw [← i3_succ]
  refine v_icmp_ge (pc := 14) (tgt := 34) hX d_Tx_fitting_14 rfl (fun h14 => ?_) (fun h14 => ?_)
  · have hno : ftJ q m p = 1 := by
      unfold ftJ
      rw [if_neg (by have := (i3_le (by omega) (by omega)).mp h14; omega)]
    refine v_iload (pc := 34) hX rfl d_Tx_fitting_34 ?_
    exact f_iret (pc := 36) hX hR (by rw [hno]; rfl) (rfl) d_Tx_fitting_36
  · have hpm : p + 1 < m := Nat.lt_of_not_le (fun w => h14 ((i3_le (by omega) (by omega)).mpr w))
    refine v_aload_n (pc := 17) hX rfl d_Tx_fitting_17 ?_
    refine v_iload_n (pc := 18) hX rfl d_Tx_fitting_18 ?_
    refine v_iload_n (pc := 19) hX rfl d_Tx_fitting_19 ?_
    refine v_iadd (pc := 20) hX d_Tx_fitting_20 ?_
    refine v_iconst (pc := 21) (v := 1) hX (by decide) d_Tx_fitting_21 ?_
    refine v_iadd (pc := 22) hX d_Tx_fitting_22 ?_
    rw [← i3_add, ← i3_succ]
    refine f_callV (pc := 23) hX k_Sh_at ki_Sh_at kv_Sh_at ml_Tx_9 (C_Sh_at (j := a + p + 1) hr hn hc (by omega)) (by assumption) rfl rfl rfl rfl (Nat.le_of_ble_eq_true rfl) (Nat.le_of_ble_eq_true rfl) (Nat.le_of_ble_eq_true rfl) d_Tx_fitting_23 ?_
    rw [show a + p + 1 = a + (p + 1) by omega, hq _ hpm]
    refine f_callS (pc := 26) hX k_Tx_kindOf ks_Tx_kindOf ml_Tx_25 (C_Tx_kindOf) rfl rfl rfl (Nat.le_of_ble_eq_true rfl) (Nat.le_of_ble_eq_true rfl) (Nat.le_of_ble_eq_true rfl) d_Tx_fitting_26 ?_
    refine v_bipush (pc := 29) (v := (-9)) hX (by decide) d_Tx_fitting_29 ?_
    refine v_icmp_ne (pc := 31) (tgt := 37) hX d_Tx_fitting_31 rfl (fun h31 => ?_) (fun h31 => ?_)
    · have hyes : p + 1 < m ∧ kcN (q (p + 1)) ≠ -9 := ⟨hpm, h31⟩
      refine v_iconst (pc := 37) (v := 2) hX (by decide) d_Tx_fitting_37 ?_
      refine v_istore (pc := 38) (lo' := [some (vR _), some (vI _), some (vI _), some (vI _), some (vI _), some (vI _)]) hX (Nat.le_of_ble_eq_true rfl) rfl d_Tx_fitting_38 ?_
      refine VW.cast (lo' := [some (vR r), some (vI (i3 a)), some (vI (i3 m)), some (vI (i3 p)), some (vI 6), some (vI (i3 (2 + 0)))]) (st' := []) (G' := gM (M)) rfl rfl rfl ?_
      refine v_forI (X := X) (head := 40) (4) (fun kk => [some (vR r), some (vI (i3 a)), some (vI (i3 m)), some (vI (i3 p)), some (vI 6), some (vI (i3 (2 + kk)))]) (fun kk => M) (fun kk => ∀ i, i < kk → (fun i => !dgB q m (p + 2 + i)) i = false) (fun i hi => absurd hi (Nat.not_lt_zero i)) (fun k hk hIk ih40 => ?_) (fun hIk => ?_)
      · show VW X 40 [some (vR r), some (vI (i3 a)), some (vI (i3 m)), some (vI (i3 p)), some (vI 6), some (vI (i3 (2 + k)))] [] (gM (M))
        have hIk : ∀ i, i < k → (fun i => !dgB q m (p + 2 + i)) i = false := hIk
        refine v_iload (pc := 40) hX rfl d_Tx_fitting_40 ?_
        refine v_iload (pc := 42) hX rfl d_Tx_fitting_42 ?_
        refine v_icmp_ge (pc := 44) (tgt := 82) hX d_Tx_fitting_44 rfl (fun h44 => False.elim (by have := (i3_le (a := 6) (b := 2 + k) (by omega) (by omega)).mp h44; omega)) (fun h44 => ?_)
        refine v_iload_n (pc := 47) hX rfl d_Tx_fitting_47 ?_
        refine v_iload (pc := 48) hX rfl d_Tx_fitting_48 ?_
        refine v_iadd (pc := 50) hX d_Tx_fitting_50 ?_
        refine v_iload_n (pc := 51) hX rfl d_Tx_fitting_51 ?_
        rw [← i3_add]
        refine v_icmp_ge (pc := 52) (tgt := 82) hX d_Tx_fitting_52 rfl (fun h52 => ?_) (fun h52 => ?_)
        · have e : (fun i => !dgB q m (p + 2 + i)) k = true := by
            show (!dgB q m (p + 2 + k)) = true
            unfold dgB
            rw [decide_eq_false (by have := (i3_le (by omega) (by omega)).mp h52; omega)]; rfl
          refine v_iload (pc := 82) hX rfl d_Tx_fitting_82 ?_
          exact f_iret (pc := 84) hX hR (by have e2 := chs_eq hk e hIk; unfold ftJ; rw [if_pos hyes]; rw [e2]) (rfl) d_Tx_fitting_84
        · have hpk : p + 2 + k < m := Nat.lt_of_not_le (fun w => h52 ((i3_le (by omega) (by omega)).mpr (by omega)))
          refine v_aload_n (pc := 55) hX rfl d_Tx_fitting_55 ?_
          refine v_iload_n (pc := 56) hX rfl d_Tx_fitting_56 ?_
          refine v_iload_n (pc := 57) hX rfl d_Tx_fitting_57 ?_
          refine v_iadd (pc := 58) hX d_Tx_fitting_58 ?_
          refine v_iload (pc := 59) hX rfl d_Tx_fitting_59 ?_
          refine v_iadd (pc := 61) hX d_Tx_fitting_61 ?_
          rw [← i3_add, ← i3_add]
          refine f_callV (pc := 62) hX k_Sh_at ki_Sh_at kv_Sh_at ml_Tx_9 (C_Sh_at (j := a + p + (2 + k)) hr hn hc (by omega)) (by assumption) rfl rfl rfl rfl (Nat.le_of_ble_eq_true rfl) (Nat.le_of_ble_eq_true rfl) (Nat.le_of_ble_eq_true rfl) d_Tx_fitting_62 ?_
          rw [show a + p + (2 + k) = a + (p + 2 + k) by omega, hq _ hpk]
          refine v_bipush (pc := 65) (v := 48) hX (by decide) d_Tx_fitting_65 ?_
          refine v_isub (pc := 67) hX d_Tx_fitting_67 ?_
          refine v_bipush (pc := 68) (v := 10) hX (by decide) d_Tx_fitting_68 ?_
          refine f_callN (pc := 70) hX k_LJ_isBelow ks_LJ_isBelow (by decide) (C_LJ_isBelow) rfl rfl rfl (Nat.le_of_ble_eq_true rfl) (Nat.le_of_ble_eq_true rfl) (Nat.le_of_ble_eq_true rfl) d_Tx_fitting_70 ?_
          rw [show (10 : Int32).toInt - 1 = 9 from rfl]
          refine f_ifeqB (pc := 73) (tgt := 82) hX d_Tx_fitting_73 rfl (fun h73 => ?_) (fun h73 => ?_)
          · have e : (fun i => !dgB q m (p + 2 + i)) k = true := by
              show (!dgB q m (p + 2 + k)) = true
              unfold dgB
              rw [h73]; simp
            refine v_iload (pc := 82) hX rfl d_Tx_fitting_82 ?_
            exact f_iret (pc := 84) hX hR (by have e2 := chs_eq hk e hIk; unfold ftJ; rw [if_pos hyes]; rw [e2]) (rfl) d_Tx_fitting_84
          · have e : dgB q m (p + 2 + k) = true := by unfold dgB; rw [h73, decide_eq_true hpk]; rfl
            refine v_iinc (pc := 76) (lo' := [some (vR _), some (vI _), some (vI _), some (vI _), some (vI _), some (vI _)]) hX rfl rfl d_Tx_fitting_76 ?_
            refine v_goto (pc := 79) (tgt := 40) hX d_Tx_fitting_79 rfl ?_
            exact VW.cast (by rw [show 2 + (k + 1) = (2 + k) + 1 by omega, i3_succ]; rfl) rfl rfl (ih40 (all_s hIk (by show (!dgB q m (p + 2 + k)) = false; rw [e]; rfl)))
      · show VW X 40 [some (vR r), some (vI (i3 a)), some (vI (i3 m)), some (vI (i3 p)), some (vI 6), some (vI (i3 (2 + (4))))] [] (gM (M))
        have hIk : ∀ i, i < (4) → (fun i => !dgB q m (p + 2 + i)) i = false := hIk
        refine v_iload (pc := 40) hX rfl d_Tx_fitting_40 ?_
        refine v_iload (pc := 42) hX rfl d_Tx_fitting_42 ?_
        refine v_icmp_ge (pc := 44) (tgt := 82) hX d_Tx_fitting_44 rfl (fun h44 => ?_) (fun h44 => False.elim (absurd (Int32.le_refl _) h44))
        refine v_iload (pc := 82) hX rfl d_Tx_fitting_82 ?_
        exact f_iret (pc := 84) hX hR (by have e2 := chs_none hIk; unfold ftJ; rw [if_pos hyes]; rw [e2]) (rfl) d_Tx_fitting_84
    · have hno : ftJ q m p = 1 := by
        unfold ftJ
        rw [if_neg (fun w => w.2 (by simpa using h31))]
      refine v_iload (pc := 34) hX rfl d_Tx_fitting_34 ?_
      exact f_iret (pc := 36) hX hR (by rw [hno]; rfl) (rfl) d_Tx_fitting_36
theorem C_Tx_fitting_5 {M : MM} {r c a m p : Nat} {q : Nat → Int32} (hr : SH[r]? = some (0, 5)) (hn : NF r 0 = c) (hc : SH[c]? = some (1, 60)) (ha : a + m ≤ 60) (hq : ∀ t, t < m → M c (a + t) = q t) (hp : p ≤ 100) : AF y_Tx_fitting c_Tx_fitting 6 (some .int) 3 [vR r, vI (i3 a), vI (i3 m), vI (i3 p), vI 5] (M) (some (vI (i3 (ftD q m p)))) (M) := by
  refine AF.of k_Tx_fitting (lo := [some (vR r), some (vI (i3 a)), some (vI (i3 m)), some (vI (i3 p)), some (vI 5), none]) rfl (Nat.le_of_ble_eq_true rfl) (fun X hX hR => ?_)
  refine v_iconst (pc := 0) (v := 1) hX (by decide) d_Tx_fitting_0 ?_
  refine v_istore (pc := 1) (lo' := [some (vR _), some (vI _), some (vI _), some (vI _), some (vI _), some (vI _)]) hX (Nat.le_of_ble_eq_true rfl) rfl d_Tx_fitting_1 ?_
  refine v_iload (pc := 3) hX rfl d_Tx_fitting_3 ?_
  refine v_bipush (pc := 5) (v := 6) hX (by decide) d_Tx_fitting_5 ?_
  refine v_icmp_ne (pc := 7) (tgt := 40) hX d_Tx_fitting_7 rfl (fun h7 => ?_) (fun h7 => False.elim (absurd h7 (by decide)))
  refine VW.cast (lo' := [some (vR r), some (vI (i3 a)), some (vI (i3 m)), some (vI (i3 p)), some (vI 5), some (vI (i3 (1 + 0)))]) (st' := []) (G' := gM (M)) rfl rfl rfl ?_
  refine v_forI (X := X) (head := 40) (4) (fun kk => [some (vR r), some (vI (i3 a)), some (vI (i3 m)), some (vI (i3 p)), some (vI 5), some (vI (i3 (1 + kk)))]) (fun kk => M) (fun kk => ∀ i, i < kk → (fun i => !dgB q m (p + 1 + i)) i = false) (fun i hi => absurd hi (Nat.not_lt_zero i)) (fun k hk hIk ih40 => ?_) (fun hIk => ?_)
  · show VW X 40 [some (vR r), some (vI (i3 a)), some (vI (i3 m)), some (vI (i3 p)), some (vI 5), some (vI (i3 (1 + k)))] [] (gM (M))
    have hIk : ∀ i, i < k → (fun i => !dgB q m (p + 1 + i)) i = false := hIk
    refine v_iload (pc := 40) hX rfl d_Tx_fitting_40 ?_
    refine v_iload (pc := 42) hX rfl d_Tx_fitting_42 ?_
    refine v_icmp_ge (pc := 44) (tgt := 82) hX d_Tx_fitting_44 rfl (fun h44 => False.elim (by have := (i3_le (a := 5) (b := 1 + k) (by omega) (by omega)).mp h44; omega)) (fun h44 => ?_)
    refine v_iload_n (pc := 47) hX rfl d_Tx_fitting_47 ?_
    refine v_iload (pc := 48) hX rfl d_Tx_fitting_48 ?_
    refine v_iadd (pc := 50) hX d_Tx_fitting_50 ?_
    refine v_iload_n (pc := 51) hX rfl d_Tx_fitting_51 ?_
    rw [← i3_add]
    refine v_icmp_ge (pc := 52) (tgt := 82) hX d_Tx_fitting_52 rfl (fun h52 => ?_) (fun h52 => ?_)
    · have e : (fun i => !dgB q m (p + 1 + i)) k = true := by
        show (!dgB q m (p + 1 + k)) = true
        unfold dgB
        rw [decide_eq_false (by have := (i3_le (by omega) (by omega)).mp h52; omega)]; rfl
      refine v_iload (pc := 82) hX rfl d_Tx_fitting_82 ?_
      exact f_iret (pc := 84) hX hR (by have e2 := chs_eq hk e hIk; unfold ftD; rw [e2]) (rfl) d_Tx_fitting_84
    · have hpk : p + 1 + k < m := Nat.lt_of_not_le (fun w => h52 ((i3_le (by omega) (by omega)).mpr (by omega)))
      refine v_aload_n (pc := 55) hX rfl d_Tx_fitting_55 ?_
      refine v_iload_n (pc := 56) hX rfl d_Tx_fitting_56 ?_
      refine v_iload_n (pc := 57) hX rfl d_Tx_fitting_57 ?_
      refine v_iadd (pc := 58) hX d_Tx_fitting_58 ?_
      refine v_iload (pc := 59) hX rfl d_Tx_fitting_59 ?_
      refine v_iadd (pc := 61) hX d_Tx_fitting_61 ?_
      rw [← i3_add, ← i3_add]
      refine f_callV (pc := 62) hX k_Sh_at ki_Sh_at kv_Sh_at ml_Tx_9 (C_Sh_at (j := a + p + (1 + k)) hr hn hc (by omega)) (by assumption) rfl rfl rfl rfl (Nat.le_of_ble_eq_true rfl) (Nat.le_of_ble_eq_true rfl) (Nat.le_of_ble_eq_true rfl) d_Tx_fitting_62 ?_
      rw [show a + p + (1 + k) = a + (p + 1 + k) by omega, hq _ hpk]
      refine v_bipush (pc := 65) (v := 48) hX (by decide) d_Tx_fitting_65 ?_
      refine v_isub (pc := 67) hX d_Tx_fitting_67 ?_
      refine v_bipush (pc := 68) (v := 10) hX (by decide) d_Tx_fitting_68 ?_
      refine f_callN (pc := 70) hX k_LJ_isBelow ks_LJ_isBelow (by decide) (C_LJ_isBelow) rfl rfl rfl (Nat.le_of_ble_eq_true rfl) (Nat.le_of_ble_eq_true rfl) (Nat.le_of_ble_eq_true rfl) d_Tx_fitting_70 ?_
      rw [show (10 : Int32).toInt - 1 = 9 from rfl]
      refine f_ifeqB (pc := 73) (tgt := 82) hX d_Tx_fitting_73 rfl (fun h73 => ?_) (fun h73 => ?_)
      · have e : (fun i => !dgB q m (p + 1 + i)) k = true := by
          show (!dgB q m (p + 1 + k)) = true
          unfold dgB
          rw [h73]; simp
        refine v_iload (pc := 82) hX rfl d_Tx_fitting_82 ?_
        exact f_iret (pc := 84) hX hR (by have e2 := chs_eq hk e hIk; unfold ftD; rw [e2]) (rfl) d_Tx_fitting_84
      · have e : dgB q m (p + 1 + k) = true := by unfold dgB; rw [h73, decide_eq_true hpk]; rfl
        refine v_iinc (pc := 76) (lo' := [some (vR _), some (vI _), some (vI _), some (vI _), some (vI _), some (vI _)]) hX rfl rfl d_Tx_fitting_76 ?_
        refine v_goto (pc := 79) (tgt := 40) hX d_Tx_fitting_79 rfl ?_
        exact VW.cast (by rw [show 1 + (k + 1) = (1 + k) + 1 by omega, i3_succ]; rfl) rfl rfl (ih40 (all_s hIk (by show (!dgB q m (p + 1 + k)) = false; rw [e]; rfl)))
  · show VW X 40 [some (vR r), some (vI (i3 a)), some (vI (i3 m)), some (vI (i3 p)), some (vI 5), some (vI (i3 (1 + (4))))] [] (gM (M))
    have hIk : ∀ i, i < (4) → (fun i => !dgB q m (p + 1 + i)) i = false := hIk
    refine v_iload (pc := 40) hX rfl d_Tx_fitting_40 ?_
    refine v_iload (pc := 42) hX rfl d_Tx_fitting_42 ?_
    refine v_icmp_ge (pc := 44) (tgt := 82) hX d_Tx_fitting_44 rfl (fun h44 => ?_) (fun h44 => False.elim (absurd (Int32.le_refl _) h44))
    refine v_iload (pc := 82) hX rfl d_Tx_fitting_82 ?_
    exact f_iret (pc := 84) hX hR (by have e2 := chs_none hIk; unfold ftD; rw [e2]) (rfl) d_Tx_fitting_84
theorem ff_0 {q : Nat → Int32} {m : Nat} (h : ¬ (0 < m ∧ q 0 = 116)) : ffO q m = some 0 := if_pos h
theorem ff_j {q : Nat → Int32} {m a : Nat} (h : 0 < m ∧ q 0 = 116) (hn : nJ q m = a) (ha : a < 6) (hs : stB q m (1 + 6 * a) 59 = true) : ffO q m = some (1 + 6 * a + ftJ q m (1 + 6 * a)) := by
  unfold ffO; rw [if_neg (fun w => w h), hn, if_pos ⟨ha, hs⟩]
theorem ff_1 {q : Nat → Int32} {m : Nat} (h : 0 < m ∧ q 0 = 116) (hn : nJ q m = 0) (hs : ¬ (0 < 6 ∧ stB q m (1 + 6 * 0) 59 = true)) : ffO q m = some 1 := by
  unfold ffO; rw [if_neg (fun w => w h), hn, if_neg hs, if_pos rfl]
theorem ff_d {q : Nat → Int32} {m a : Nat} (h : 0 < m ∧ q 0 = 116) (hn : nJ q m = a) (hs : ¬ (a < 6 ∧ stB q m (1 + 6 * a) 59 = true)) (ha : a ≠ 0) : ffO q m = ffD q m (1 + 6 * a) := by
  unfold ffO; rw [if_neg (fun w => w h), hn, if_neg hs, if_neg ha]
theorem fd_d {q : Nat → Int32} {m p b : Nat} (hn : nD q m p = b) (hb : b < 4) (hs : stB q m (p + 5 * b) 44 = true) : ffD q m p = some (p + 5 * b + ftD q m (p + 5 * b)) := by
  unfold ffD; rw [hn, if_pos ⟨hb, hs⟩]
theorem fd_e {q : Nat → Int32} {m p b : Nat} (hn : nD q m p = b) (hs : ¬ (b < 4 ∧ stB q m (p + 5 * b) 44 = true)) (h : b = 0 ∨ p + 5 * b < m) : ffD q m p = some (p + 5 * b) := by
  unfold ffD; rw [hn, if_neg hs, if_pos h]
theorem fd_ok {q : Nat → Int32} {m p b : Nat} (hn : nD q m p = b) (hs : ¬ (b < 4 ∧ stB q m (p + 5 * b) 44 = true)) (h : ¬ (b = 0 ∨ p + 5 * b < m)) : ffD q m p = none := by
  unfold ffD; rw [hn, if_neg hs, if_neg h]
theorem gJ_no1 {q : Nat → Int32} {m k : Nat} (h : stB q m (1 + 6 * k) 59 = false) : (!gJ q m k) = true := by unfold gJ; rw [h]; rfl
theorem gJ_no2 {q : Nat → Int32} {m k : Nat} (h : ¬ ftJ q m (1 + 6 * k) = 6) : (!gJ q m k) = true := by unfold gJ; rw [decide_eq_false h]; simp
theorem gJ_yes {q : Nat → Int32} {m k : Nat} (h1 : stB q m (1 + 6 * k) 59 = true) (h : ftJ q m (1 + 6 * k) = 6) : (!gJ q m k) = false := by unfold gJ; rw [h1, decide_eq_true h]; rfl
theorem gD_no1 {q : Nat → Int32} {m p k : Nat} (h : stB q m (p + 5 * k) 44 = false) : (!gD q m p k) = true := by unfold gD; rw [h]; rfl
theorem gD_no2 {q : Nat → Int32} {m p k : Nat} (h : ¬ ftD q m (p + 5 * k) = 5) : (!gD q m p k) = true := by unfold gD; rw [decide_eq_false h]; simp
theorem gD_yes {q : Nat → Int32} {m p k : Nat} (h1 : stB q m (p + 5 * k) 44 = true) (h : ftD q m (p + 5 * k) = 5) : (!gD q m p k) = false := by unfold gD; rw [h1, decide_eq_true h]; rfl
theorem d_Tx_firstFault_0 : decode c_Tx_firstFault 0 = .ok (.iload_n 2, 1) := by decide +kernel
theorem d_Tx_firstFault_1 : decode c_Tx_firstFault 1 = .ok (.iconst 1, 1) := by decide +kernel
theorem d_Tx_firstFault_2 : decode c_Tx_firstFault 2 = .ok (.if_icmp .lt 13, 3) := by decide +kernel
theorem d_Tx_firstFault_5 : decode c_Tx_firstFault 5 = .ok (.aload_n 0, 1) := by decide +kernel
theorem d_Tx_firstFault_6 : decode c_Tx_firstFault 6 = .ok (.iload_n 1, 1) := by decide +kernel
theorem d_Tx_firstFault_7 : decode c_Tx_firstFault 7 = .ok (.invokevirtual 9, 3) := by decide +kernel
theorem d_Tx_firstFault_10 : decode c_Tx_firstFault 10 = .ok (.bipush 116, 2) := by decide +kernel
theorem d_Tx_firstFault_12 : decode c_Tx_firstFault 12 = .ok (.if_icmp .eq 5, 3) := by decide +kernel
theorem d_Tx_firstFault_15 : decode c_Tx_firstFault 15 = .ok (.iconst 0, 1) := by decide +kernel
theorem d_Tx_firstFault_16 : decode c_Tx_firstFault 16 = .ok (.ireturn, 1) := by decide +kernel
theorem d_Tx_firstFault_17 : decode c_Tx_firstFault 17 = .ok (.iconst 1, 1) := by decide +kernel
theorem d_Tx_firstFault_18 : decode c_Tx_firstFault 18 = .ok (.istore_n 3, 1) := by decide +kernel
theorem d_Tx_firstFault_19 : decode c_Tx_firstFault 19 = .ok (.iconst 0, 1) := by decide +kernel
theorem d_Tx_firstFault_20 : decode c_Tx_firstFault 20 = .ok (.istore 4, 2) := by decide +kernel
theorem d_Tx_firstFault_22 : decode c_Tx_firstFault 22 = .ok (.iload 4, 2) := by decide +kernel
theorem d_Tx_firstFault_24 : decode c_Tx_firstFault 24 = .ok (.bipush 6, 2) := by decide +kernel
theorem d_Tx_firstFault_26 : decode c_Tx_firstFault 26 = .ok (.if_icmp .ge 47, 3) := by decide +kernel
theorem d_Tx_firstFault_29 : decode c_Tx_firstFault 29 = .ok (.aload_n 0, 1) := by decide +kernel
theorem d_Tx_firstFault_30 : decode c_Tx_firstFault 30 = .ok (.iload_n 1, 1) := by decide +kernel
theorem d_Tx_firstFault_31 : decode c_Tx_firstFault 31 = .ok (.iload_n 2, 1) := by decide +kernel
theorem d_Tx_firstFault_32 : decode c_Tx_firstFault 32 = .ok (.iload_n 3, 1) := by decide +kernel
theorem d_Tx_firstFault_33 : decode c_Tx_firstFault 33 = .ok (.bipush 59, 2) := by decide +kernel
theorem d_Tx_firstFault_35 : decode c_Tx_firstFault 35 = .ok (.invokestatic 15, 3) := by decide +kernel
theorem d_Tx_firstFault_38 : decode c_Tx_firstFault 38 = .ok (.ifCond .eq 35, 3) := by decide +kernel
theorem d_Tx_firstFault_41 : decode c_Tx_firstFault 41 = .ok (.aload_n 0, 1) := by decide +kernel
theorem d_Tx_firstFault_42 : decode c_Tx_firstFault 42 = .ok (.iload_n 1, 1) := by decide +kernel
theorem d_Tx_firstFault_43 : decode c_Tx_firstFault 43 = .ok (.iload_n 2, 1) := by decide +kernel
theorem d_Tx_firstFault_44 : decode c_Tx_firstFault 44 = .ok (.iload_n 3, 1) := by decide +kernel
theorem d_Tx_firstFault_45 : decode c_Tx_firstFault 45 = .ok (.bipush 6, 2) := by decide +kernel
theorem d_Tx_firstFault_47 : decode c_Tx_firstFault 47 = .ok (.invokestatic 21, 3) := by decide +kernel
theorem d_Tx_firstFault_50 : decode c_Tx_firstFault 50 = .ok (.istore 5, 2) := by decide +kernel
theorem d_Tx_firstFault_52 : decode c_Tx_firstFault 52 = .ok (.iload 5, 2) := by decide +kernel
theorem d_Tx_firstFault_54 : decode c_Tx_firstFault 54 = .ok (.bipush 6, 2) := by decide +kernel
theorem d_Tx_firstFault_56 : decode c_Tx_firstFault 56 = .ok (.if_icmp .ge 8, 3) := by decide +kernel
theorem d_Tx_firstFault_59 : decode c_Tx_firstFault 59 = .ok (.iload_n 3, 1) := by decide +kernel
theorem d_Tx_firstFault_60 : decode c_Tx_firstFault 60 = .ok (.iload 5, 2) := by decide +kernel
theorem d_Tx_firstFault_62 : decode c_Tx_firstFault 62 = .ok (.iadd, 1) := by decide +kernel
theorem d_Tx_firstFault_63 : decode c_Tx_firstFault 63 = .ok (.ireturn, 1) := by decide +kernel
theorem d_Tx_firstFault_64 : decode c_Tx_firstFault 64 = .ok (.iinc 3 6, 3) := by decide +kernel
theorem d_Tx_firstFault_67 : decode c_Tx_firstFault 67 = .ok (.iinc 4 1, 3) := by decide +kernel
theorem d_Tx_firstFault_70 : decode c_Tx_firstFault 70 = .ok (.goto (-48), 3) := by decide +kernel
theorem d_Tx_firstFault_73 : decode c_Tx_firstFault 73 = .ok (.iload_n 3, 1) := by decide +kernel
theorem d_Tx_firstFault_74 : decode c_Tx_firstFault 74 = .ok (.iconst 1, 1) := by decide +kernel
theorem d_Tx_firstFault_75 : decode c_Tx_firstFault 75 = .ok (.if_icmp .ne 5, 3) := by decide +kernel
theorem d_Tx_firstFault_78 : decode c_Tx_firstFault 78 = .ok (.iload_n 3, 1) := by decide +kernel
theorem d_Tx_firstFault_79 : decode c_Tx_firstFault 79 = .ok (.ireturn, 1) := by decide +kernel
theorem d_Tx_firstFault_80 : decode c_Tx_firstFault 80 = .ok (.iload_n 3, 1) := by decide +kernel
theorem d_Tx_firstFault_81 : decode c_Tx_firstFault 81 = .ok (.istore 4, 2) := by decide +kernel
theorem d_Tx_firstFault_83 : decode c_Tx_firstFault 83 = .ok (.iconst 0, 1) := by decide +kernel
theorem d_Tx_firstFault_84 : decode c_Tx_firstFault 84 = .ok (.istore 5, 2) := by decide +kernel
theorem d_Tx_firstFault_86 : decode c_Tx_firstFault 86 = .ok (.iload 5, 2) := by decide +kernel
theorem d_Tx_firstFault_88 : decode c_Tx_firstFault 88 = .ok (.iconst 4, 1) := by decide +kernel
theorem d_Tx_firstFault_89 : decode c_Tx_firstFault 89 = .ok (.if_icmp .ge 45, 3) := by decide +kernel
theorem d_Tx_firstFault_92 : decode c_Tx_firstFault 92 = .ok (.aload_n 0, 1) := by decide +kernel
theorem d_Tx_firstFault_93 : decode c_Tx_firstFault 93 = .ok (.iload_n 1, 1) := by decide +kernel
theorem d_Tx_firstFault_94 : decode c_Tx_firstFault 94 = .ok (.iload_n 2, 1) := by decide +kernel
theorem d_Tx_firstFault_95 : decode c_Tx_firstFault 95 = .ok (.iload_n 3, 1) := by decide +kernel
theorem d_Tx_firstFault_96 : decode c_Tx_firstFault 96 = .ok (.bipush 44, 2) := by decide +kernel
theorem d_Tx_firstFault_98 : decode c_Tx_firstFault 98 = .ok (.invokestatic 15, 3) := by decide +kernel
theorem d_Tx_firstFault_101 : decode c_Tx_firstFault 101 = .ok (.ifCond .eq 33, 3) := by decide +kernel
theorem d_Tx_firstFault_104 : decode c_Tx_firstFault 104 = .ok (.aload_n 0, 1) := by decide +kernel
theorem d_Tx_firstFault_105 : decode c_Tx_firstFault 105 = .ok (.iload_n 1, 1) := by decide +kernel
theorem d_Tx_firstFault_106 : decode c_Tx_firstFault 106 = .ok (.iload_n 2, 1) := by decide +kernel
theorem d_Tx_firstFault_107 : decode c_Tx_firstFault 107 = .ok (.iload_n 3, 1) := by decide +kernel
theorem d_Tx_firstFault_108 : decode c_Tx_firstFault 108 = .ok (.iconst 5, 1) := by decide +kernel
theorem d_Tx_firstFault_109 : decode c_Tx_firstFault 109 = .ok (.invokestatic 21, 3) := by decide +kernel
theorem d_Tx_firstFault_112 : decode c_Tx_firstFault 112 = .ok (.istore 6, 2) := by decide +kernel
theorem d_Tx_firstFault_114 : decode c_Tx_firstFault 114 = .ok (.iload 6, 2) := by decide +kernel
theorem d_Tx_firstFault_116 : decode c_Tx_firstFault 116 = .ok (.iconst 5, 1) := by decide +kernel
theorem d_Tx_firstFault_117 : decode c_Tx_firstFault 117 = .ok (.if_icmp .ge 8, 3) := by decide +kernel
theorem d_Tx_firstFault_120 : decode c_Tx_firstFault 120 = .ok (.iload_n 3, 1) := by decide +kernel
theorem d_Tx_firstFault_121 : decode c_Tx_firstFault 121 = .ok (.iload 6, 2) := by decide +kernel
theorem d_Tx_firstFault_123 : decode c_Tx_firstFault 123 = .ok (.iadd, 1) := by decide +kernel
theorem d_Tx_firstFault_124 : decode c_Tx_firstFault 124 = .ok (.ireturn, 1) := by decide +kernel
theorem d_Tx_firstFault_125 : decode c_Tx_firstFault 125 = .ok (.iinc 3 5, 3) := by decide +kernel
theorem d_Tx_firstFault_128 : decode c_Tx_firstFault 128 = .ok (.iinc 5 1, 3) := by decide +kernel
theorem d_Tx_firstFault_131 : decode c_Tx_firstFault 131 = .ok (.goto (-45), 3) := by decide +kernel
theorem d_Tx_firstFault_134 : decode c_Tx_firstFault 134 = .ok (.iload_n 3, 1) := by decide +kernel
theorem d_Tx_firstFault_135 : decode c_Tx_firstFault 135 = .ok (.iload 4, 2) := by decide +kernel
theorem d_Tx_firstFault_137 : decode c_Tx_firstFault 137 = .ok (.if_icmp .eq 8, 3) := by decide +kernel
theorem d_Tx_firstFault_140 : decode c_Tx_firstFault 140 = .ok (.iload_n 3, 1) := by decide +kernel
theorem d_Tx_firstFault_141 : decode c_Tx_firstFault 141 = .ok (.iload_n 2, 1) := by decide +kernel
theorem d_Tx_firstFault_142 : decode c_Tx_firstFault 142 = .ok (.if_icmp .ge 7, 3) := by decide +kernel
theorem d_Tx_firstFault_145 : decode c_Tx_firstFault 145 = .ok (.iload_n 3, 1) := by decide +kernel
theorem d_Tx_firstFault_146 : decode c_Tx_firstFault 146 = .ok (.goto 5, 3) := by decide +kernel
theorem d_Tx_firstFault_149 : decode c_Tx_firstFault 149 = .ok (.bipush (-9), 2) := by decide +kernel
theorem d_Tx_firstFault_151 : decode c_Tx_firstFault 151 = .ok (.ireturn, 1) := by decide +kernel
set_option maxHeartbeats 4000000 in
theorem C_Tx_firstFault {M : MM} {r c a m : Nat} {q : Nat → Int32} (hr : SH[r]? = some (0, 5)) (hn : NF r 0 = c) (hc : SH[c]? = some (1, 60)) (ha : a + m ≤ 60) (hq : ∀ t, t < m → M c (a + t) = q t) : AF y_Tx_firstFault c_Tx_firstFault 7 (some .int) 4 [vR r, vI (i3 a), vI (i3 m)] (M) (some (vI (eo (ffO q m)))) (M) := by
  refine AF.of k_Tx_firstFault (lo := [some (vR r), some (vI (i3 a)), some (vI (i3 m)), none, none, none, none]) rfl (Nat.le_of_ble_eq_true rfl) (fun X hX hR => ?_)
  have j73 : ∀ (x : Nat), x ≤ 6 → (0 < m ∧ q 0 = 116) → nJ q m = x → ¬ (x < 6 ∧ stB q m (1 + 6 * x) 59 = true) → VW X 73 [some (vR r), some (vI (i3 a)), some (vI (i3 m)), some (vI (i3 (1 + 6 * x))), none, none, none] [] (gM (M)) := by
    intro x hx h0 hxn hxs
    refine v_iload_n (pc := 73) hX rfl d_Tx_firstFault_73 ?_
    refine v_iconst (pc := 74) (v := 1) hX (by decide) d_Tx_firstFault_74 ?_
    refine v_icmp_ne (pc := 75) (tgt := 80) hX d_Tx_firstFault_75 rfl (fun h75 => ?_) (fun h75 => ?_)
    · have hx0 : x ≠ 0 := fun w => h75 (by rw [w]; rfl)
      refine v_iload_n (pc := 80) hX rfl d_Tx_firstFault_80 ?_
      refine v_istore (pc := 81) (lo' := [some (vR _), some (vI _), some (vI _), some (vI _), some (vI _), none, none]) hX (Nat.le_of_ble_eq_true rfl) rfl d_Tx_firstFault_81 ?_
      refine v_iconst (pc := 83) (v := 0) hX (by decide) d_Tx_firstFault_83 ?_
      refine v_istore (pc := 84) (lo' := [some (vR _), some (vI _), some (vI _), some (vI _), some (vI _), some (vI _), none]) hX (Nat.le_of_ble_eq_true rfl) rfl d_Tx_firstFault_84 ?_
      refine VW.cast (lo' := [some (vR r), some (vI (i3 a)), some (vI (i3 m)), some (vI (i3 (1 + 6 * x + 5 * 0))), some (vI (i3 (1 + 6 * x))), some (vI (i3 0)), none]) (st' := []) (G' := gM (M)) rfl rfl rfl ?_
      refine v_forI (X := X) (head := 86) (4) (fun kk => [some (vR r), some (vI (i3 a)), some (vI (i3 m)), some (vI (i3 (1 + 6 * x + 5 * kk))), some (vI (i3 (1 + 6 * x))), some (vI (i3 kk)), none]) (fun kk => M) (fun kk => ∀ i, i < kk → (fun k => !gD q m (1 + 6 * x) k) i = false) (fun i hi => absurd hi (Nat.not_lt_zero i)) (fun k hk hIk ih86 => ?_) (fun hIk => ?_)
      · show VW X 86 [some (vR r), some (vI (i3 a)), some (vI (i3 m)), some (vI (i3 (1 + 6 * x + 5 * k))), some (vI (i3 (1 + 6 * x))), some (vI (i3 k)), none] [] (gM (M))
        have hIk : ∀ i, i < k → (fun k => !gD q m (1 + 6 * x) k) i = false := hIk
        refine v_iload (pc := 86) hX rfl d_Tx_firstFault_86 ?_
        refine v_iconst (pc := 88) (v := 4) hX (by decide) d_Tx_firstFault_88 ?_
        refine v_icmp_ge (pc := 89) (tgt := 134) hX d_Tx_firstFault_89 rfl (fun h89 => False.elim (i3_ge_abs hk (by decide) h89)) (fun h89 => ?_)
        refine v_aload_n (pc := 92) hX rfl d_Tx_firstFault_92 ?_
        refine v_iload_n (pc := 93) hX rfl d_Tx_firstFault_93 ?_
        refine v_iload_n (pc := 94) hX rfl d_Tx_firstFault_94 ?_
        refine v_iload_n (pc := 95) hX rfl d_Tx_firstFault_95 ?_
        refine v_bipush (pc := 96) (v := 44) hX (by decide) d_Tx_firstFault_96 ?_
        refine f_callS (pc := 98) hX k_Tx_startsWith ks_Tx_startsWith ml_Tx_15 (C_Tx_startsWith hr hn hc ha hq (by omega)) rfl rfl rfl (Nat.le_of_ble_eq_true rfl) (Nat.le_of_ble_eq_true rfl) (Nat.le_of_ble_eq_true rfl) d_Tx_firstFault_98 ?_
        refine f_ifeqB (pc := 101) (tgt := 134) hX d_Tx_firstFault_101 rfl (fun h101 => ?_) (fun h101 => ?_)
        · have hnD : nD q m (1 + 6 * x) = k := chs_eq hk (gD_no1 h101) hIk
          have hsD : ¬ (k < 4 ∧ stB q m (1 + 6 * x + 5 * k) 44 = true) := fun w => by rw [h101] at w; exact absurd w.2 (by decide)
          refine v_iload_n (pc := 134) hX rfl d_Tx_firstFault_134 ?_
          refine v_iload (pc := 135) hX rfl d_Tx_firstFault_135 ?_
          refine v_icmp_eq (pc := 137) (tgt := 145) hX d_Tx_firstFault_137 rfl (fun h137 => ?_) (fun h137 => ?_)
          · have hb0 : k = 0 := by have := (i3_inj (by omega) (by omega)).mp h137; omega
            refine v_iload_n (pc := 145) hX rfl d_Tx_firstFault_145 ?_
            refine v_goto (pc := 146) (tgt := 151) hX d_Tx_firstFault_146 rfl ?_
            exact f_iret (pc := 151) hX hR (by rw [ff_d h0 hxn hxs hx0]; first | (rw [fd_e hnD hsD (Or.inl hb0)]; rfl) | (rw [fd_e hnD hsD hm]; rfl) | (rw [fd_ok hnD hsD hm]; rfl)) (rfl) d_Tx_firstFault_151
          · have hb0 : ¬ k = 0 := fun w => h137 (by rw [w]; rfl)
            refine v_iload_n (pc := 140) hX rfl d_Tx_firstFault_140 ?_
            refine v_iload_n (pc := 141) hX rfl d_Tx_firstFault_141 ?_
            refine v_icmp_ge (pc := 142) (tgt := 149) hX d_Tx_firstFault_142 rfl (fun h142 => ?_) (fun h142 => ?_)
            · have hm : ¬ (k = 0 ∨ 1 + 6 * x + 5 * k < m) := by have := (i3_le (by omega) (by omega)).mp h142; omega
              refine v_bipush (pc := 149) (v := (-9)) hX (by decide) d_Tx_firstFault_149 ?_
              exact f_iret (pc := 151) hX hR (by rw [ff_d h0 hxn hxs hx0]; first | (rw [fd_e hnD hsD (Or.inl hb0)]; rfl) | (rw [fd_e hnD hsD hm]; rfl) | (rw [fd_ok hnD hsD hm]; rfl)) (rfl) d_Tx_firstFault_151
            · have hm : k = 0 ∨ 1 + 6 * x + 5 * k < m := Or.inr (Nat.lt_of_not_le (fun w => h142 ((i3_le (by omega) (by omega)).mpr w)))
              refine v_iload_n (pc := 145) hX rfl d_Tx_firstFault_145 ?_
              refine v_goto (pc := 146) (tgt := 151) hX d_Tx_firstFault_146 rfl ?_
              exact f_iret (pc := 151) hX hR (by rw [ff_d h0 hxn hxs hx0]; first | (rw [fd_e hnD hsD (Or.inl hb0)]; rfl) | (rw [fd_e hnD hsD hm]; rfl) | (rw [fd_ok hnD hsD hm]; rfl)) (rfl) d_Tx_firstFault_151
        · refine v_aload_n (pc := 104) hX rfl d_Tx_firstFault_104 ?_
          refine v_iload_n (pc := 105) hX rfl d_Tx_firstFault_105 ?_
          refine v_iload_n (pc := 106) hX rfl d_Tx_firstFault_106 ?_
          refine v_iload_n (pc := 107) hX rfl d_Tx_firstFault_107 ?_
          refine v_iconst (pc := 108) (v := 5) hX (by decide) d_Tx_firstFault_108 ?_
          refine f_callS (pc := 109) hX k_Tx_fitting ks_Tx_fitting ml_Tx_21 (C_Tx_fitting_5 hr hn hc ha hq (by omega)) rfl rfl rfl (Nat.le_of_ble_eq_true rfl) (Nat.le_of_ble_eq_true rfl) (Nat.le_of_ble_eq_true rfl) d_Tx_firstFault_109 ?_
          refine v_istore (pc := 112) (lo' := [some (vR _), some (vI _), some (vI _), some (vI _), some (vI _), some (vI _), some (vI _)]) hX (Nat.le_of_ble_eq_true rfl) rfl d_Tx_firstFault_112 ?_
          refine v_iload (pc := 114) hX rfl d_Tx_firstFault_114 ?_
          refine v_iconst (pc := 116) (v := 5) hX (by decide) d_Tx_firstFault_116 ?_
          refine v_icmp_ge (pc := 117) (tgt := 125) hX d_Tx_firstFault_117 rfl (fun h117 => ?_) (fun h117 => ?_)
          · have e6 : ftD q m (1 + 6 * x + 5 * k) = 5 := by have := ftD_le q m (1 + 6 * x + 5 * k); have := (i3_le (a := 5) (by decide) (by omega)).mp h117; omega
            have e : (fun k => !gD q m (1 + 6 * x) k) k = false := gD_yes h101 e6
            refine v_iinc (pc := 125) (lo' := [some (vR _), some (vI _), some (vI _), some (vI _), some (vI _), some (vI _), some (vI _)]) hX rfl rfl d_Tx_firstFault_125 ?_
            refine v_iinc (pc := 128) (lo' := [some (vR _), some (vI _), some (vI _), some (vI _), some (vI _), some (vI _), some (vI _)]) hX rfl rfl d_Tx_firstFault_128 ?_
            refine v_goto (pc := 131) (tgt := 86) hX d_Tx_firstFault_131 rfl ?_
            refine VW.fg [true, true, true, true, true, true, false] ?_
            exact VW.cast (by rw [show 1 + 6 * x + 5 * (k + 1) = (1 + 6 * x + 5 * k) + 5 by omega, i3_add _ 5, i3_succ k]; rfl) rfl rfl (ih86 (all_s hIk e))
          · have e6 : ¬ ftD q m (1 + 6 * x + 5 * k) = 5 := fun w => h117 (by rw [w]; exact Int32.le_refl _)
            refine v_iload_n (pc := 120) hX rfl d_Tx_firstFault_120 ?_
            refine v_iload (pc := 121) hX rfl d_Tx_firstFault_121 ?_
            refine v_iadd (pc := 123) hX d_Tx_firstFault_123 ?_
            exact f_iret (pc := 124) hX hR (by rw [ff_d h0 hxn hxs hx0, fd_d (chs_eq hk (gD_no2 e6) hIk) hk h101, ← i3_add]; rfl) (rfl) d_Tx_firstFault_124
      · show VW X 86 [some (vR r), some (vI (i3 a)), some (vI (i3 m)), some (vI (i3 (1 + 6 * x + 5 * (4)))), some (vI (i3 (1 + 6 * x))), some (vI (i3 (4))), none] [] (gM (M))
        have hIk : ∀ i, i < (4) → (fun k => !gD q m (1 + 6 * x) k) i = false := hIk
        have hnD : nD q m (1 + 6 * x) = 4 := chs_none hIk
        have hsD : ¬ (4 < 4 ∧ stB q m (1 + 6 * x + 5 * 4) 44 = true) := fun w => absurd w.1 (by decide)
        refine v_iload (pc := 86) hX rfl d_Tx_firstFault_86 ?_
        refine v_iconst (pc := 88) (v := 4) hX (by decide) d_Tx_firstFault_88 ?_
        refine v_icmp_ge (pc := 89) (tgt := 134) hX d_Tx_firstFault_89 rfl (fun h89 => ?_) (fun h89 => False.elim (by revert h89; decide))
        refine v_iload_n (pc := 134) hX rfl d_Tx_firstFault_134 ?_
        refine v_iload (pc := 135) hX rfl d_Tx_firstFault_135 ?_
        refine v_icmp_eq (pc := 137) (tgt := 145) hX d_Tx_firstFault_137 rfl (fun h137 => ?_) (fun h137 => ?_)
        · have hb0 : 4 = 0 := by have := (i3_inj (by omega) (by omega)).mp h137; omega
          refine v_iload_n (pc := 145) hX rfl d_Tx_firstFault_145 ?_
          refine v_goto (pc := 146) (tgt := 151) hX d_Tx_firstFault_146 rfl ?_
          exact f_iret (pc := 151) hX hR (by rw [ff_d h0 hxn hxs hx0]; first | (rw [fd_e hnD hsD (Or.inl hb0)]; rfl) | (rw [fd_e hnD hsD hm]; rfl) | (rw [fd_ok hnD hsD hm]; rfl)) (rfl) d_Tx_firstFault_151
        · have hb0 : ¬ 4 = 0 := fun w => h137 (by rw [w]; rfl)
          refine v_iload_n (pc := 140) hX rfl d_Tx_firstFault_140 ?_
          refine v_iload_n (pc := 141) hX rfl d_Tx_firstFault_141 ?_
          refine v_icmp_ge (pc := 142) (tgt := 149) hX d_Tx_firstFault_142 rfl (fun h142 => ?_) (fun h142 => ?_)
          · have hm : ¬ (4 = 0 ∨ 1 + 6 * x + 5 * 4 < m) := by have := (i3_le (by omega) (by omega)).mp h142; omega
            refine v_bipush (pc := 149) (v := (-9)) hX (by decide) d_Tx_firstFault_149 ?_
            exact f_iret (pc := 151) hX hR (by rw [ff_d h0 hxn hxs hx0]; first | (rw [fd_e hnD hsD (Or.inl hb0)]; rfl) | (rw [fd_e hnD hsD hm]; rfl) | (rw [fd_ok hnD hsD hm]; rfl)) (rfl) d_Tx_firstFault_151
          · have hm : 4 = 0 ∨ 1 + 6 * x + 5 * 4 < m := Or.inr (Nat.lt_of_not_le (fun w => h142 ((i3_le (by omega) (by omega)).mpr w)))
            refine v_iload_n (pc := 145) hX rfl d_Tx_firstFault_145 ?_
            refine v_goto (pc := 146) (tgt := 151) hX d_Tx_firstFault_146 rfl ?_
            exact f_iret (pc := 151) hX hR (by rw [ff_d h0 hxn hxs hx0]; first | (rw [fd_e hnD hsD (Or.inl hb0)]; rfl) | (rw [fd_e hnD hsD hm]; rfl) | (rw [fd_ok hnD hsD hm]; rfl)) (rfl) d_Tx_firstFault_151
    · have hx0 : x = 0 := by
        have e := (i3_inj (a := 1 + 6 * x) (b := 1) (by omega) (by decide)).mp h75
        omega
      refine v_iload_n (pc := 78) hX rfl d_Tx_firstFault_78 ?_
      exact f_iret (pc := 79) hX hR (by subst hx0; rw [ff_1 h0 hxn hxs]; rfl) (rfl) d_Tx_firstFault_79
  refine v_iload_n (pc := 0) hX rfl d_Tx_firstFault_0 ?_
  refine v_iconst (pc := 1) (v := 1) hX (by decide) d_Tx_firstFault_1 ?_
  refine v_icmp_lt (pc := 2) (tgt := 15) hX d_Tx_firstFault_2 rfl (fun h2 => ?_) (fun h2 => ?_)
  · have hf : ffO q m = some 0 := ff_0 (by have := (i3_lt (b := 1) (by omega) (by decide)).mp h2; omega)
    refine v_iconst (pc := 15) (v := 0) hX (by decide) d_Tx_firstFault_15 ?_
    exact f_iret (pc := 16) hX hR (by rw [hf]; rfl) (rfl) d_Tx_firstFault_16
  · have hm0 : 0 < m := Nat.pos_of_ne_zero (fun w => h2 (by rw [w]; decide))
    refine v_aload_n (pc := 5) hX rfl d_Tx_firstFault_5 ?_
    refine v_iload_n (pc := 6) hX rfl d_Tx_firstFault_6 ?_
    refine f_callV (pc := 7) hX k_Sh_at ki_Sh_at kv_Sh_at ml_Tx_9 (C_Sh_at (j := a) hr hn hc (by omega)) (by assumption) rfl rfl rfl rfl (Nat.le_of_ble_eq_true rfl) (Nat.le_of_ble_eq_true rfl) (Nat.le_of_ble_eq_true rfl) d_Tx_firstFault_7 ?_
    rw [show M c a = q 0 from hq 0 hm0]
    refine v_bipush (pc := 10) (v := 116) hX (by decide) d_Tx_firstFault_10 ?_
    refine v_icmp_eq (pc := 12) (tgt := 17) hX d_Tx_firstFault_12 rfl (fun h12 => ?_) (fun h12 => ?_)
    · have h0 : 0 < m ∧ q 0 = 116 := ⟨hm0, h12⟩
      refine v_iconst (pc := 17) (v := 1) hX (by decide) d_Tx_firstFault_17 ?_
      refine v_istore_n (pc := 18) (lo' := [some (vR _), some (vI _), some (vI _), some (vI _), none, none, none]) hX (Nat.le_of_ble_eq_true rfl) rfl d_Tx_firstFault_18 ?_
      refine v_iconst (pc := 19) (v := 0) hX (by decide) d_Tx_firstFault_19 ?_
      refine v_istore (pc := 20) (lo' := [some (vR _), some (vI _), some (vI _), some (vI _), some (vI _), none, none]) hX (Nat.le_of_ble_eq_true rfl) rfl d_Tx_firstFault_20 ?_
      refine VW.cast (lo' := [some (vR r), some (vI (i3 a)), some (vI (i3 m)), some (vI (i3 (1 + 6 * 0))), some (vI (i3 0)), none, none]) (st' := []) (G' := gM (M)) rfl rfl rfl ?_
      refine v_forI (X := X) (head := 22) (6) (fun kk => [some (vR r), some (vI (i3 a)), some (vI (i3 m)), some (vI (i3 (1 + 6 * kk))), some (vI (i3 kk)), none, none]) (fun kk => M) (fun kk => ∀ i, i < kk → (fun k => !gJ q m k) i = false) (fun i hi => absurd hi (Nat.not_lt_zero i)) (fun k hk hIk ih22 => ?_) (fun hIk => ?_)
      · show VW X 22 [some (vR r), some (vI (i3 a)), some (vI (i3 m)), some (vI (i3 (1 + 6 * k))), some (vI (i3 k)), none, none] [] (gM (M))
        have hIk : ∀ i, i < k → (fun k => !gJ q m k) i = false := hIk
        refine v_iload (pc := 22) hX rfl d_Tx_firstFault_22 ?_
        refine v_bipush (pc := 24) (v := 6) hX (by decide) d_Tx_firstFault_24 ?_
        refine v_icmp_ge (pc := 26) (tgt := 73) hX d_Tx_firstFault_26 rfl (fun h26 => False.elim (i3_ge_abs hk (by decide) h26)) (fun h26 => ?_)
        refine v_aload_n (pc := 29) hX rfl d_Tx_firstFault_29 ?_
        refine v_iload_n (pc := 30) hX rfl d_Tx_firstFault_30 ?_
        refine v_iload_n (pc := 31) hX rfl d_Tx_firstFault_31 ?_
        refine v_iload_n (pc := 32) hX rfl d_Tx_firstFault_32 ?_
        refine v_bipush (pc := 33) (v := 59) hX (by decide) d_Tx_firstFault_33 ?_
        refine f_callS (pc := 35) hX k_Tx_startsWith ks_Tx_startsWith ml_Tx_15 (C_Tx_startsWith hr hn hc ha hq (by omega)) rfl rfl rfl (Nat.le_of_ble_eq_true rfl) (Nat.le_of_ble_eq_true rfl) (Nat.le_of_ble_eq_true rfl) d_Tx_firstFault_35 ?_
        refine f_ifeqB (pc := 38) (tgt := 73) hX d_Tx_firstFault_38 rfl (fun h38 => ?_) (fun h38 => ?_)
        · refine VW.fg [true, true, true, true, false, true, true] ?_
          exact VW.cast rfl rfl rfl (j73 k (by omega) h0 (chs_eq hk (gJ_no1 h38) hIk) (fun w => by rw [h38] at w; exact absurd w.2 (by decide)))
        · refine v_aload_n (pc := 41) hX rfl d_Tx_firstFault_41 ?_
          refine v_iload_n (pc := 42) hX rfl d_Tx_firstFault_42 ?_
          refine v_iload_n (pc := 43) hX rfl d_Tx_firstFault_43 ?_
          refine v_iload_n (pc := 44) hX rfl d_Tx_firstFault_44 ?_
          refine v_bipush (pc := 45) (v := 6) hX (by decide) d_Tx_firstFault_45 ?_
          refine f_callS (pc := 47) hX k_Tx_fitting ks_Tx_fitting ml_Tx_21 (C_Tx_fitting_6 hr hn hc ha hq (by omega)) rfl rfl rfl (Nat.le_of_ble_eq_true rfl) (Nat.le_of_ble_eq_true rfl) (Nat.le_of_ble_eq_true rfl) d_Tx_firstFault_47 ?_
          refine v_istore (pc := 50) (lo' := [some (vR _), some (vI _), some (vI _), some (vI _), some (vI _), some (vI _), none]) hX (Nat.le_of_ble_eq_true rfl) rfl d_Tx_firstFault_50 ?_
          refine v_iload (pc := 52) hX rfl d_Tx_firstFault_52 ?_
          refine v_bipush (pc := 54) (v := 6) hX (by decide) d_Tx_firstFault_54 ?_
          refine v_icmp_ge (pc := 56) (tgt := 64) hX d_Tx_firstFault_56 rfl (fun h56 => ?_) (fun h56 => ?_)
          · have e6 : ftJ q m (1 + 6 * k) = 6 := by have := ftJ_le q m (1 + 6 * k); have := (i3_le (a := 6) (by decide) (by omega)).mp h56; omega
            have e : (fun k => !gJ q m k) k = false := gJ_yes h38 e6
            refine v_iinc (pc := 64) (lo' := [some (vR _), some (vI _), some (vI _), some (vI _), some (vI _), some (vI _), none]) hX rfl rfl d_Tx_firstFault_64 ?_
            refine v_iinc (pc := 67) (lo' := [some (vR _), some (vI _), some (vI _), some (vI _), some (vI _), some (vI _), none]) hX rfl rfl d_Tx_firstFault_67 ?_
            refine v_goto (pc := 70) (tgt := 22) hX d_Tx_firstFault_70 rfl ?_
            refine VW.fg [true, true, true, true, true, false, true] ?_
            exact VW.cast (by rw [show 1 + 6 * (k + 1) = (1 + 6 * k) + 6 by omega, i3_add _ 6, i3_succ k]; rfl) rfl rfl (ih22 (all_s hIk e))
          · have e6 : ¬ ftJ q m (1 + 6 * k) = 6 := fun w => h56 (by rw [w]; exact Int32.le_refl _)
            refine v_iload_n (pc := 59) hX rfl d_Tx_firstFault_59 ?_
            refine v_iload (pc := 60) hX rfl d_Tx_firstFault_60 ?_
            refine v_iadd (pc := 62) hX d_Tx_firstFault_62 ?_
            exact f_iret (pc := 63) hX hR (by rw [ff_j h0 (chs_eq hk (gJ_no2 e6) hIk) hk h38, ← i3_add]; rfl) (rfl) d_Tx_firstFault_63
      · show VW X 22 [some (vR r), some (vI (i3 a)), some (vI (i3 m)), some (vI (i3 (1 + 6 * (6)))), some (vI (i3 (6))), none, none] [] (gM (M))
        have hIk : ∀ i, i < (6) → (fun k => !gJ q m k) i = false := hIk
        refine v_iload (pc := 22) hX rfl d_Tx_firstFault_22 ?_
        refine v_bipush (pc := 24) (v := 6) hX (by decide) d_Tx_firstFault_24 ?_
        refine v_icmp_ge (pc := 26) (tgt := 73) hX d_Tx_firstFault_26 rfl (fun h26 => ?_) (fun h26 => False.elim (by revert h26; decide))
        refine VW.fg [true, true, true, true, false, true, true] ?_
        exact VW.cast rfl rfl rfl (j73 6 (Nat.le_refl _) h0 (chs_none hIk) (fun w => absurd w.1 (by decide)))
    · have hf : ffO q m = some 0 := ff_0 (fun w => h12 w.2)
      refine v_iconst (pc := 15) (v := 0) hX (by decide) d_Tx_firstFault_15 ?_
      exact f_iret (pc := 16) hX hR (by rw [hf]; rfl) (rfl) d_Tx_firstFault_16
