/-! The model: sheets. -/
theorem hcB_int {z : Nat} {i n : Int32} (hz : z ≤ 60) : hcB (i3 z) i n = true ↔ 0 ≤ i.toInt ∧ 0 ≤ n.toInt ∧ i.toInt + n.toInt ≤ (z : Int) := by
  unfold hcB
  have hzi := i3_int (k := z) (by omega)
  have h1 := Int32.le_toInt i
  have h2 := Int32.toInt_le i
  have e1 : Int32.minValue.toInt = -2147483648 := by decide
  have e2 : Int32.maxValue.toInt = 2147483647 := by decide
  simp only [Bool.and_eq_true, decide_eq_true_eq, le32, q_0, hzi]
  constructor
  · rintro ⟨a1, a2, a3, a4⟩
    rw [Int32.toInt_sub, hzi, Int.bmod_def] at a4
    omega
  · rintro ⟨a1, a2, a3⟩
    refine ⟨a1, by omega, a2, ?_⟩
    rw [Int32.toInt_sub, hzi, Int.bmod_def]
    omega
theorem hcB_1 {s : Nat} {i : Int32} (hs : s ≤ 60) : hcB (i3 s) i 1 = rg i 0 ((s : Int) - 1) := by
  rw [Bool.eq_iff_iff, hcB_int hs, rg_true, q_1]
  omega
theorem flt_val (z : Nat) (l lane i n : Int32) : flt z l lane i n = 0 ∨ flt z l lane i n = 1 ∨ flt z l lane i n = 2 ∨ flt z l lane i n = 3 ∨ flt z l lane i n = 4 := by
  unfold flt
  split
  · simp
  · split
    · simp
    · split
      · simp
      · split <;> simp
theorem flt_pos {z : Nat} {l lane i n : Int32} (h : ¬ flt z l lane i n = 0) : 0 < flt z l lane i n := by
  rcases flt_val z l lane i n with e | e | e | e | e <;> rw [e] at h ⊢
  · exact absurd rfl h
  · decide
  · decide
  · decide
  · decide
theorem flt_neg {z : Nat} {l lane i n : Int32} : -10 - flt z l lane i n < 0 := by
  rcases flt_val z l lane i n with e | e | e | e | e <;> rw [e] <;> decide
theorem flt_1 {z : Nat} {l lane i n : Int32} (h : z = 0) : flt z l lane i n = 1 := if_pos h
theorem flt_2 {z : Nat} {l lane i n : Int32} (h : z ≠ 0) (h2 : ¬ lane = l) : flt z l lane i n = 2 := by unfold flt; rw [if_neg h, if_pos h2]
theorem flt_4 {z : Nat} {l lane i n : Int32} (h : z ≠ 0) (h2 : lane = l) (h3 : n < 0) : flt z l lane i n = 4 := by unfold flt; rw [if_neg h, if_neg (fun w => w h2), if_pos h3]
theorem flt_3 {z : Nat} {l lane i n : Int32} (h : z ≠ 0) (h2 : lane = l) (h3 : ¬ n < 0) (h4 : hcB (i3 (z - 1)) i n = false) : flt z l lane i n = 3 := by unfold flt; rw [if_neg h, if_neg (fun w => w h2), if_neg h3, h4]; rfl
theorem flt_0 {z : Nat} {l lane i n : Int32} (h : z ≠ 0) (h2 : lane = l) (h3 : ¬ n < 0) (h4 : hcB (i3 (z - 1)) i n = true) : flt z l lane i n = 0 := by unfold flt; rw [if_neg h, if_neg (fun w => w h2), if_neg h3, if_pos h4]
theorem d_Mo_isBeyond_0 : decode c_Mo_isBeyond 0 = .ok (.iload_n 0, 1) := by decide +kernel
theorem d_Mo_isBeyond_1 : decode c_Mo_isBeyond 1 = .ok (.ifCond .lt 19, 3) := by decide +kernel
theorem d_Mo_isBeyond_4 : decode c_Mo_isBeyond 4 = .ok (.lload_n 1, 1) := by decide +kernel
theorem d_Mo_isBeyond_5 : decode c_Mo_isBeyond 5 = .ok (.lconst 0, 1) := by decide +kernel
theorem d_Mo_isBeyond_6 : decode c_Mo_isBeyond 6 = .ok (.lcmp, 1) := by decide +kernel
theorem d_Mo_isBeyond_7 : decode c_Mo_isBeyond 7 = .ok (.ifCond .lt 13, 3) := by decide +kernel
theorem d_Mo_isBeyond_10 : decode c_Mo_isBeyond 10 = .ok (.iload_n 0, 1) := by decide +kernel
theorem d_Mo_isBeyond_11 : decode c_Mo_isBeyond 11 = .ok (.i2l, 1) := by decide +kernel
theorem d_Mo_isBeyond_12 : decode c_Mo_isBeyond 12 = .ok (.lload_n 1, 1) := by decide +kernel
theorem d_Mo_isBeyond_13 : decode c_Mo_isBeyond 13 = .ok (.ladd, 1) := by decide +kernel
theorem d_Mo_isBeyond_14 : decode c_Mo_isBeyond 14 = .ok (.iload_n 3, 1) := by decide +kernel
theorem d_Mo_isBeyond_15 : decode c_Mo_isBeyond 15 = .ok (.i2l, 1) := by decide +kernel
theorem d_Mo_isBeyond_16 : decode c_Mo_isBeyond 16 = .ok (.lcmp, 1) := by decide +kernel
theorem d_Mo_isBeyond_17 : decode c_Mo_isBeyond 17 = .ok (.ifCond .le 7, 3) := by decide +kernel
theorem d_Mo_isBeyond_20 : decode c_Mo_isBeyond 20 = .ok (.iconst 1, 1) := by decide +kernel
theorem d_Mo_isBeyond_21 : decode c_Mo_isBeyond 21 = .ok (.goto 4, 3) := by decide +kernel
theorem d_Mo_isBeyond_24 : decode c_Mo_isBeyond 24 = .ok (.iconst 0, 1) := by decide +kernel
theorem d_Mo_isBeyond_25 : decode c_Mo_isBeyond 25 = .ok (.ireturn, 1) := by decide +kernel
theorem C_Mo_isBeyond {M : MM} {z : Nat} {i n : Int32} {nl : Int64} (hz : z ≤ 60) (hn : nl.toInt = n.toInt) : AF y_Mo_isBeyond c_Mo_isBeyond 4 (some .boolean) 1 [vI i, vL nl, vI (i3 z)] (M) (some (vI (bI (!hcB (i3 z) i n)))) (M) := by
  have hh := hcB_int (z := z) (i := i) (n := n) hz
  have hzi := i3_int (k := z) (by omega)
  have b1 := Int32.le_toInt i
  have b2 := Int32.toInt_le i
  have b3 := Int32.le_toInt n
  have b4 := Int32.toInt_le n
  have c1 : Int32.minValue.toInt = -2147483648 := by decide
  have c2 : Int32.maxValue.toInt = 2147483647 := by decide
  refine AF.of k_Mo_isBeyond (lo := [some (vI i), some (vL nl), none, some (vI (i3 z))]) rfl (Nat.le_of_ble_eq_true rfl) (fun X hX hR => ?_)
  refine v_iload_n (pc := 0) hX rfl d_Mo_isBeyond_0 ?_
  refine v_if_lt (pc := 1) (tgt := 20) hX d_Mo_isBeyond_1 rfl (fun h1 => ?_) (fun h1 => ?_)
  · have e : hcB (i3 z) i n = false := Bool.eq_false_iff.mpr (fun w => by have := hh.mp w; simp only [lt32, q_0] at h1; omega)
    refine v_iconst (pc := 20) (v := 1) hX (by decide) d_Mo_isBeyond_20 ?_
    refine v_goto (pc := 21) (tgt := 25) hX d_Mo_isBeyond_21 rfl ?_
    exact f_zret (pc := 25) hX hR (by first | exact bT (by rw [e]; rfl) | exact bF (by rw [e]; rfl)) (rfl) d_Mo_isBeyond_25
  · refine v_lload_n (pc := 4) hX rfl d_Mo_isBeyond_4 ?_
    refine v_lconst (pc := 5) (v := 0) hX (by decide) d_Mo_isBeyond_5 ?_
    refine v_lcmp (pc := 6) hX d_Mo_isBeyond_6 ?_
    refine v_if_lt (pc := 7) (tgt := 20) hX d_Mo_isBeyond_7 rfl (fun h7 => ?_) (fun h7 => ?_)
    · have h7' := Int64.lt_iff_toInt_lt.mp ((lg_cmp_lt _ _).mp h7)
      rw [show (0 : Int64).toInt = 0 from rfl, hn] at h7'
      have e : hcB (i3 z) i n = false := Bool.eq_false_iff.mpr (fun w => by have := hh.mp w; omega)
      refine v_iconst (pc := 20) (v := 1) hX (by decide) d_Mo_isBeyond_20 ?_
      refine v_goto (pc := 21) (tgt := 25) hX d_Mo_isBeyond_21 rfl ?_
      exact f_zret (pc := 25) hX hR (by first | exact bT (by rw [e]; rfl) | exact bF (by rw [e]; rfl)) (rfl) d_Mo_isBeyond_25
    · have h7' : ¬ n.toInt < 0 := fun w => h7 ((lg_cmp_lt _ _).mpr (Int64.lt_iff_toInt_lt.mpr (by rw [hn]; exact w)))
      refine v_iload_n (pc := 10) hX rfl d_Mo_isBeyond_10 ?_
      refine v_i2l (pc := 11) hX d_Mo_isBeyond_11 ?_
      refine v_lload_n (pc := 12) hX rfl d_Mo_isBeyond_12 ?_
      refine v_ladd (pc := 13) hX d_Mo_isBeyond_13 ?_
      have hsum : (i.toInt64 + nl).toInt = i.toInt + n.toInt := by rw [Int64.toInt_add, Int32.toInt_toInt64, hn, Int.bmod_def]; omega
      refine v_iload_n (pc := 14) hX rfl d_Mo_isBeyond_14 ?_
      refine v_i2l (pc := 15) hX d_Mo_isBeyond_15 ?_
      refine v_lcmp (pc := 16) hX d_Mo_isBeyond_16 ?_
      refine v_if_le (pc := 17) (tgt := 24) hX d_Mo_isBeyond_17 rfl (fun h17 => ?_) (fun h17 => ?_)
      · have h17' := Int64.le_iff_toInt_le.mp ((lg_cmp_le _ _).mp h17)
        rw [hsum, Int32.toInt_toInt64, hzi] at h17'
        have e : hcB (i3 z) i n = true := hh.mpr (by simp only [lt32, q_0] at h1; omega)
        refine v_iconst (pc := 24) (v := 0) hX (by decide) d_Mo_isBeyond_24 ?_
        exact f_zret (pc := 25) hX hR (by first | exact bT (by rw [e]; rfl) | exact bF (by rw [e]; rfl)) (rfl) d_Mo_isBeyond_25
      · have e : hcB (i3 z) i n = false := Bool.eq_false_iff.mpr (fun w => h17 ((lg_cmp_le _ _).mpr (Int64.le_iff_toInt_le.mpr (by rw [hsum, Int32.toInt_toInt64, hzi]; exact (hh.mp w).2.2))))
        refine v_iconst (pc := 20) (v := 1) hX (by decide) d_Mo_isBeyond_20 ?_
        refine v_goto (pc := 21) (tgt := 25) hX d_Mo_isBeyond_21 rfl ?_
        exact f_zret (pc := 25) hX hR (by first | exact bT (by rw [e]; rfl) | exact bF (by rw [e]; rfl)) (rfl) d_Mo_isBeyond_25
theorem d_Mo_cellsBarred_0 : decode c_Mo_cellsBarred 0 = .ok (.aload_n 0, 1) := by decide +kernel
theorem d_Mo_cellsBarred_1 : decode c_Mo_cellsBarred 1 = .ok (.getfield 79, 3) := by decide +kernel
theorem d_Mo_cellsBarred_4 : decode c_Mo_cellsBarred 4 = .ok (.iload_n 1, 1) := by decide +kernel
theorem d_Mo_cellsBarred_5 : decode c_Mo_cellsBarred 5 = .ok (.iaload, 1) := by decide +kernel
theorem d_Mo_cellsBarred_6 : decode c_Mo_cellsBarred 6 = .ok (.ifCond .lt 19, 3) := by decide +kernel
theorem d_Mo_cellsBarred_9 : decode c_Mo_cellsBarred 9 = .ok (.aload_n 0, 1) := by decide +kernel
theorem d_Mo_cellsBarred_10 : decode c_Mo_cellsBarred 10 = .ok (.getfield 82, 3) := by decide +kernel
theorem d_Mo_cellsBarred_13 : decode c_Mo_cellsBarred 13 = .ok (.iload_n 1, 1) := by decide +kernel
theorem d_Mo_cellsBarred_14 : decode c_Mo_cellsBarred 14 = .ok (.iaload, 1) := by decide +kernel
theorem d_Mo_cellsBarred_15 : decode c_Mo_cellsBarred 15 = .ok (.iload_n 2, 1) := by decide +kernel
theorem d_Mo_cellsBarred_16 : decode c_Mo_cellsBarred 16 = .ok (.if_icmp .eq 9, 3) := by decide +kernel
theorem d_Mo_cellsBarred_19 : decode c_Mo_cellsBarred 19 = .ok (.aload_n 0, 1) := by decide +kernel
theorem d_Mo_cellsBarred_20 : decode c_Mo_cellsBarred 20 = .ok (.iconst 2, 1) := by decide +kernel
theorem d_Mo_cellsBarred_21 : decode c_Mo_cellsBarred 21 = .ok (.invokevirtual 137, 3) := by decide +kernel
theorem d_Mo_cellsBarred_24 : decode c_Mo_cellsBarred 24 = .ok (.ireturn, 1) := by decide +kernel
theorem d_Mo_cellsBarred_25 : decode c_Mo_cellsBarred 25 = .ok (.aload_n 0, 1) := by decide +kernel
theorem d_Mo_cellsBarred_26 : decode c_Mo_cellsBarred 26 = .ok (.getfield 79, 3) := by decide +kernel
theorem d_Mo_cellsBarred_29 : decode c_Mo_cellsBarred 29 = .ok (.iload_n 1, 1) := by decide +kernel
theorem d_Mo_cellsBarred_30 : decode c_Mo_cellsBarred 30 = .ok (.iaload, 1) := by decide +kernel
theorem d_Mo_cellsBarred_31 : decode c_Mo_cellsBarred 31 = .ok (.ifCond .ge 9, 3) := by decide +kernel
theorem d_Mo_cellsBarred_34 : decode c_Mo_cellsBarred 34 = .ok (.aload_n 0, 1) := by decide +kernel
theorem d_Mo_cellsBarred_35 : decode c_Mo_cellsBarred 35 = .ok (.iconst 1, 1) := by decide +kernel
theorem d_Mo_cellsBarred_36 : decode c_Mo_cellsBarred 36 = .ok (.invokevirtual 137, 3) := by decide +kernel
theorem d_Mo_cellsBarred_39 : decode c_Mo_cellsBarred 39 = .ok (.ireturn, 1) := by decide +kernel
theorem d_Mo_cellsBarred_40 : decode c_Mo_cellsBarred 40 = .ok (.lload 4, 2) := by decide +kernel
theorem d_Mo_cellsBarred_42 : decode c_Mo_cellsBarred 42 = .ok (.lconst 0, 1) := by decide +kernel
theorem d_Mo_cellsBarred_43 : decode c_Mo_cellsBarred 43 = .ok (.lcmp, 1) := by decide +kernel
theorem d_Mo_cellsBarred_44 : decode c_Mo_cellsBarred 44 = .ok (.ifCond .ge 9, 3) := by decide +kernel
theorem d_Mo_cellsBarred_47 : decode c_Mo_cellsBarred 47 = .ok (.aload_n 0, 1) := by decide +kernel
theorem d_Mo_cellsBarred_48 : decode c_Mo_cellsBarred 48 = .ok (.iconst 4, 1) := by decide +kernel
theorem d_Mo_cellsBarred_49 : decode c_Mo_cellsBarred 49 = .ok (.invokevirtual 137, 3) := by decide +kernel
theorem d_Mo_cellsBarred_52 : decode c_Mo_cellsBarred 52 = .ok (.ireturn, 1) := by decide +kernel
theorem d_Mo_cellsBarred_53 : decode c_Mo_cellsBarred 53 = .ok (.iload_n 3, 1) := by decide +kernel
theorem d_Mo_cellsBarred_54 : decode c_Mo_cellsBarred 54 = .ok (.lload 4, 2) := by decide +kernel
theorem d_Mo_cellsBarred_56 : decode c_Mo_cellsBarred 56 = .ok (.aload_n 0, 1) := by decide +kernel
theorem d_Mo_cellsBarred_57 : decode c_Mo_cellsBarred 57 = .ok (.getfield 79, 3) := by decide +kernel
theorem d_Mo_cellsBarred_60 : decode c_Mo_cellsBarred 60 = .ok (.iload_n 1, 1) := by decide +kernel
theorem d_Mo_cellsBarred_61 : decode c_Mo_cellsBarred 61 = .ok (.iaload, 1) := by decide +kernel
theorem d_Mo_cellsBarred_62 : decode c_Mo_cellsBarred 62 = .ok (.invokestatic 141, 3) := by decide +kernel
theorem d_Mo_cellsBarred_65 : decode c_Mo_cellsBarred 65 = .ok (.ifCond .eq 11, 3) := by decide +kernel
theorem d_Mo_cellsBarred_68 : decode c_Mo_cellsBarred 68 = .ok (.aload_n 0, 1) := by decide +kernel
theorem d_Mo_cellsBarred_69 : decode c_Mo_cellsBarred 69 = .ok (.iconst 3, 1) := by decide +kernel
theorem d_Mo_cellsBarred_70 : decode c_Mo_cellsBarred 70 = .ok (.invokevirtual 137, 3) := by decide +kernel
theorem d_Mo_cellsBarred_73 : decode c_Mo_cellsBarred 73 = .ok (.goto 4, 3) := by decide +kernel
theorem d_Mo_cellsBarred_76 : decode c_Mo_cellsBarred 76 = .ok (.iconst 0, 1) := by decide +kernel
theorem d_Mo_cellsBarred_77 : decode c_Mo_cellsBarred 77 = .ok (.ireturn, 1) := by decide +kernel
theorem C_Mo_cb_1 {M : MM} {k : Nat} {zs : Nat → Nat} {ln : Nat → Int32} {C : JT} (hZ : MZ M zs ln C) (hk : k < 4) {u i n : Int32} {nl : Int64} (hn : nl.toInt = n.toInt) (hz : zs k = 0) : AF y_Mo_cellsBarred c_Mo_cellsBarred 6 (some .int) 2 [vR 36, vI (i3 k), vI u, vI i, vL nl] (M) (some (vI (-11))) (upM M 36 0 1) := by
  obtain ⟨z1, z2, z3⟩ := hZ k hk
  refine AF.of k_Mo_cellsBarred (lo := [some (vR 36), some (vI (i3 k)), some (vI u), some (vI i), some (vL nl), none]) rfl (Nat.le_of_ble_eq_true rfl) (fun X hX hR => ?_)
  refine v_aload_n (pc := 0) hX rfl d_Mo_cellsBarred_0 ?_
  refine g_getR (pc := 1) hX fl_Mo_79 rfl rfl nf_36_31 d_Mo_cellsBarred_1 ?_
  refine v_iload_n (pc := 4) hX rfl d_Mo_cellsBarred_4 ?_
  refine g_iald (pc := 5) hX rfl (IX.of (n := 4) (by omega) (by decide)) d_Mo_cellsBarred_5 ?_
  rw [z2, if_pos hz]
  refine v_if_lt (pc := 6) (tgt := 25) hX d_Mo_cellsBarred_6 rfl (fun h6 => ?_) (fun h6 => False.elim (h6 (by decide)))
  refine v_aload_n (pc := 25) hX rfl d_Mo_cellsBarred_25 ?_
  refine g_getR (pc := 26) hX fl_Mo_79 rfl rfl nf_36_31 d_Mo_cellsBarred_26 ?_
  refine v_iload_n (pc := 29) hX rfl d_Mo_cellsBarred_29 ?_
  refine g_iald (pc := 30) hX rfl (IX.of (n := 4) (by omega) (by decide)) d_Mo_cellsBarred_30 ?_
  rw [z2, if_pos hz]
  refine v_if_ge (pc := 31) (tgt := 40) hX d_Mo_cellsBarred_31 rfl (fun h31 => False.elim (absurd h31 (by decide))) (fun h31 => ?_)
  refine v_aload_n (pc := 34) hX rfl d_Mo_cellsBarred_34 ?_
  refine v_iconst (pc := 35) (v := 1) hX (by decide) d_Mo_cellsBarred_35 ?_
  refine f_callV (pc := 36) hX k_Mo_failed ki_Mo_failed kv_Mo_failed ml_Mo_137 (C_Mo_failed) rfl rfl rfl rfl rfl (Nat.le_of_ble_eq_true rfl) (Nat.le_of_ble_eq_true rfl) (Nat.le_of_ble_eq_true rfl) d_Mo_cellsBarred_36 ?_
  exact f_iret (pc := 39) hX hR (rfl) (rfl) d_Mo_cellsBarred_39
theorem C_Mo_cb_2 {M : MM} {k : Nat} {zs : Nat → Nat} {ln : Nat → Int32} {C : JT} (hZ : MZ M zs ln C) (hk : k < 4) {u i n : Int32} {nl : Int64} (hn : nl.toInt = n.toInt) (hz : zs k ≠ 0) (hu : ¬ u = ln k) : AF y_Mo_cellsBarred c_Mo_cellsBarred 6 (some .int) 2 [vR 36, vI (i3 k), vI u, vI i, vL nl] (M) (some (vI (-12))) (upM M 36 0 2) := by
  obtain ⟨z1, z2, z3⟩ := hZ k hk
  refine AF.of k_Mo_cellsBarred (lo := [some (vR 36), some (vI (i3 k)), some (vI u), some (vI i), some (vL nl), none]) rfl (Nat.le_of_ble_eq_true rfl) (fun X hX hR => ?_)
  refine v_aload_n (pc := 0) hX rfl d_Mo_cellsBarred_0 ?_
  refine g_getR (pc := 1) hX fl_Mo_79 rfl rfl nf_36_31 d_Mo_cellsBarred_1 ?_
  refine v_iload_n (pc := 4) hX rfl d_Mo_cellsBarred_4 ?_
  refine g_iald (pc := 5) hX rfl (IX.of (n := 4) (by omega) (by decide)) d_Mo_cellsBarred_5 ?_
  rw [z2, if_neg hz]
  refine v_if_lt (pc := 6) (tgt := 25) hX d_Mo_cellsBarred_6 rfl (fun h6 => False.elim (by have := (i3_lt (b := 0) (by omega) (by decide)).mp h6; omega)) (fun h6 => ?_)
  refine v_aload_n (pc := 9) hX rfl d_Mo_cellsBarred_9 ?_
  refine g_getR (pc := 10) hX fl_Mo_82 rfl rfl nf_36_32 d_Mo_cellsBarred_10 ?_
  refine v_iload_n (pc := 13) hX rfl d_Mo_cellsBarred_13 ?_
  refine g_iald (pc := 14) hX rfl (IX.of (n := 4) (by omega) (by decide)) d_Mo_cellsBarred_14 ?_
  rw [(z3 hz).1]
  refine v_iload_n (pc := 15) hX rfl d_Mo_cellsBarred_15 ?_
  refine v_icmp_eq (pc := 16) (tgt := 25) hX d_Mo_cellsBarred_16 rfl (fun h16 => False.elim (hu h16.symm)) (fun h16 => ?_)
  refine v_aload_n (pc := 19) hX rfl d_Mo_cellsBarred_19 ?_
  refine v_iconst (pc := 20) (v := 2) hX (by decide) d_Mo_cellsBarred_20 ?_
  refine f_callV (pc := 21) hX k_Mo_failed ki_Mo_failed kv_Mo_failed ml_Mo_137 (C_Mo_failed) rfl rfl rfl rfl rfl (Nat.le_of_ble_eq_true rfl) (Nat.le_of_ble_eq_true rfl) (Nat.le_of_ble_eq_true rfl) d_Mo_cellsBarred_21 ?_
  exact f_iret (pc := 24) hX hR (rfl) (rfl) d_Mo_cellsBarred_24
theorem C_Mo_cb_4 {M : MM} {k : Nat} {zs : Nat → Nat} {ln : Nat → Int32} {C : JT} (hZ : MZ M zs ln C) (hk : k < 4) {u i n : Int32} {nl : Int64} (hn : nl.toInt = n.toInt) (hz : zs k ≠ 0) (hu : u = ln k) (hn0 : n < 0) : AF y_Mo_cellsBarred c_Mo_cellsBarred 6 (some .int) 2 [vR 36, vI (i3 k), vI u, vI i, vL nl] (M) (some (vI (-14))) (upM M 36 0 4) := by
  obtain ⟨z1, z2, z3⟩ := hZ k hk
  refine AF.of k_Mo_cellsBarred (lo := [some (vR 36), some (vI (i3 k)), some (vI u), some (vI i), some (vL nl), none]) rfl (Nat.le_of_ble_eq_true rfl) (fun X hX hR => ?_)
  refine v_aload_n (pc := 0) hX rfl d_Mo_cellsBarred_0 ?_
  refine g_getR (pc := 1) hX fl_Mo_79 rfl rfl nf_36_31 d_Mo_cellsBarred_1 ?_
  refine v_iload_n (pc := 4) hX rfl d_Mo_cellsBarred_4 ?_
  refine g_iald (pc := 5) hX rfl (IX.of (n := 4) (by omega) (by decide)) d_Mo_cellsBarred_5 ?_
  rw [z2, if_neg hz]
  refine v_if_lt (pc := 6) (tgt := 25) hX d_Mo_cellsBarred_6 rfl (fun h6 => False.elim (by have := (i3_lt (b := 0) (by omega) (by decide)).mp h6; omega)) (fun h6 => ?_)
  refine v_aload_n (pc := 9) hX rfl d_Mo_cellsBarred_9 ?_
  refine g_getR (pc := 10) hX fl_Mo_82 rfl rfl nf_36_32 d_Mo_cellsBarred_10 ?_
  refine v_iload_n (pc := 13) hX rfl d_Mo_cellsBarred_13 ?_
  refine g_iald (pc := 14) hX rfl (IX.of (n := 4) (by omega) (by decide)) d_Mo_cellsBarred_14 ?_
  rw [(z3 hz).1]
  refine v_iload_n (pc := 15) hX rfl d_Mo_cellsBarred_15 ?_
  refine v_icmp_eq (pc := 16) (tgt := 25) hX d_Mo_cellsBarred_16 rfl (fun h16 => ?_) (fun h16 => False.elim (h16 hu.symm))
  refine v_aload_n (pc := 25) hX rfl d_Mo_cellsBarred_25 ?_
  refine g_getR (pc := 26) hX fl_Mo_79 rfl rfl nf_36_31 d_Mo_cellsBarred_26 ?_
  refine v_iload_n (pc := 29) hX rfl d_Mo_cellsBarred_29 ?_
  refine g_iald (pc := 30) hX rfl (IX.of (n := 4) (by omega) (by decide)) d_Mo_cellsBarred_30 ?_
  rw [z2, if_neg hz]
  refine v_if_ge (pc := 31) (tgt := 40) hX d_Mo_cellsBarred_31 rfl (fun h31 => ?_) (fun h31 => False.elim (h31 ((i3_le (a := 0) (by decide) (by omega)).mpr (by omega))))
  refine v_lload (pc := 40) hX rfl d_Mo_cellsBarred_40 ?_
  refine v_lconst (pc := 42) (v := 0) hX (by decide) d_Mo_cellsBarred_42 ?_
  refine v_lcmp (pc := 43) hX d_Mo_cellsBarred_43 ?_
  refine v_if_ge (pc := 44) (tgt := 53) hX d_Mo_cellsBarred_44 rfl (fun h44 => False.elim (by have := Int64.le_iff_toInt_le.mp ((lg_cmp_ge _ _).mp h44); rw [hn, show (0 : Int64).toInt = 0 from rfl] at this; simp only [lt32, q_0] at hn0; omega)) (fun h44 => ?_)
  refine v_aload_n (pc := 47) hX rfl d_Mo_cellsBarred_47 ?_
  refine v_iconst (pc := 48) (v := 4) hX (by decide) d_Mo_cellsBarred_48 ?_
  refine f_callV (pc := 49) hX k_Mo_failed ki_Mo_failed kv_Mo_failed ml_Mo_137 (C_Mo_failed) rfl rfl rfl rfl rfl (Nat.le_of_ble_eq_true rfl) (Nat.le_of_ble_eq_true rfl) (Nat.le_of_ble_eq_true rfl) d_Mo_cellsBarred_49 ?_
  exact f_iret (pc := 52) hX hR (rfl) (rfl) d_Mo_cellsBarred_52
theorem C_Mo_cb_3 {M : MM} {k : Nat} {zs : Nat → Nat} {ln : Nat → Int32} {C : JT} (hZ : MZ M zs ln C) (hk : k < 4) {u i n : Int32} {nl : Int64} (hn : nl.toInt = n.toInt) (hz : zs k ≠ 0) (hu : u = ln k) (hn0 : ¬ n < 0) (hh : hcB (i3 (zs k - 1)) i n = false) : AF y_Mo_cellsBarred c_Mo_cellsBarred 6 (some .int) 2 [vR 36, vI (i3 k), vI u, vI i, vL nl] (M) (some (vI (-13))) (upM M 36 0 3) := by
  obtain ⟨z1, z2, z3⟩ := hZ k hk
  refine AF.of k_Mo_cellsBarred (lo := [some (vR 36), some (vI (i3 k)), some (vI u), some (vI i), some (vL nl), none]) rfl (Nat.le_of_ble_eq_true rfl) (fun X hX hR => ?_)
  refine v_aload_n (pc := 0) hX rfl d_Mo_cellsBarred_0 ?_
  refine g_getR (pc := 1) hX fl_Mo_79 rfl rfl nf_36_31 d_Mo_cellsBarred_1 ?_
  refine v_iload_n (pc := 4) hX rfl d_Mo_cellsBarred_4 ?_
  refine g_iald (pc := 5) hX rfl (IX.of (n := 4) (by omega) (by decide)) d_Mo_cellsBarred_5 ?_
  rw [z2, if_neg hz]
  refine v_if_lt (pc := 6) (tgt := 25) hX d_Mo_cellsBarred_6 rfl (fun h6 => False.elim (by have := (i3_lt (b := 0) (by omega) (by decide)).mp h6; omega)) (fun h6 => ?_)
  refine v_aload_n (pc := 9) hX rfl d_Mo_cellsBarred_9 ?_
  refine g_getR (pc := 10) hX fl_Mo_82 rfl rfl nf_36_32 d_Mo_cellsBarred_10 ?_
  refine v_iload_n (pc := 13) hX rfl d_Mo_cellsBarred_13 ?_
  refine g_iald (pc := 14) hX rfl (IX.of (n := 4) (by omega) (by decide)) d_Mo_cellsBarred_14 ?_
  rw [(z3 hz).1]
  refine v_iload_n (pc := 15) hX rfl d_Mo_cellsBarred_15 ?_
  refine v_icmp_eq (pc := 16) (tgt := 25) hX d_Mo_cellsBarred_16 rfl (fun h16 => ?_) (fun h16 => False.elim (h16 hu.symm))
  refine v_aload_n (pc := 25) hX rfl d_Mo_cellsBarred_25 ?_
  refine g_getR (pc := 26) hX fl_Mo_79 rfl rfl nf_36_31 d_Mo_cellsBarred_26 ?_
  refine v_iload_n (pc := 29) hX rfl d_Mo_cellsBarred_29 ?_
  refine g_iald (pc := 30) hX rfl (IX.of (n := 4) (by omega) (by decide)) d_Mo_cellsBarred_30 ?_
  rw [z2, if_neg hz]
  refine v_if_ge (pc := 31) (tgt := 40) hX d_Mo_cellsBarred_31 rfl (fun h31 => ?_) (fun h31 => False.elim (h31 ((i3_le (a := 0) (by decide) (by omega)).mpr (by omega))))
  refine v_lload (pc := 40) hX rfl d_Mo_cellsBarred_40 ?_
  refine v_lconst (pc := 42) (v := 0) hX (by decide) d_Mo_cellsBarred_42 ?_
  refine v_lcmp (pc := 43) hX d_Mo_cellsBarred_43 ?_
  refine v_if_ge (pc := 44) (tgt := 53) hX d_Mo_cellsBarred_44 rfl (fun h44 => ?_) (fun h44 => False.elim (h44 ((lg_cmp_ge _ _).mpr (Int64.le_iff_toInt_le.mpr (by rw [hn, show (0 : Int64).toInt = 0 from rfl]; simp only [lt32, q_0] at hn0; omega)))))
  refine v_iload_n (pc := 53) hX rfl d_Mo_cellsBarred_53 ?_
  refine v_lload (pc := 54) hX rfl d_Mo_cellsBarred_54 ?_
  refine v_aload_n (pc := 56) hX rfl d_Mo_cellsBarred_56 ?_
  refine g_getR (pc := 57) hX fl_Mo_79 rfl rfl nf_36_31 d_Mo_cellsBarred_57 ?_
  refine v_iload_n (pc := 60) hX rfl d_Mo_cellsBarred_60 ?_
  refine g_iald (pc := 61) hX rfl (IX.of (n := 4) (by omega) (by decide)) d_Mo_cellsBarred_61 ?_
  rw [z2, if_neg hz]
  refine f_callS (pc := 62) hX k_Mo_isBeyond ks_Mo_isBeyond ml_Mo_141 (C_Mo_isBeyond (n := n) (by omega) hn) rfl rfl rfl (Nat.le_of_ble_eq_true rfl) (Nat.le_of_ble_eq_true rfl) (Nat.le_of_ble_eq_true rfl) d_Mo_cellsBarred_62 ?_
  rw [hh]
  refine f_ifeqB (pc := 65) (tgt := 76) hX d_Mo_cellsBarred_65 rfl (fun h65 => False.elim (absurd h65 (by decide))) (fun h65 => ?_)
  refine v_aload_n (pc := 68) hX rfl d_Mo_cellsBarred_68 ?_
  refine v_iconst (pc := 69) (v := 3) hX (by decide) d_Mo_cellsBarred_69 ?_
  refine f_callV (pc := 70) hX k_Mo_failed ki_Mo_failed kv_Mo_failed ml_Mo_137 (C_Mo_failed) rfl rfl rfl rfl rfl (Nat.le_of_ble_eq_true rfl) (Nat.le_of_ble_eq_true rfl) (Nat.le_of_ble_eq_true rfl) d_Mo_cellsBarred_70 ?_
  refine v_goto (pc := 73) (tgt := 77) hX d_Mo_cellsBarred_73 rfl ?_
  exact f_iret (pc := 77) hX hR (rfl) (rfl) d_Mo_cellsBarred_77
theorem C_Mo_cb_0 {M : MM} {k : Nat} {zs : Nat → Nat} {ln : Nat → Int32} {C : JT} (hZ : MZ M zs ln C) (hk : k < 4) {u i n : Int32} {nl : Int64} (hn : nl.toInt = n.toInt) (hz : zs k ≠ 0) (hu : u = ln k) (hn0 : ¬ n < 0) (hh : hcB (i3 (zs k - 1)) i n = true) : AF y_Mo_cellsBarred c_Mo_cellsBarred 6 (some .int) 2 [vR 36, vI (i3 k), vI u, vI i, vL nl] (M) (some (vI 0)) (M) := by
  obtain ⟨z1, z2, z3⟩ := hZ k hk
  refine AF.of k_Mo_cellsBarred (lo := [some (vR 36), some (vI (i3 k)), some (vI u), some (vI i), some (vL nl), none]) rfl (Nat.le_of_ble_eq_true rfl) (fun X hX hR => ?_)
  refine v_aload_n (pc := 0) hX rfl d_Mo_cellsBarred_0 ?_
  refine g_getR (pc := 1) hX fl_Mo_79 rfl rfl nf_36_31 d_Mo_cellsBarred_1 ?_
  refine v_iload_n (pc := 4) hX rfl d_Mo_cellsBarred_4 ?_
  refine g_iald (pc := 5) hX rfl (IX.of (n := 4) (by omega) (by decide)) d_Mo_cellsBarred_5 ?_
  rw [z2, if_neg hz]
  refine v_if_lt (pc := 6) (tgt := 25) hX d_Mo_cellsBarred_6 rfl (fun h6 => False.elim (by have := (i3_lt (b := 0) (by omega) (by decide)).mp h6; omega)) (fun h6 => ?_)
  refine v_aload_n (pc := 9) hX rfl d_Mo_cellsBarred_9 ?_
  refine g_getR (pc := 10) hX fl_Mo_82 rfl rfl nf_36_32 d_Mo_cellsBarred_10 ?_
  refine v_iload_n (pc := 13) hX rfl d_Mo_cellsBarred_13 ?_
  refine g_iald (pc := 14) hX rfl (IX.of (n := 4) (by omega) (by decide)) d_Mo_cellsBarred_14 ?_
  rw [(z3 hz).1]
  refine v_iload_n (pc := 15) hX rfl d_Mo_cellsBarred_15 ?_
  refine v_icmp_eq (pc := 16) (tgt := 25) hX d_Mo_cellsBarred_16 rfl (fun h16 => ?_) (fun h16 => False.elim (h16 hu.symm))
  refine v_aload_n (pc := 25) hX rfl d_Mo_cellsBarred_25 ?_
  refine g_getR (pc := 26) hX fl_Mo_79 rfl rfl nf_36_31 d_Mo_cellsBarred_26 ?_
  refine v_iload_n (pc := 29) hX rfl d_Mo_cellsBarred_29 ?_
  refine g_iald (pc := 30) hX rfl (IX.of (n := 4) (by omega) (by decide)) d_Mo_cellsBarred_30 ?_
  rw [z2, if_neg hz]
  refine v_if_ge (pc := 31) (tgt := 40) hX d_Mo_cellsBarred_31 rfl (fun h31 => ?_) (fun h31 => False.elim (h31 ((i3_le (a := 0) (by decide) (by omega)).mpr (by omega))))
  refine v_lload (pc := 40) hX rfl d_Mo_cellsBarred_40 ?_
  refine v_lconst (pc := 42) (v := 0) hX (by decide) d_Mo_cellsBarred_42 ?_
  refine v_lcmp (pc := 43) hX d_Mo_cellsBarred_43 ?_
  refine v_if_ge (pc := 44) (tgt := 53) hX d_Mo_cellsBarred_44 rfl (fun h44 => ?_) (fun h44 => False.elim (h44 ((lg_cmp_ge _ _).mpr (Int64.le_iff_toInt_le.mpr (by rw [hn, show (0 : Int64).toInt = 0 from rfl]; simp only [lt32, q_0] at hn0; omega)))))
  refine v_iload_n (pc := 53) hX rfl d_Mo_cellsBarred_53 ?_
  refine v_lload (pc := 54) hX rfl d_Mo_cellsBarred_54 ?_
  refine v_aload_n (pc := 56) hX rfl d_Mo_cellsBarred_56 ?_
  refine g_getR (pc := 57) hX fl_Mo_79 rfl rfl nf_36_31 d_Mo_cellsBarred_57 ?_
  refine v_iload_n (pc := 60) hX rfl d_Mo_cellsBarred_60 ?_
  refine g_iald (pc := 61) hX rfl (IX.of (n := 4) (by omega) (by decide)) d_Mo_cellsBarred_61 ?_
  rw [z2, if_neg hz]
  refine f_callS (pc := 62) hX k_Mo_isBeyond ks_Mo_isBeyond ml_Mo_141 (C_Mo_isBeyond (n := n) (by omega) hn) rfl rfl rfl (Nat.le_of_ble_eq_true rfl) (Nat.le_of_ble_eq_true rfl) (Nat.le_of_ble_eq_true rfl) d_Mo_cellsBarred_62 ?_
  rw [hh]
  refine f_ifeqB (pc := 65) (tgt := 76) hX d_Mo_cellsBarred_65 rfl (fun h65 => ?_) (fun h65 => False.elim (absurd h65 (by decide)))
  refine v_iconst (pc := 76) (v := 0) hX (by decide) d_Mo_cellsBarred_76 ?_
  exact f_iret (pc := 77) hX hR (rfl) (rfl) d_Mo_cellsBarred_77
theorem C_Mo_cb_fail {M : MM} {k : Nat} {zs : Nat → Nat} {ln : Nat → Int32} {C : JT} (hZ : MZ M zs ln C) (hk : k < 4) {u i n : Int32} {nl : Int64} (hn : nl.toInt = n.toInt) (hf : ¬ flt (zs k) (ln k) u i n = 0) : AF y_Mo_cellsBarred c_Mo_cellsBarred 6 (some .int) 2 [vR 36, vI (i3 k), vI u, vI i, vL nl] M (some (vI (-10 - flt (zs k) (ln k) u i n))) (upM M 36 0 (flt (zs k) (ln k) u i n)) := by
  by_cases hz : zs k = 0
  · rw [flt_1 hz]; exact C_Mo_cb_1 hZ hk hn hz
  · by_cases hu : u = ln k
    · by_cases hn0 : n < 0
      · rw [flt_4 hz hu hn0]; exact C_Mo_cb_4 hZ hk hn hz hu hn0
      · by_cases hh : hcB (i3 (zs k - 1)) i n = true
        · exact absurd (flt_0 hz hu hn0 hh) hf
        · have hh := Bool.eq_false_iff.mpr hh
          rw [flt_3 hz hu hn0 hh]; exact C_Mo_cb_3 hZ hk hn hz hu hn0 hh
    · rw [flt_2 hz hu]; exact C_Mo_cb_2 hZ hk hn hz hu
theorem C_Mo_cb_ok {M : MM} {k a m : Nat} {zs : Nat → Nat} {ln : Nat → Int32} {C : JT} (hZ : MZ M zs ln C) (hk : k < 4) {nl : Int64} (hn : nl.toInt = (m : Int)) (hz : zs k ≠ 0) (ham : a + m ≤ zs k - 1) : AF y_Mo_cellsBarred c_Mo_cellsBarred 6 (some .int) 2 [vR 36, vI (i3 k), vI (ln k), vI (i3 a), vL nl] M (some (vI 0)) M :=
  C_Mo_cb_0 (n := i3 m) hZ hk (by rw [hn, i3_int (by have := (hZ k hk).1; omega)]) hz rfl (fun w => by have := (i3_lt (b := 0) (by have := (hZ k hk).1; omega) (by decide)).mp w; omega) (hcB_i3 (by have := (hZ k hk).1; omega) ham)
theorem d_Mo_noCell_0 : decode c_Mo_noCell 0 = .ok (.aload_n 0, 1) := by decide +kernel
theorem d_Mo_noCell_1 : decode c_Mo_noCell 1 = .ok (.getfield 79, 3) := by decide +kernel
theorem d_Mo_noCell_4 : decode c_Mo_noCell 4 = .ok (.iload_n 1, 1) := by decide +kernel
theorem d_Mo_noCell_5 : decode c_Mo_noCell 5 = .ok (.iaload, 1) := by decide +kernel
theorem d_Mo_noCell_6 : decode c_Mo_noCell 6 = .ok (.ifCond .ge 7, 3) := by decide +kernel
theorem d_Mo_noCell_9 : decode c_Mo_noCell 9 = .ok (.iconst 1, 1) := by decide +kernel
theorem d_Mo_noCell_10 : decode c_Mo_noCell 10 = .ok (.goto 26, 3) := by decide +kernel
theorem d_Mo_noCell_13 : decode c_Mo_noCell 13 = .ok (.iload_n 2, 1) := by decide +kernel
theorem d_Mo_noCell_14 : decode c_Mo_noCell 14 = .ok (.i2l, 1) := by decide +kernel
theorem d_Mo_noCell_15 : decode c_Mo_noCell 15 = .ok (.lconst 0, 1) := by decide +kernel
theorem d_Mo_noCell_16 : decode c_Mo_noCell 16 = .ok (.aload_n 0, 1) := by decide +kernel
theorem d_Mo_noCell_17 : decode c_Mo_noCell 17 = .ok (.getfield 79, 3) := by decide +kernel
theorem d_Mo_noCell_20 : decode c_Mo_noCell 20 = .ok (.iload_n 1, 1) := by decide +kernel
theorem d_Mo_noCell_21 : decode c_Mo_noCell 21 = .ok (.iaload, 1) := by decide +kernel
theorem d_Mo_noCell_22 : decode c_Mo_noCell 22 = .ok (.i2l, 1) := by decide +kernel
theorem d_Mo_noCell_23 : decode c_Mo_noCell 23 = .ok (.lconst 1, 1) := by decide +kernel
theorem d_Mo_noCell_24 : decode c_Mo_noCell 24 = .ok (.lsub, 1) := by decide +kernel
theorem d_Mo_noCell_25 : decode c_Mo_noCell 25 = .ok (.invokestatic 104, 3) := by decide +kernel
theorem d_Mo_noCell_28 : decode c_Mo_noCell 28 = .ok (.ifCond .eq 7, 3) := by decide +kernel
theorem d_Mo_noCell_31 : decode c_Mo_noCell 31 = .ok (.iconst 0, 1) := by decide +kernel
theorem d_Mo_noCell_32 : decode c_Mo_noCell 32 = .ok (.goto 4, 3) := by decide +kernel
theorem d_Mo_noCell_35 : decode c_Mo_noCell 35 = .ok (.iconst 3, 1) := by decide +kernel
theorem d_Mo_noCell_36 : decode c_Mo_noCell 36 = .ok (.ireturn, 1) := by decide +kernel
theorem C_Mo_noCell {M : MM} {k : Nat} {zs : Nat → Nat} {ln : Nat → Int32} {C : JT} (hZ : MZ M zs ln C) (hk : k < 4) {i : Int32} : AF y_Mo_noCell c_Mo_noCell 3 (some .int) 2 [vR 36, vI (i3 k), vI i] (M) (some (vI (flt (zs k) (ln k) (ln k) i 1))) (M) := by
  obtain ⟨z1, z2, z3⟩ := hZ k hk
  refine AF.of k_Mo_noCell (lo := [some (vR 36), some (vI (i3 k)), some (vI i)]) rfl (Nat.le_of_ble_eq_true rfl) (fun X hX hR => ?_)
  refine v_aload_n (pc := 0) hX rfl d_Mo_noCell_0 ?_
  refine g_getR (pc := 1) hX fl_Mo_79 rfl rfl nf_36_31 d_Mo_noCell_1 ?_
  refine v_iload_n (pc := 4) hX rfl d_Mo_noCell_4 ?_
  refine g_iald (pc := 5) hX rfl (IX.of (n := 4) (by omega) (by decide)) d_Mo_noCell_5 ?_
  rw [z2]
  refine v_if_ge (pc := 6) (tgt := 13) hX d_Mo_noCell_6 rfl (fun h6 => ?_) (fun h6 => ?_)
  · have hz : zs k ≠ 0 := fun w => by rw [if_pos w] at h6; exact absurd h6 (by decide)
    refine v_iload_n (pc := 13) hX rfl d_Mo_noCell_13 ?_
    refine v_i2l (pc := 14) hX d_Mo_noCell_14 ?_
    refine v_lconst (pc := 15) (v := 0) hX (by decide) d_Mo_noCell_15 ?_
    refine v_aload_n (pc := 16) hX rfl d_Mo_noCell_16 ?_
    refine g_getR (pc := 17) hX fl_Mo_79 rfl rfl nf_36_31 d_Mo_noCell_17 ?_
    refine v_iload_n (pc := 20) hX rfl d_Mo_noCell_20 ?_
    refine g_iald (pc := 21) hX rfl (IX.of (n := 4) (by omega) (by decide)) d_Mo_noCell_21 ?_
    rw [z2, if_neg hz]
    refine v_i2l (pc := 22) hX d_Mo_noCell_22 ?_
    refine v_lconst (pc := 23) (v := 1) hX (by decide) d_Mo_noCell_23 ?_
    refine v_lsub (pc := 24) hX d_Mo_noCell_24 ?_
    refine f_callS (pc := 25) hX k_Mo_in ks_Mo_in ml_Mo_104 (C_Mo_in) rfl rfl rfl (Nat.le_of_ble_eq_true rfl) (Nat.le_of_ble_eq_true rfl) (Nat.le_of_ble_eq_true rfl) d_Mo_noCell_25 ?_
    rw [rL_rg (L := 0) (H := ((zs k - 1 : Nat) : Int) - 1) rfl (m1_int (by omega)), ← hcB_1 (by omega)]
    refine f_ifeqB (pc := 28) (tgt := 35) hX d_Mo_noCell_28 rfl (fun h28 => ?_) (fun h28 => ?_)
    · refine v_iconst (pc := 35) (v := 3) hX (by decide) d_Mo_noCell_35 ?_
      exact f_iret (pc := 36) hX hR (by first | (rw [flt_1 hz]) | (rw [flt_0 hz rfl (by decide) h28]) | (rw [flt_3 hz rfl (by decide) h28])) (rfl) d_Mo_noCell_36
    · refine v_iconst (pc := 31) (v := 0) hX (by decide) d_Mo_noCell_31 ?_
      refine v_goto (pc := 32) (tgt := 36) hX d_Mo_noCell_32 rfl ?_
      exact f_iret (pc := 36) hX hR (by first | (rw [flt_1 hz]) | (rw [flt_0 hz rfl (by decide) h28]) | (rw [flt_3 hz rfl (by decide) h28])) (rfl) d_Mo_noCell_36
  · have hz : zs k = 0 := by
      by_cases w : zs k = 0
      · exact w
      · rw [if_neg w] at h6; exact absurd ((i3_le (a := 0) (by decide) (by omega)).mpr (Nat.zero_le _)) h6
    refine v_iconst (pc := 9) (v := 1) hX (by decide) d_Mo_noCell_9 ?_
    refine v_goto (pc := 10) (tgt := 36) hX d_Mo_noCell_10 rfl ?_
    exact f_iret (pc := 36) hX hR (by first | (rw [flt_1 hz]) | (rw [flt_0 hz rfl (by decide) h28]) | (rw [flt_3 hz rfl (by decide) h28])) (rfl) d_Mo_noCell_36
def rwF (M : MM) (r lo : Nat) (f : Nat → Int32) (k : Nat) : MM := fun q i => if q = r ∧ lo ≤ i ∧ i < lo + k then f (i - lo) else M q i
theorem rwF_0 (M : MM) (r lo : Nat) (f : Nat → Int32) : rwF M r lo f 0 = M := by
  funext q i
  unfold rwF
  rw [if_neg (by omega)]
theorem rwF_s (M : MM) (r lo : Nat) (f : Nat → Int32) (k : Nat) : rwF M r lo f (k + 1) = upM (rwF M r lo f k) r (lo + k) (f k) := by
  funext q i
  simp only [rwF, upM]
  by_cases h : q = r ∧ i = lo + k
  · rw [if_pos (by omega), if_pos h, h.2, show lo + k - lo = k by omega]
  · rw [if_neg h]
    by_cases h2 : q = r ∧ lo ≤ i ∧ i < lo + k
    · rw [if_pos h2, if_pos (by omega)]
    · rw [if_neg h2, if_neg (by omega)]
theorem rwF_ne {M : MM} {r lo k q i : Nat} {f : Nat → Int32} (h : q ≠ r) : rwF M r lo f k q i = M q i := if_neg (fun w => h w.1)
theorem i3_60 (k a : Nat) : 60 * i3 k + i3 a = i3 (60 * k + a) := by rw [i3_add, i3_mul]; rfl
theorem d_Mo_sheet_0 : decode c_Mo_sheet 0 = .ok (.iload_n 1, 1) := by decide +kernel
theorem d_Mo_sheet_1 : decode c_Mo_sheet 1 = .ok (.invokestatic 145, 3) := by decide +kernel
theorem d_Mo_sheet_4 : decode c_Mo_sheet 4 = .ok (.ifCond .eq 9, 3) := by decide +kernel
theorem d_Mo_sheet_7 : decode c_Mo_sheet 7 = .ok (.aload_n 0, 1) := by decide +kernel
theorem d_Mo_sheet_8 : decode c_Mo_sheet 8 = .ok (.iconst (-1), 1) := by decide +kernel
theorem d_Mo_sheet_9 : decode c_Mo_sheet 9 = .ok (.invokevirtual 149, 3) := by decide +kernel
theorem d_Mo_sheet_12 : decode c_Mo_sheet 12 = .ok (.ireturn, 1) := by decide +kernel
theorem d_Mo_sheet_13 : decode c_Mo_sheet 13 = .ok (.iload_n 2, 1) := by decide +kernel
theorem d_Mo_sheet_14 : decode c_Mo_sheet 14 = .ok (.i2l, 1) := by decide +kernel
theorem d_Mo_sheet_15 : decode c_Mo_sheet 15 = .ok (.lconst 0, 1) := by decide +kernel
theorem d_Mo_sheet_16 : decode c_Mo_sheet 16 = .ok (.ldc2_w 152, 3) := by decide +kernel
theorem d_Mo_sheet_19 : decode c_Mo_sheet 19 = .ok (.invokestatic 104, 3) := by decide +kernel
theorem d_Mo_sheet_22 : decode c_Mo_sheet 22 = .ok (.ifCond .eq 9, 3) := by decide +kernel
theorem d_Mo_sheet_25 : decode c_Mo_sheet 25 = .ok (.iload_n 3, 1) := by decide +kernel
theorem d_Mo_sheet_26 : decode c_Mo_sheet 26 = .ok (.bipush 60, 2) := by decide +kernel
theorem d_Mo_sheet_28 : decode c_Mo_sheet 28 = .ok (.if_icmp .le 10, 3) := by decide +kernel
theorem d_Mo_sheet_31 : decode c_Mo_sheet 31 = .ok (.aload_n 0, 1) := by decide +kernel
theorem d_Mo_sheet_32 : decode c_Mo_sheet 32 = .ok (.bipush (-2), 2) := by decide +kernel
theorem d_Mo_sheet_34 : decode c_Mo_sheet 34 = .ok (.invokevirtual 149, 3) := by decide +kernel
theorem d_Mo_sheet_37 : decode c_Mo_sheet 37 = .ok (.ireturn, 1) := by decide +kernel
theorem d_Mo_sheet_38 : decode c_Mo_sheet 38 = .ok (.iload_n 3, 1) := by decide +kernel
theorem d_Mo_sheet_39 : decode c_Mo_sheet 39 = .ok (.ifCond .ge 9, 3) := by decide +kernel
theorem d_Mo_sheet_42 : decode c_Mo_sheet 42 = .ok (.aload_n 0, 1) := by decide +kernel
theorem d_Mo_sheet_43 : decode c_Mo_sheet 43 = .ok (.iconst 4, 1) := by decide +kernel
theorem d_Mo_sheet_44 : decode c_Mo_sheet 44 = .ok (.invokevirtual 137, 3) := by decide +kernel
theorem d_Mo_sheet_47 : decode c_Mo_sheet 47 = .ok (.ireturn, 1) := by decide +kernel
theorem d_Mo_sheet_48 : decode c_Mo_sheet 48 = .ok (.aload_n 0, 1) := by decide +kernel
theorem d_Mo_sheet_49 : decode c_Mo_sheet 49 = .ok (.getfield 79, 3) := by decide +kernel
theorem d_Mo_sheet_52 : decode c_Mo_sheet 52 = .ok (.iload_n 1, 1) := by decide +kernel
theorem d_Mo_sheet_53 : decode c_Mo_sheet 53 = .ok (.iload_n 3, 1) := by decide +kernel
theorem d_Mo_sheet_54 : decode c_Mo_sheet 54 = .ok (.iastore, 1) := by decide +kernel
theorem d_Mo_sheet_55 : decode c_Mo_sheet 55 = .ok (.aload_n 0, 1) := by decide +kernel
theorem d_Mo_sheet_56 : decode c_Mo_sheet 56 = .ok (.getfield 82, 3) := by decide +kernel
theorem d_Mo_sheet_59 : decode c_Mo_sheet 59 = .ok (.iload_n 1, 1) := by decide +kernel
theorem d_Mo_sheet_60 : decode c_Mo_sheet 60 = .ok (.iload_n 2, 1) := by decide +kernel
theorem d_Mo_sheet_61 : decode c_Mo_sheet 61 = .ok (.iastore, 1) := by decide +kernel
theorem d_Mo_sheet_62 : decode c_Mo_sheet 62 = .ok (.iconst 0, 1) := by decide +kernel
theorem d_Mo_sheet_63 : decode c_Mo_sheet 63 = .ok (.istore 4, 2) := by decide +kernel
theorem d_Mo_sheet_65 : decode c_Mo_sheet 65 = .ok (.iload 4, 2) := by decide +kernel
theorem d_Mo_sheet_67 : decode c_Mo_sheet 67 = .ok (.iload_n 3, 1) := by decide +kernel
theorem d_Mo_sheet_68 : decode c_Mo_sheet 68 = .ok (.if_icmp .ge 22, 3) := by decide +kernel
theorem d_Mo_sheet_71 : decode c_Mo_sheet 71 = .ok (.aload_n 0, 1) := by decide +kernel
theorem d_Mo_sheet_72 : decode c_Mo_sheet 72 = .ok (.getfield 85, 3) := by decide +kernel
theorem d_Mo_sheet_75 : decode c_Mo_sheet 75 = .ok (.bipush 60, 2) := by decide +kernel
theorem d_Mo_sheet_77 : decode c_Mo_sheet 77 = .ok (.iload_n 1, 1) := by decide +kernel
theorem d_Mo_sheet_78 : decode c_Mo_sheet 78 = .ok (.imul, 1) := by decide +kernel
theorem d_Mo_sheet_79 : decode c_Mo_sheet 79 = .ok (.iload 4, 2) := by decide +kernel
theorem d_Mo_sheet_81 : decode c_Mo_sheet 81 = .ok (.iadd, 1) := by decide +kernel
theorem d_Mo_sheet_82 : decode c_Mo_sheet 82 = .ok (.iconst 0, 1) := by decide +kernel
theorem d_Mo_sheet_83 : decode c_Mo_sheet 83 = .ok (.iastore, 1) := by decide +kernel
theorem d_Mo_sheet_84 : decode c_Mo_sheet 84 = .ok (.iinc 4 1, 3) := by decide +kernel
theorem d_Mo_sheet_87 : decode c_Mo_sheet 87 = .ok (.goto (-22), 3) := by decide +kernel
theorem d_Mo_sheet_90 : decode c_Mo_sheet 90 = .ok (.aload_n 0, 1) := by decide +kernel
theorem d_Mo_sheet_91 : decode c_Mo_sheet 91 = .ok (.iconst 1, 1) := by decide +kernel
theorem d_Mo_sheet_92 : decode c_Mo_sheet 92 = .ok (.invokevirtual 149, 3) := by decide +kernel
theorem d_Mo_sheet_95 : decode c_Mo_sheet 95 = .ok (.ireturn, 1) := by decide +kernel
theorem C_Mo_sheet_out {M : MM} {x : Int32} (hx : rg x 0 3 = false) {u v : Int32} : AF y_Mo_sheet c_Mo_sheet 5 (some .int) 3 [vR 36, vI x, vI u, vI v] (M) (some (vI (-1))) (upM M 36 0 0) := by
  refine AF.of k_Mo_sheet (lo := [some (vR 36), some (vI x), some (vI u), some (vI v), none]) rfl (Nat.le_of_ble_eq_true rfl) (fun X hX hR => ?_)
  refine v_iload_n (pc := 0) hX rfl d_Mo_sheet_0 ?_
  refine f_callS (pc := 1) hX k_Mo_noSheet ks_Mo_noSheet ml_Mo_145 (C_Mo_noSheet) rfl rfl rfl (Nat.le_of_ble_eq_true rfl) (Nat.le_of_ble_eq_true rfl) (Nat.le_of_ble_eq_true rfl) d_Mo_sheet_1 ?_
  rw [hx]
  refine f_ifeqB (pc := 4) (tgt := 13) hX d_Mo_sheet_4 rfl (fun h4 => False.elim (absurd h4 (by decide))) (fun h4 => ?_)
  refine v_aload_n (pc := 7) hX rfl d_Mo_sheet_7 ?_
  refine v_iconst (pc := 8) (v := (-1)) hX (by decide) d_Mo_sheet_8 ?_
  refine f_callV (pc := 9) hX k_Mo_refused ki_Mo_refused kv_Mo_refused ml_Mo_149 (C_Mo_refused) rfl rfl rfl rfl rfl (Nat.le_of_ble_eq_true rfl) (Nat.le_of_ble_eq_true rfl) (Nat.le_of_ble_eq_true rfl) d_Mo_sheet_9 ?_
  exact f_iret (pc := 12) hX hR (rfl) (rfl) d_Mo_sheet_12
theorem C_Mo_sheet_bad {M : MM} {k : Nat} {u v : Int32} (hk : k < 4) (hb : (rg u 0 2 && decide (v ≤ 60)) = false) : AF y_Mo_sheet c_Mo_sheet 5 (some .int) 3 [vR 36, vI (i3 k), vI u, vI v] (M) (some (vI (-2))) (upM M 36 0 0) := by
  refine AF.of k_Mo_sheet (lo := [some (vR 36), some (vI (i3 k)), some (vI u), some (vI v), none]) rfl (Nat.le_of_ble_eq_true rfl) (fun X hX hR => ?_)
  refine v_iload_n (pc := 0) hX rfl d_Mo_sheet_0 ?_
  refine f_callS (pc := 1) hX k_Mo_noSheet ks_Mo_noSheet ml_Mo_145 (C_Mo_noSheet) rfl rfl rfl (Nat.le_of_ble_eq_true rfl) (Nat.le_of_ble_eq_true rfl) (Nat.le_of_ble_eq_true rfl) d_Mo_sheet_1 ?_
  rw [show rg (i3 k) 0 3 = true from rg_i3 (n := 4) hk (by decide)]
  refine f_ifeqB (pc := 4) (tgt := 13) hX d_Mo_sheet_4 rfl (fun h4 => ?_) (fun h4 => False.elim (absurd h4 (by decide)))
  refine v_iload_n (pc := 13) hX rfl d_Mo_sheet_13 ?_
  refine v_i2l (pc := 14) hX d_Mo_sheet_14 ?_
  refine v_lconst (pc := 15) (v := 0) hX (by decide) d_Mo_sheet_15 ?_
  refine v_ldc2_w (pc := 16) hX kl_Mo_152 d_Mo_sheet_16 ?_
  refine f_callS (pc := 19) hX k_Mo_in ks_Mo_in ml_Mo_104 (C_Mo_in) rfl rfl rfl (Nat.le_of_ble_eq_true rfl) (Nat.le_of_ble_eq_true rfl) (Nat.le_of_ble_eq_true rfl) d_Mo_sheet_19 ?_
  rw [rL_rg (L := 0) (H := 2) rfl rfl]
  refine f_ifeqB (pc := 22) (tgt := 31) hX d_Mo_sheet_22 rfl (fun h22 => ?_) (fun h22 => ?_)
  · refine v_aload_n (pc := 31) hX rfl d_Mo_sheet_31 ?_
    refine v_bipush (pc := 32) (v := (-2)) hX (by decide) d_Mo_sheet_32 ?_
    refine f_callV (pc := 34) hX k_Mo_refused ki_Mo_refused kv_Mo_refused ml_Mo_149 (C_Mo_refused) rfl rfl rfl rfl rfl (Nat.le_of_ble_eq_true rfl) (Nat.le_of_ble_eq_true rfl) (Nat.le_of_ble_eq_true rfl) d_Mo_sheet_34 ?_
    exact f_iret (pc := 37) hX hR (rfl) (rfl) d_Mo_sheet_37
  · refine v_iload_n (pc := 25) hX rfl d_Mo_sheet_25 ?_
    refine v_bipush (pc := 26) (v := 60) hX (by decide) d_Mo_sheet_26 ?_
    refine v_icmp_le (pc := 28) (tgt := 38) hX d_Mo_sheet_28 rfl (fun h28 => False.elim (by rw [h22, decide_eq_true h28] at hb; cases hb)) (fun h28 => ?_)
    refine v_aload_n (pc := 31) hX rfl d_Mo_sheet_31 ?_
    refine v_bipush (pc := 32) (v := (-2)) hX (by decide) d_Mo_sheet_32 ?_
    refine f_callV (pc := 34) hX k_Mo_refused ki_Mo_refused kv_Mo_refused ml_Mo_149 (C_Mo_refused) rfl rfl rfl rfl rfl (Nat.le_of_ble_eq_true rfl) (Nat.le_of_ble_eq_true rfl) (Nat.le_of_ble_eq_true rfl) d_Mo_sheet_34 ?_
    exact f_iret (pc := 37) hX hR (rfl) (rfl) d_Mo_sheet_37
theorem C_Mo_sheet_neg {M : MM} {k : Nat} {u v : Int32} (hk : k < 4) (hu : rg u 0 2 = true) (hv : v < 0) : AF y_Mo_sheet c_Mo_sheet 5 (some .int) 3 [vR 36, vI (i3 k), vI u, vI v] (M) (some (vI (-14))) (upM M 36 0 4) := by
  refine AF.of k_Mo_sheet (lo := [some (vR 36), some (vI (i3 k)), some (vI u), some (vI v), none]) rfl (Nat.le_of_ble_eq_true rfl) (fun X hX hR => ?_)
  refine v_iload_n (pc := 0) hX rfl d_Mo_sheet_0 ?_
  refine f_callS (pc := 1) hX k_Mo_noSheet ks_Mo_noSheet ml_Mo_145 (C_Mo_noSheet) rfl rfl rfl (Nat.le_of_ble_eq_true rfl) (Nat.le_of_ble_eq_true rfl) (Nat.le_of_ble_eq_true rfl) d_Mo_sheet_1 ?_
  rw [show rg (i3 k) 0 3 = true from rg_i3 (n := 4) hk (by decide)]
  refine f_ifeqB (pc := 4) (tgt := 13) hX d_Mo_sheet_4 rfl (fun h4 => ?_) (fun h4 => False.elim (absurd h4 (by decide)))
  refine v_iload_n (pc := 13) hX rfl d_Mo_sheet_13 ?_
  refine v_i2l (pc := 14) hX d_Mo_sheet_14 ?_
  refine v_lconst (pc := 15) (v := 0) hX (by decide) d_Mo_sheet_15 ?_
  refine v_ldc2_w (pc := 16) hX kl_Mo_152 d_Mo_sheet_16 ?_
  refine f_callS (pc := 19) hX k_Mo_in ks_Mo_in ml_Mo_104 (C_Mo_in) rfl rfl rfl (Nat.le_of_ble_eq_true rfl) (Nat.le_of_ble_eq_true rfl) (Nat.le_of_ble_eq_true rfl) d_Mo_sheet_19 ?_
  rw [rL_rg (L := 0) (H := 2) rfl rfl]
  refine f_ifeqB (pc := 22) (tgt := 31) hX d_Mo_sheet_22 rfl (fun h22 => False.elim (by rw [hu] at h22; cases h22)) (fun h22 => ?_)
  refine v_iload_n (pc := 25) hX rfl d_Mo_sheet_25 ?_
  refine v_bipush (pc := 26) (v := 60) hX (by decide) d_Mo_sheet_26 ?_
  refine v_icmp_le (pc := 28) (tgt := 38) hX d_Mo_sheet_28 rfl (fun h28 => ?_) (fun h28 => False.elim (h28 (by simp only [lt32, le32, q_0, q_60] at *; omega)))
  refine v_iload_n (pc := 38) hX rfl d_Mo_sheet_38 ?_
  refine v_if_ge (pc := 39) (tgt := 48) hX d_Mo_sheet_39 rfl (fun h39 => False.elim (by simp only [lt32, le32, q_0] at *; omega)) (fun h39 => ?_)
  refine v_aload_n (pc := 42) hX rfl d_Mo_sheet_42 ?_
  refine v_iconst (pc := 43) (v := 4) hX (by decide) d_Mo_sheet_43 ?_
  refine f_callV (pc := 44) hX k_Mo_failed ki_Mo_failed kv_Mo_failed ml_Mo_137 (C_Mo_failed) rfl rfl rfl rfl rfl (Nat.le_of_ble_eq_true rfl) (Nat.le_of_ble_eq_true rfl) (Nat.le_of_ble_eq_true rfl) d_Mo_sheet_44 ?_
  exact f_iret (pc := 47) hX hR (rfl) (rfl) d_Mo_sheet_47
theorem C_Mo_sheet_ok {M : MM} {k m : Nat} {u : Int32} (hk : k < 4) (hu : rg u 0 2 = true) (hm : m ≤ 60) : AF y_Mo_sheet c_Mo_sheet 5 (some .int) 3 [vR 36, vI (i3 k), vI u, vI (i3 m)] (M) (some (vI 1)) (upM (rwF (upM (upM M 60 k (i3 m)) 61 k u) 62 (60 * k) (fun _ => 0) m) 36 0 0) := by
  have hmi := i3_int (k := m) (by omega)
  refine AF.of k_Mo_sheet (lo := [some (vR 36), some (vI (i3 k)), some (vI u), some (vI (i3 m)), none]) rfl (Nat.le_of_ble_eq_true rfl) (fun X hX hR => ?_)
  refine v_iload_n (pc := 0) hX rfl d_Mo_sheet_0 ?_
  refine f_callS (pc := 1) hX k_Mo_noSheet ks_Mo_noSheet ml_Mo_145 (C_Mo_noSheet) rfl rfl rfl (Nat.le_of_ble_eq_true rfl) (Nat.le_of_ble_eq_true rfl) (Nat.le_of_ble_eq_true rfl) d_Mo_sheet_1 ?_
  rw [show rg (i3 k) 0 3 = true from rg_i3 (n := 4) hk (by decide)]
  refine f_ifeqB (pc := 4) (tgt := 13) hX d_Mo_sheet_4 rfl (fun h4 => ?_) (fun h4 => False.elim (absurd h4 (by decide)))
  refine v_iload_n (pc := 13) hX rfl d_Mo_sheet_13 ?_
  refine v_i2l (pc := 14) hX d_Mo_sheet_14 ?_
  refine v_lconst (pc := 15) (v := 0) hX (by decide) d_Mo_sheet_15 ?_
  refine v_ldc2_w (pc := 16) hX kl_Mo_152 d_Mo_sheet_16 ?_
  refine f_callS (pc := 19) hX k_Mo_in ks_Mo_in ml_Mo_104 (C_Mo_in) rfl rfl rfl (Nat.le_of_ble_eq_true rfl) (Nat.le_of_ble_eq_true rfl) (Nat.le_of_ble_eq_true rfl) d_Mo_sheet_19 ?_
  rw [rL_rg (L := 0) (H := 2) rfl rfl]
  refine f_ifeqB (pc := 22) (tgt := 31) hX d_Mo_sheet_22 rfl (fun h22 => False.elim (by rw [hu] at h22; cases h22)) (fun h22 => ?_)
  refine v_iload_n (pc := 25) hX rfl d_Mo_sheet_25 ?_
  refine v_bipush (pc := 26) (v := 60) hX (by decide) d_Mo_sheet_26 ?_
  refine v_icmp_le (pc := 28) (tgt := 38) hX d_Mo_sheet_28 rfl (fun h28 => ?_) (fun h28 => False.elim (h28 (by simp only [le32, q_60, hmi]; omega)))
  refine v_iload_n (pc := 38) hX rfl d_Mo_sheet_38 ?_
  refine v_if_ge (pc := 39) (tgt := 48) hX d_Mo_sheet_39 rfl (fun h39 => ?_) (fun h39 => False.elim (h39 (by simp only [le32, q_0, hmi]; omega)))
  refine v_aload_n (pc := 48) hX rfl d_Mo_sheet_48 ?_
  refine g_getR (pc := 49) hX fl_Mo_79 rfl rfl nf_36_31 d_Mo_sheet_49 ?_
  refine v_iload_n (pc := 52) hX rfl d_Mo_sheet_52 ?_
  refine v_iload_n (pc := 53) hX rfl d_Mo_sheet_53 ?_
  refine g_iast (pc := 54) hX rfl (IX.of (n := 4) (by omega) (by decide)) d_Mo_sheet_54 ?_
  refine v_aload_n (pc := 55) hX rfl d_Mo_sheet_55 ?_
  refine g_getR (pc := 56) hX fl_Mo_82 rfl rfl nf_36_32 d_Mo_sheet_56 ?_
  refine v_iload_n (pc := 59) hX rfl d_Mo_sheet_59 ?_
  refine v_iload_n (pc := 60) hX rfl d_Mo_sheet_60 ?_
  refine g_iast (pc := 61) hX rfl (IX.of (n := 4) (by omega) (by decide)) d_Mo_sheet_61 ?_
  refine v_iconst (pc := 62) (v := 0) hX (by decide) d_Mo_sheet_62 ?_
  refine v_istore (pc := 63) (lo' := [some (vR _), some (vI _), some (vI _), some (vI _), some (vI _)]) hX (Nat.le_of_ble_eq_true rfl) rfl d_Mo_sheet_63 ?_
  refine VW.cast (lo' := [some (vR 36), some (vI (i3 k)), some (vI u), some (vI (i3 m)), some (vI (i3 0))]) (st' := []) (G' := gM (rwF (upM (upM M 60 k (i3 m)) 61 k u) 62 (60 * k) (fun _ => 0) 0)) rfl rfl (by rw [rwF_0]) ?_
  refine v_for (X := X) (head := 65) (m) (fun kk => [some (vR 36), some (vI (i3 k)), some (vI u), some (vI (i3 m)), some (vI (i3 kk))]) (fun kk => rwF (upM (upM M 60 k (i3 m)) 61 k u) 62 (60 * k) (fun _ => 0) kk) (fun y hy ih65 => ?_) ?_
  · show VW X 65 [some (vR 36), some (vI (i3 k)), some (vI u), some (vI (i3 m)), some (vI (i3 y))] [] (gM (rwF (upM (upM M 60 k (i3 m)) 61 k u) 62 (60 * k) (fun _ => 0) y))
    refine v_iload (pc := 65) hX rfl d_Mo_sheet_65 ?_
    refine v_iload_n (pc := 67) hX rfl d_Mo_sheet_67 ?_
    refine v_icmp_ge (pc := 68) (tgt := 90) hX d_Mo_sheet_68 rfl (fun h68 => False.elim (i3_ge_abs hy (by omega) h68)) (fun h68 => ?_)
    refine v_aload_n (pc := 71) hX rfl d_Mo_sheet_71 ?_
    refine g_getR (pc := 72) hX fl_Mo_85 rfl rfl nf_36_33 d_Mo_sheet_72 ?_
    refine v_bipush (pc := 75) (v := 60) hX (by decide) d_Mo_sheet_75 ?_
    refine v_iload_n (pc := 77) hX rfl d_Mo_sheet_77 ?_
    refine v_imul (pc := 78) hX d_Mo_sheet_78 ?_
    refine v_iload (pc := 79) hX rfl d_Mo_sheet_79 ?_
    refine v_iadd (pc := 81) hX d_Mo_sheet_81 ?_
    rw [i3_60]
    refine v_iconst (pc := 82) (v := 0) hX (by decide) d_Mo_sheet_82 ?_
    refine g_iast (pc := 83) hX rfl (IX.of (n := 240) (by omega) (by decide)) d_Mo_sheet_83 ?_
    refine v_iinc (pc := 84) (lo' := [some (vR _), some (vI _), some (vI _), some (vI _), some (vI _)]) hX rfl rfl d_Mo_sheet_84 ?_
    refine v_goto (pc := 87) (tgt := 65) hX d_Mo_sheet_87 rfl ?_
    exact VW.cast (by rw [i3_succ]; rfl) rfl (by rw [rwF_s]) ih65
  · show VW X 65 [some (vR 36), some (vI (i3 k)), some (vI u), some (vI (i3 m)), some (vI (i3 (m)))] [] (gM (rwF (upM (upM M 60 k (i3 m)) 61 k u) 62 (60 * k) (fun _ => 0) (m)))
    refine v_iload (pc := 65) hX rfl d_Mo_sheet_65 ?_
    refine v_iload_n (pc := 67) hX rfl d_Mo_sheet_67 ?_
    refine v_icmp_ge (pc := 68) (tgt := 90) hX d_Mo_sheet_68 rfl (fun h68 => ?_) (fun h68 => False.elim (absurd (Int32.le_refl _) h68))
    refine v_aload_n (pc := 90) hX rfl d_Mo_sheet_90 ?_
    refine v_iconst (pc := 91) (v := 1) hX (by decide) d_Mo_sheet_91 ?_
    refine f_callV (pc := 92) hX k_Mo_refused ki_Mo_refused kv_Mo_refused ml_Mo_149 (C_Mo_refused) rfl rfl rfl rfl rfl (Nat.le_of_ble_eq_true rfl) (Nat.le_of_ble_eq_true rfl) (Nat.le_of_ble_eq_true rfl) d_Mo_sheet_92 ?_
    exact f_iret (pc := 95) hX hR (rfl) (rfl) d_Mo_sheet_95
theorem d_Mo_lose_0 : decode c_Mo_lose 0 = .ok (.iload_n 1, 1) := by decide +kernel
theorem d_Mo_lose_1 : decode c_Mo_lose 1 = .ok (.invokestatic 145, 3) := by decide +kernel
theorem d_Mo_lose_4 : decode c_Mo_lose 4 = .ok (.ifCond .eq 5, 3) := by decide +kernel
theorem d_Mo_lose_7 : decode c_Mo_lose 7 = .ok (.iconst (-1), 1) := by decide +kernel
theorem d_Mo_lose_8 : decode c_Mo_lose 8 = .ok (.ireturn, 1) := by decide +kernel
theorem d_Mo_lose_9 : decode c_Mo_lose 9 = .ok (.aload_n 0, 1) := by decide +kernel
theorem d_Mo_lose_10 : decode c_Mo_lose 10 = .ok (.getfield 79, 3) := by decide +kernel
theorem d_Mo_lose_13 : decode c_Mo_lose 13 = .ok (.iload_n 1, 1) := by decide +kernel
theorem d_Mo_lose_14 : decode c_Mo_lose 14 = .ok (.iaload, 1) := by decide +kernel
theorem d_Mo_lose_15 : decode c_Mo_lose 15 = .ok (.ifCond .ge 7, 3) := by decide +kernel
theorem d_Mo_lose_18 : decode c_Mo_lose 18 = .ok (.iconst 0, 1) := by decide +kernel
theorem d_Mo_lose_19 : decode c_Mo_lose 19 = .ok (.goto 4, 3) := by decide +kernel
theorem d_Mo_lose_22 : decode c_Mo_lose 22 = .ok (.iconst 1, 1) := by decide +kernel
theorem d_Mo_lose_23 : decode c_Mo_lose 23 = .ok (.istore_n 2, 1) := by decide +kernel
theorem d_Mo_lose_24 : decode c_Mo_lose 24 = .ok (.aload_n 0, 1) := by decide +kernel
theorem d_Mo_lose_25 : decode c_Mo_lose 25 = .ok (.getfield 79, 3) := by decide +kernel
theorem d_Mo_lose_28 : decode c_Mo_lose 28 = .ok (.iload_n 1, 1) := by decide +kernel
theorem d_Mo_lose_29 : decode c_Mo_lose 29 = .ok (.iconst (-1), 1) := by decide +kernel
theorem d_Mo_lose_30 : decode c_Mo_lose 30 = .ok (.iastore, 1) := by decide +kernel
theorem d_Mo_lose_31 : decode c_Mo_lose 31 = .ok (.iload_n 2, 1) := by decide +kernel
theorem d_Mo_lose_32 : decode c_Mo_lose 32 = .ok (.ireturn, 1) := by decide +kernel
theorem C_Mo_lose_out {M : MM} {x : Int32} (hx : rg x 0 3 = false) : AF y_Mo_lose c_Mo_lose 3 (some .int) 3 [vR 36, vI x] (M) (some (vI (-1))) (M) := by
  refine AF.of k_Mo_lose (lo := [some (vR 36), some (vI x), none]) rfl (Nat.le_of_ble_eq_true rfl) (fun X hX hR => ?_)
  refine v_iload_n (pc := 0) hX rfl d_Mo_lose_0 ?_
  refine f_callS (pc := 1) hX k_Mo_noSheet ks_Mo_noSheet ml_Mo_145 (C_Mo_noSheet) rfl rfl rfl (Nat.le_of_ble_eq_true rfl) (Nat.le_of_ble_eq_true rfl) (Nat.le_of_ble_eq_true rfl) d_Mo_lose_1 ?_
  rw [hx]
  refine f_ifeqB (pc := 4) (tgt := 9) hX d_Mo_lose_4 rfl (fun h4 => False.elim (absurd h4 (by decide))) (fun h4 => ?_)
  refine v_iconst (pc := 7) (v := (-1)) hX (by decide) d_Mo_lose_7 ?_
  exact f_iret (pc := 8) hX hR (rfl) (rfl) d_Mo_lose_8
theorem C_Mo_lose_in {M : MM} {k : Nat} {zs : Nat → Nat} {ln : Nat → Int32} {C : JT} (hZ : MZ M zs ln C) (hk : k < 4) : AF y_Mo_lose c_Mo_lose 3 (some .int) 3 [vR 36, vI (i3 k)] (M) (some (vI (if zs k = 0 then 0 else 1))) (upM M 60 k (-1)) := by
  obtain ⟨z1, z2, z3⟩ := hZ k hk
  refine AF.of k_Mo_lose (lo := [some (vR 36), some (vI (i3 k)), none]) rfl (Nat.le_of_ble_eq_true rfl) (fun X hX hR => ?_)
  refine v_iload_n (pc := 0) hX rfl d_Mo_lose_0 ?_
  refine f_callS (pc := 1) hX k_Mo_noSheet ks_Mo_noSheet ml_Mo_145 (C_Mo_noSheet) rfl rfl rfl (Nat.le_of_ble_eq_true rfl) (Nat.le_of_ble_eq_true rfl) (Nat.le_of_ble_eq_true rfl) d_Mo_lose_1 ?_
  rw [show rg (i3 k) 0 3 = true from rg_i3 (n := 4) hk (by decide)]
  refine f_ifeqB (pc := 4) (tgt := 9) hX d_Mo_lose_4 rfl (fun h4 => ?_) (fun h4 => False.elim (absurd h4 (by decide)))
  refine v_aload_n (pc := 9) hX rfl d_Mo_lose_9 ?_
  refine g_getR (pc := 10) hX fl_Mo_79 rfl rfl nf_36_31 d_Mo_lose_10 ?_
  refine v_iload_n (pc := 13) hX rfl d_Mo_lose_13 ?_
  refine g_iald (pc := 14) hX rfl (IX.of (n := 4) (by omega) (by decide)) d_Mo_lose_14 ?_
  rw [z2]
  refine v_if_ge (pc := 15) (tgt := 22) hX d_Mo_lose_15 rfl (fun h15 => ?_) (fun h15 => ?_)
  · have hz : ¬ zs k = 0 := fun w => by rw [if_pos w] at h15; exact absurd h15 (by decide)
    refine v_iconst (pc := 22) (v := 1) hX (by decide) d_Mo_lose_22 ?_
    refine v_istore_n (pc := 23) (lo' := [some (vR _), some (vI _), some (vI _)]) hX (Nat.le_of_ble_eq_true rfl) rfl d_Mo_lose_23 ?_
    refine v_aload_n (pc := 24) hX rfl d_Mo_lose_24 ?_
    refine g_getR (pc := 25) hX fl_Mo_79 rfl rfl nf_36_31 d_Mo_lose_25 ?_
    refine v_iload_n (pc := 28) hX rfl d_Mo_lose_28 ?_
    refine v_iconst (pc := 29) (v := (-1)) hX (by decide) d_Mo_lose_29 ?_
    refine g_iast (pc := 30) hX rfl (IX.of (n := 4) (by omega) (by decide)) d_Mo_lose_30 ?_
    refine v_iload_n (pc := 31) hX rfl d_Mo_lose_31 ?_
    exact f_iret (pc := 32) hX hR (by first | rw [if_pos hz] | rw [if_neg hz]) (rfl) d_Mo_lose_32
  · have hz : zs k = 0 := by
      by_cases w : zs k = 0
      · exact w
      · rw [if_neg w] at h15; exact absurd ((i3_le (a := 0) (by decide) (by omega)).mpr (Nat.zero_le _)) h15
    refine v_iconst (pc := 18) (v := 0) hX (by decide) d_Mo_lose_18 ?_
    refine v_goto (pc := 19) (tgt := 23) hX d_Mo_lose_19 rfl ?_
    refine v_istore_n (pc := 23) (lo' := [some (vR _), some (vI _), some (vI _)]) hX (Nat.le_of_ble_eq_true rfl) rfl d_Mo_lose_23 ?_
    refine v_aload_n (pc := 24) hX rfl d_Mo_lose_24 ?_
    refine g_getR (pc := 25) hX fl_Mo_79 rfl rfl nf_36_31 d_Mo_lose_25 ?_
    refine v_iload_n (pc := 28) hX rfl d_Mo_lose_28 ?_
    refine v_iconst (pc := 29) (v := (-1)) hX (by decide) d_Mo_lose_29 ?_
    refine g_iast (pc := 30) hX rfl (IX.of (n := 4) (by omega) (by decide)) d_Mo_lose_30 ?_
    refine v_iload_n (pc := 31) hX rfl d_Mo_lose_31 ?_
    exact f_iret (pc := 32) hX hR (by first | rw [if_pos hz] | rw [if_neg hz]) (rfl) d_Mo_lose_32
theorem d_Mo_put_0 : decode c_Mo_put 0 = .ok (.iload_n 1, 1) := by decide +kernel
theorem d_Mo_put_1 : decode c_Mo_put 1 = .ok (.invokestatic 145, 3) := by decide +kernel
theorem d_Mo_put_4 : decode c_Mo_put 4 = .ok (.ifCond .eq 9, 3) := by decide +kernel
theorem d_Mo_put_7 : decode c_Mo_put 7 = .ok (.aload_n 0, 1) := by decide +kernel
theorem d_Mo_put_8 : decode c_Mo_put 8 = .ok (.iconst (-1), 1) := by decide +kernel
theorem d_Mo_put_9 : decode c_Mo_put 9 = .ok (.invokevirtual 149, 3) := by decide +kernel
theorem d_Mo_put_12 : decode c_Mo_put 12 = .ok (.ireturn, 1) := by decide +kernel
theorem d_Mo_put_13 : decode c_Mo_put 13 = .ok (.aload_n 0, 1) := by decide +kernel
theorem d_Mo_put_14 : decode c_Mo_put 14 = .ok (.iload_n 1, 1) := by decide +kernel
theorem d_Mo_put_15 : decode c_Mo_put 15 = .ok (.iload_n 2, 1) := by decide +kernel
theorem d_Mo_put_16 : decode c_Mo_put 16 = .ok (.invokevirtual 257, 3) := by decide +kernel
theorem d_Mo_put_19 : decode c_Mo_put 19 = .ok (.ifCond .le 14, 3) := by decide +kernel
theorem d_Mo_put_22 : decode c_Mo_put 22 = .ok (.aload_n 0, 1) := by decide +kernel
theorem d_Mo_put_23 : decode c_Mo_put 23 = .ok (.aload_n 0, 1) := by decide +kernel
theorem d_Mo_put_24 : decode c_Mo_put 24 = .ok (.iload_n 1, 1) := by decide +kernel
theorem d_Mo_put_25 : decode c_Mo_put 25 = .ok (.iload_n 2, 1) := by decide +kernel
theorem d_Mo_put_26 : decode c_Mo_put 26 = .ok (.invokevirtual 257, 3) := by decide +kernel
theorem d_Mo_put_29 : decode c_Mo_put 29 = .ok (.invokevirtual 137, 3) := by decide +kernel
theorem d_Mo_put_32 : decode c_Mo_put 32 = .ok (.ireturn, 1) := by decide +kernel
theorem d_Mo_put_33 : decode c_Mo_put 33 = .ok (.aload_n 0, 1) := by decide +kernel
theorem d_Mo_put_34 : decode c_Mo_put 34 = .ok (.getfield 85, 3) := by decide +kernel
theorem d_Mo_put_37 : decode c_Mo_put 37 = .ok (.bipush 60, 2) := by decide +kernel
theorem d_Mo_put_39 : decode c_Mo_put 39 = .ok (.iload_n 1, 1) := by decide +kernel
theorem d_Mo_put_40 : decode c_Mo_put 40 = .ok (.imul, 1) := by decide +kernel
theorem d_Mo_put_41 : decode c_Mo_put 41 = .ok (.iload_n 2, 1) := by decide +kernel
theorem d_Mo_put_42 : decode c_Mo_put 42 = .ok (.iadd, 1) := by decide +kernel
theorem d_Mo_put_43 : decode c_Mo_put 43 = .ok (.aload_n 0, 1) := by decide +kernel
theorem d_Mo_put_44 : decode c_Mo_put 44 = .ok (.getfield 82, 3) := by decide +kernel
theorem d_Mo_put_47 : decode c_Mo_put 47 = .ok (.iload_n 1, 1) := by decide +kernel
theorem d_Mo_put_48 : decode c_Mo_put 48 = .ok (.iaload, 1) := by decide +kernel
theorem d_Mo_put_49 : decode c_Mo_put 49 = .ok (.ifCond .ne 8, 3) := by decide +kernel
theorem d_Mo_put_52 : decode c_Mo_put 52 = .ok (.iload_n 3, 1) := by decide +kernel
theorem d_Mo_put_53 : decode c_Mo_put 53 = .ok (.i2b, 1) := by decide +kernel
theorem d_Mo_put_54 : decode c_Mo_put 54 = .ok (.goto 19, 3) := by decide +kernel
theorem d_Mo_put_57 : decode c_Mo_put 57 = .ok (.aload_n 0, 1) := by decide +kernel
theorem d_Mo_put_58 : decode c_Mo_put 58 = .ok (.getfield 82, 3) := by decide +kernel
theorem d_Mo_put_61 : decode c_Mo_put 61 = .ok (.iload_n 1, 1) := by decide +kernel
theorem d_Mo_put_62 : decode c_Mo_put 62 = .ok (.iaload, 1) := by decide +kernel
theorem d_Mo_put_63 : decode c_Mo_put 63 = .ok (.iconst 1, 1) := by decide +kernel
theorem d_Mo_put_64 : decode c_Mo_put 64 = .ok (.if_icmp .ne 8, 3) := by decide +kernel
theorem d_Mo_put_67 : decode c_Mo_put 67 = .ok (.iload_n 3, 1) := by decide +kernel
theorem d_Mo_put_68 : decode c_Mo_put 68 = .ok (.i2s, 1) := by decide +kernel
theorem d_Mo_put_69 : decode c_Mo_put 69 = .ok (.goto 4, 3) := by decide +kernel
theorem d_Mo_put_72 : decode c_Mo_put 72 = .ok (.iload_n 3, 1) := by decide +kernel
theorem d_Mo_put_73 : decode c_Mo_put 73 = .ok (.iastore, 1) := by decide +kernel
theorem d_Mo_put_74 : decode c_Mo_put 74 = .ok (.aload_n 0, 1) := by decide +kernel
theorem d_Mo_put_75 : decode c_Mo_put 75 = .ok (.iconst 1, 1) := by decide +kernel
theorem d_Mo_put_76 : decode c_Mo_put 76 = .ok (.invokevirtual 149, 3) := by decide +kernel
theorem d_Mo_put_79 : decode c_Mo_put 79 = .ok (.ireturn, 1) := by decide +kernel
theorem C_Mo_put_out {M : MM} {x : Int32} (hx : rg x 0 3 = false) {u v : Int32} : AF y_Mo_put c_Mo_put 4 (some .int) 3 [vR 36, vI x, vI u, vI v] (M) (some (vI (-1))) (upM M 36 0 0) := by
  refine AF.of k_Mo_put (lo := [some (vR 36), some (vI x), some (vI u), some (vI v)]) rfl (Nat.le_of_ble_eq_true rfl) (fun X hX hR => ?_)
  refine v_iload_n (pc := 0) hX rfl d_Mo_put_0 ?_
  refine f_callS (pc := 1) hX k_Mo_noSheet ks_Mo_noSheet ml_Mo_145 (C_Mo_noSheet) rfl rfl rfl (Nat.le_of_ble_eq_true rfl) (Nat.le_of_ble_eq_true rfl) (Nat.le_of_ble_eq_true rfl) d_Mo_put_1 ?_
  rw [hx]
  refine f_ifeqB (pc := 4) (tgt := 13) hX d_Mo_put_4 rfl (fun h4 => False.elim (absurd h4 (by decide))) (fun h4 => ?_)
  refine v_aload_n (pc := 7) hX rfl d_Mo_put_7 ?_
  refine v_iconst (pc := 8) (v := (-1)) hX (by decide) d_Mo_put_8 ?_
  refine f_callV (pc := 9) hX k_Mo_refused ki_Mo_refused kv_Mo_refused ml_Mo_149 (C_Mo_refused) rfl rfl rfl rfl rfl (Nat.le_of_ble_eq_true rfl) (Nat.le_of_ble_eq_true rfl) (Nat.le_of_ble_eq_true rfl) d_Mo_put_9 ?_
  exact f_iret (pc := 12) hX hR (rfl) (rfl) d_Mo_put_12
theorem C_Mo_put_fail {M : MM} {k : Nat} {zs : Nat → Nat} {ln : Nat → Int32} {C : JT} (hZ : MZ M zs ln C) (hk : k < 4) {u v : Int32} (hf : ¬ flt (zs k) (ln k) (ln k) u 1 = 0) : AF y_Mo_put c_Mo_put 4 (some .int) 3 [vR 36, vI (i3 k), vI u, vI v] (M) (some (vI (-10 - flt (zs k) (ln k) (ln k) u 1))) (upM M 36 0 (flt (zs k) (ln k) (ln k) u 1)) := by
  refine AF.of k_Mo_put (lo := [some (vR 36), some (vI (i3 k)), some (vI u), some (vI v)]) rfl (Nat.le_of_ble_eq_true rfl) (fun X hX hR => ?_)
  refine v_iload_n (pc := 0) hX rfl d_Mo_put_0 ?_
  refine f_callS (pc := 1) hX k_Mo_noSheet ks_Mo_noSheet ml_Mo_145 (C_Mo_noSheet) rfl rfl rfl (Nat.le_of_ble_eq_true rfl) (Nat.le_of_ble_eq_true rfl) (Nat.le_of_ble_eq_true rfl) d_Mo_put_1 ?_
  rw [show rg (i3 k) 0 3 = true from rg_i3 (n := 4) hk (by decide)]
  refine f_ifeqB (pc := 4) (tgt := 13) hX d_Mo_put_4 rfl (fun h4 => ?_) (fun h4 => False.elim (absurd h4 (by decide)))
  refine v_aload_n (pc := 13) hX rfl d_Mo_put_13 ?_
  refine v_iload_n (pc := 14) hX rfl d_Mo_put_14 ?_
  refine v_iload_n (pc := 15) hX rfl d_Mo_put_15 ?_
  refine f_callV (pc := 16) hX k_Mo_noCell ki_Mo_noCell kv_Mo_noCell ml_Mo_257 (C_Mo_noCell hZ hk) rfl rfl rfl rfl rfl (Nat.le_of_ble_eq_true rfl) (Nat.le_of_ble_eq_true rfl) (Nat.le_of_ble_eq_true rfl) d_Mo_put_16 ?_
  refine v_if_le (pc := 19) (tgt := 33) hX d_Mo_put_19 rfl (fun h19 => False.elim (absurd h19 (Int32.not_le.mpr (flt_pos hf)))) (fun h19 => ?_)
  refine v_aload_n (pc := 22) hX rfl d_Mo_put_22 ?_
  refine v_aload_n (pc := 23) hX rfl d_Mo_put_23 ?_
  refine v_iload_n (pc := 24) hX rfl d_Mo_put_24 ?_
  refine v_iload_n (pc := 25) hX rfl d_Mo_put_25 ?_
  refine f_callV (pc := 26) hX k_Mo_noCell ki_Mo_noCell kv_Mo_noCell ml_Mo_257 (C_Mo_noCell hZ hk) rfl rfl rfl rfl rfl (Nat.le_of_ble_eq_true rfl) (Nat.le_of_ble_eq_true rfl) (Nat.le_of_ble_eq_true rfl) d_Mo_put_26 ?_
  refine f_callV (pc := 29) hX k_Mo_failed ki_Mo_failed kv_Mo_failed ml_Mo_137 (C_Mo_failed) rfl rfl rfl rfl rfl (Nat.le_of_ble_eq_true rfl) (Nat.le_of_ble_eq_true rfl) (Nat.le_of_ble_eq_true rfl) d_Mo_put_29 ?_
  exact f_iret (pc := 32) hX hR (rfl) (rfl) d_Mo_put_32
theorem C_Mo_put_ok {M : MM} {k : Nat} {zs : Nat → Nat} {ln : Nat → Int32} {C : JT} (hZ : MZ M zs ln C) (hk : k < 4) {v : Int32} {a : Nat} (hz : zs k ≠ 0) (ham : a < zs k - 1) : AF y_Mo_put c_Mo_put 4 (some .int) 3 [vR 36, vI (i3 k), vI (i3 a), vI v] (M) (some (vI 1)) (upM (upM M 62 (60 * k + a) (cutM (ln k) v)) 36 0 0) := by
  obtain ⟨z1, z2, z3⟩ := hZ k hk
  have hflt : flt (zs k) (ln k) (ln k) (i3 a) 1 = 0 := flt_ok (m := 1) hz z1 (by omega)
  refine AF.of k_Mo_put (lo := [some (vR 36), some (vI (i3 k)), some (vI (i3 a)), some (vI v)]) rfl (Nat.le_of_ble_eq_true rfl) (fun X hX hR => ?_)
  refine v_iload_n (pc := 0) hX rfl d_Mo_put_0 ?_
  refine f_callS (pc := 1) hX k_Mo_noSheet ks_Mo_noSheet ml_Mo_145 (C_Mo_noSheet) rfl rfl rfl (Nat.le_of_ble_eq_true rfl) (Nat.le_of_ble_eq_true rfl) (Nat.le_of_ble_eq_true rfl) d_Mo_put_1 ?_
  rw [show rg (i3 k) 0 3 = true from rg_i3 (n := 4) hk (by decide)]
  refine f_ifeqB (pc := 4) (tgt := 13) hX d_Mo_put_4 rfl (fun h4 => ?_) (fun h4 => False.elim (absurd h4 (by decide)))
  refine v_aload_n (pc := 13) hX rfl d_Mo_put_13 ?_
  refine v_iload_n (pc := 14) hX rfl d_Mo_put_14 ?_
  refine v_iload_n (pc := 15) hX rfl d_Mo_put_15 ?_
  refine f_callV (pc := 16) hX k_Mo_noCell ki_Mo_noCell kv_Mo_noCell ml_Mo_257 (C_Mo_noCell hZ hk) rfl rfl rfl rfl rfl (Nat.le_of_ble_eq_true rfl) (Nat.le_of_ble_eq_true rfl) (Nat.le_of_ble_eq_true rfl) d_Mo_put_16 ?_
  rw [hflt]
  refine v_if_le (pc := 19) (tgt := 33) hX d_Mo_put_19 rfl (fun h19 => ?_) (fun h19 => False.elim (h19 (Int32.le_refl _)))
  refine v_aload_n (pc := 33) hX rfl d_Mo_put_33 ?_
  refine g_getR (pc := 34) hX fl_Mo_85 rfl rfl nf_36_33 d_Mo_put_34 ?_
  refine v_bipush (pc := 37) (v := 60) hX (by decide) d_Mo_put_37 ?_
  refine v_iload_n (pc := 39) hX rfl d_Mo_put_39 ?_
  refine v_imul (pc := 40) hX d_Mo_put_40 ?_
  refine v_iload_n (pc := 41) hX rfl d_Mo_put_41 ?_
  refine v_iadd (pc := 42) hX d_Mo_put_42 ?_
  rw [i3_60]
  refine v_aload_n (pc := 43) hX rfl d_Mo_put_43 ?_
  refine g_getR (pc := 44) hX fl_Mo_82 rfl rfl nf_36_32 d_Mo_put_44 ?_
  refine v_iload_n (pc := 47) hX rfl d_Mo_put_47 ?_
  refine g_iald (pc := 48) hX rfl (IX.of (n := 4) (by omega) (by decide)) d_Mo_put_48 ?_
  rw [(z3 hz).1]
  refine v_if_ne (pc := 49) (tgt := 57) hX d_Mo_put_49 rfl (fun h49 => ?_) (fun h49 => ?_)
  · refine v_aload_n (pc := 57) hX rfl d_Mo_put_57 ?_
    refine g_getR (pc := 58) hX fl_Mo_82 rfl rfl nf_36_32 d_Mo_put_58 ?_
    refine v_iload_n (pc := 61) hX rfl d_Mo_put_61 ?_
    refine g_iald (pc := 62) hX rfl (IX.of (n := 4) (by omega) (by decide)) d_Mo_put_62 ?_
    rw [(z3 hz).1]
    refine v_iconst (pc := 63) (v := 1) hX (by decide) d_Mo_put_63 ?_
    refine v_icmp_ne (pc := 64) (tgt := 72) hX d_Mo_put_64 rfl (fun h64 => ?_) (fun h64 => ?_)
    · refine v_iload_n (pc := 72) hX rfl d_Mo_put_72 ?_
      refine g_iast (pc := 73) hX rfl (IX.of (n := 240) (by omega) (by decide)) d_Mo_put_73 ?_
      refine v_aload_n (pc := 74) hX rfl d_Mo_put_74 ?_
      refine v_iconst (pc := 75) (v := 1) hX (by decide) d_Mo_put_75 ?_
      refine f_callV (pc := 76) hX k_Mo_refused ki_Mo_refused kv_Mo_refused ml_Mo_149 (C_Mo_refused) rfl rfl rfl rfl rfl (Nat.le_of_ble_eq_true rfl) (Nat.le_of_ble_eq_true rfl) (Nat.le_of_ble_eq_true rfl) d_Mo_put_76 ?_
      exact f_iret (pc := 79) hX hR (rfl) (by unfold cutM; first | rw [if_pos (by simpa using h49)] | rw [if_neg h49, if_pos (by simpa using h64)] | rw [if_neg h49, if_neg h64]) d_Mo_put_79
    · refine v_iload_n (pc := 67) hX rfl d_Mo_put_67 ?_
      refine v_i2s (pc := 68) hX d_Mo_put_68 ?_
      refine v_goto (pc := 69) (tgt := 73) hX d_Mo_put_69 rfl ?_
      refine g_iast (pc := 73) hX rfl (IX.of (n := 240) (by omega) (by decide)) d_Mo_put_73 ?_
      refine v_aload_n (pc := 74) hX rfl d_Mo_put_74 ?_
      refine v_iconst (pc := 75) (v := 1) hX (by decide) d_Mo_put_75 ?_
      refine f_callV (pc := 76) hX k_Mo_refused ki_Mo_refused kv_Mo_refused ml_Mo_149 (C_Mo_refused) rfl rfl rfl rfl rfl (Nat.le_of_ble_eq_true rfl) (Nat.le_of_ble_eq_true rfl) (Nat.le_of_ble_eq_true rfl) d_Mo_put_76 ?_
      exact f_iret (pc := 79) hX hR (rfl) (by unfold cutM; first | rw [if_pos (by simpa using h49)] | rw [if_neg h49, if_pos (by simpa using h64)] | rw [if_neg h49, if_neg h64]) d_Mo_put_79
  · refine v_iload_n (pc := 52) hX rfl d_Mo_put_52 ?_
    refine v_i2b (pc := 53) hX d_Mo_put_53 ?_
    refine v_goto (pc := 54) (tgt := 73) hX d_Mo_put_54 rfl ?_
    refine g_iast (pc := 73) hX rfl (IX.of (n := 240) (by omega) (by decide)) d_Mo_put_73 ?_
    refine v_aload_n (pc := 74) hX rfl d_Mo_put_74 ?_
    refine v_iconst (pc := 75) (v := 1) hX (by decide) d_Mo_put_75 ?_
    refine f_callV (pc := 76) hX k_Mo_refused ki_Mo_refused kv_Mo_refused ml_Mo_149 (C_Mo_refused) rfl rfl rfl rfl rfl (Nat.le_of_ble_eq_true rfl) (Nat.le_of_ble_eq_true rfl) (Nat.le_of_ble_eq_true rfl) d_Mo_put_76 ?_
    exact f_iret (pc := 79) hX hR (rfl) (by unfold cutM; first | rw [if_pos (by simpa using h49)] | rw [if_neg h49, if_pos (by simpa using h64)] | rw [if_neg h49, if_neg h64]) d_Mo_put_79
theorem MZ.up {M : MM} {zs : Nat → Nat} {ln : Nat → Int32} {C : JT} {r i : Nat} {x : Int32} (h : MZ M zs ln C) (hr : r < 60) : MZ (upM M r i x) zs ln C := fun k hk => by
  obtain ⟨h1, h2, h3⟩ := h k hk
  exact ⟨h1, by rw [upM_ne (by omega)]; exact h2, fun e => ⟨by rw [upM_ne (by omega)]; exact (h3 e).1, fun i hi => by rw [upM_ne (by omega)]; exact (h3 e).2 i hi⟩⟩
theorem d_Mo_cell_0 : decode c_Mo_cell 0 = .ok (.aload_n 0, 1) := by decide +kernel
theorem d_Mo_cell_1 : decode c_Mo_cell 1 = .ok (.iconst 0, 1) := by decide +kernel
theorem d_Mo_cell_2 : decode c_Mo_cell 2 = .ok (.putfield 93, 3) := by decide +kernel
theorem d_Mo_cell_5 : decode c_Mo_cell 5 = .ok (.iload_n 1, 1) := by decide +kernel
theorem d_Mo_cell_6 : decode c_Mo_cell 6 = .ok (.invokestatic 145, 3) := by decide +kernel
theorem d_Mo_cell_9 : decode c_Mo_cell 9 = .ok (.ifCond .ne 15, 3) := by decide +kernel
theorem d_Mo_cell_12 : decode c_Mo_cell 12 = .ok (.iload_n 3, 1) := by decide +kernel
theorem d_Mo_cell_13 : decode c_Mo_cell 13 = .ok (.i2l, 1) := by decide +kernel
theorem d_Mo_cell_14 : decode c_Mo_cell 14 = .ok (.lconst 0, 1) := by decide +kernel
theorem d_Mo_cell_15 : decode c_Mo_cell 15 = .ok (.ldc2_w 152, 3) := by decide +kernel
theorem d_Mo_cell_18 : decode c_Mo_cell 18 = .ok (.invokestatic 104, 3) := by decide +kernel
theorem d_Mo_cell_21 : decode c_Mo_cell 21 = .ok (.ifCond .ne 7, 3) := by decide +kernel
theorem d_Mo_cell_24 : decode c_Mo_cell 24 = .ok (.invokestatic 97, 3) := by decide +kernel
theorem d_Mo_cell_27 : decode c_Mo_cell 27 = .ok (.lreturn, 1) := by decide +kernel
theorem d_Mo_cell_28 : decode c_Mo_cell 28 = .ok (.aload_n 0, 1) := by decide +kernel
theorem d_Mo_cell_29 : decode c_Mo_cell 29 = .ok (.getfield 79, 3) := by decide +kernel
theorem d_Mo_cell_32 : decode c_Mo_cell 32 = .ok (.iload_n 1, 1) := by decide +kernel
theorem d_Mo_cell_33 : decode c_Mo_cell 33 = .ok (.iaload, 1) := by decide +kernel
theorem d_Mo_cell_34 : decode c_Mo_cell 34 = .ok (.ifCond .lt 19, 3) := by decide +kernel
theorem d_Mo_cell_37 : decode c_Mo_cell 37 = .ok (.aload_n 0, 1) := by decide +kernel
theorem d_Mo_cell_38 : decode c_Mo_cell 38 = .ok (.getfield 82, 3) := by decide +kernel
theorem d_Mo_cell_41 : decode c_Mo_cell 41 = .ok (.iload_n 1, 1) := by decide +kernel
theorem d_Mo_cell_42 : decode c_Mo_cell 42 = .ok (.iaload, 1) := by decide +kernel
theorem d_Mo_cell_43 : decode c_Mo_cell 43 = .ok (.iload_n 3, 1) := by decide +kernel
theorem d_Mo_cell_44 : decode c_Mo_cell 44 = .ok (.if_icmp .eq 9, 3) := by decide +kernel
theorem d_Mo_cell_47 : decode c_Mo_cell 47 = .ok (.aload_n 0, 1) := by decide +kernel
theorem d_Mo_cell_48 : decode c_Mo_cell 48 = .ok (.iconst 2, 1) := by decide +kernel
theorem d_Mo_cell_49 : decode c_Mo_cell 49 = .ok (.invokevirtual 260, 3) := by decide +kernel
theorem d_Mo_cell_52 : decode c_Mo_cell 52 = .ok (.lreturn, 1) := by decide +kernel
theorem d_Mo_cell_53 : decode c_Mo_cell 53 = .ok (.aload_n 0, 1) := by decide +kernel
theorem d_Mo_cell_54 : decode c_Mo_cell 54 = .ok (.iload_n 1, 1) := by decide +kernel
theorem d_Mo_cell_55 : decode c_Mo_cell 55 = .ok (.iload_n 2, 1) := by decide +kernel
theorem d_Mo_cell_56 : decode c_Mo_cell 56 = .ok (.invokevirtual 257, 3) := by decide +kernel
theorem d_Mo_cell_59 : decode c_Mo_cell 59 = .ok (.ifCond .le 16, 3) := by decide +kernel
theorem d_Mo_cell_62 : decode c_Mo_cell 62 = .ok (.aload_n 0, 1) := by decide +kernel
theorem d_Mo_cell_63 : decode c_Mo_cell 63 = .ok (.aload_n 0, 1) := by decide +kernel
theorem d_Mo_cell_64 : decode c_Mo_cell 64 = .ok (.iload_n 1, 1) := by decide +kernel
theorem d_Mo_cell_65 : decode c_Mo_cell 65 = .ok (.iload_n 2, 1) := by decide +kernel
theorem d_Mo_cell_66 : decode c_Mo_cell 66 = .ok (.invokevirtual 257, 3) := by decide +kernel
theorem d_Mo_cell_69 : decode c_Mo_cell 69 = .ok (.invokevirtual 260, 3) := by decide +kernel
theorem d_Mo_cell_72 : decode c_Mo_cell 72 = .ok (.goto 15, 3) := by decide +kernel
theorem d_Mo_cell_75 : decode c_Mo_cell 75 = .ok (.aload_n 0, 1) := by decide +kernel
theorem d_Mo_cell_76 : decode c_Mo_cell 76 = .ok (.getfield 85, 3) := by decide +kernel
theorem d_Mo_cell_79 : decode c_Mo_cell 79 = .ok (.bipush 60, 2) := by decide +kernel
theorem d_Mo_cell_81 : decode c_Mo_cell 81 = .ok (.iload_n 1, 1) := by decide +kernel
theorem d_Mo_cell_82 : decode c_Mo_cell 82 = .ok (.imul, 1) := by decide +kernel
theorem d_Mo_cell_83 : decode c_Mo_cell 83 = .ok (.iload_n 2, 1) := by decide +kernel
theorem d_Mo_cell_84 : decode c_Mo_cell 84 = .ok (.iadd, 1) := by decide +kernel
theorem d_Mo_cell_85 : decode c_Mo_cell 85 = .ok (.iaload, 1) := by decide +kernel
theorem d_Mo_cell_86 : decode c_Mo_cell 86 = .ok (.i2l, 1) := by decide +kernel
theorem d_Mo_cell_87 : decode c_Mo_cell 87 = .ok (.lreturn, 1) := by decide +kernel
theorem C_Mo_cell_out {M : MM} {x : Int32} (hx : rg x 0 3 = false) {u v : Int32} : AF y_Mo_cell c_Mo_cell 4 (some .long) 3 [vR 36, vI x, vI u, vI v] (M) (some (vL (-9223372036854775808))) (upM M 36 0 0) := by
  refine AF.of k_Mo_cell (lo := [some (vR 36), some (vI x), some (vI u), some (vI v)]) rfl (Nat.le_of_ble_eq_true rfl) (fun X hX hR => ?_)
  refine v_aload_n (pc := 0) hX rfl d_Mo_cell_0 ?_
  refine v_iconst (pc := 1) (v := 0) hX (by decide) d_Mo_cell_1 ?_
  refine g_putI (pc := 2) hX fl_Mo_93 rfl (finI rfl rfl) rfl rfl rfl d_Mo_cell_2 ?_
  refine v_iload_n (pc := 5) hX rfl d_Mo_cell_5 ?_
  refine f_callS (pc := 6) hX k_Mo_noSheet ks_Mo_noSheet ml_Mo_145 (C_Mo_noSheet) rfl rfl rfl (Nat.le_of_ble_eq_true rfl) (Nat.le_of_ble_eq_true rfl) (Nat.le_of_ble_eq_true rfl) d_Mo_cell_6 ?_
  rw [hx]
  refine f_ifneB (pc := 9) (tgt := 24) hX d_Mo_cell_9 rfl (fun h9 => ?_) (fun h9 => False.elim (absurd h9 (by decide)))
  refine f_callS (pc := 24) hX k_Mo_lost ks_Mo_lost ml_Mo_97 (C_Mo_lost) rfl rfl rfl (Nat.le_of_ble_eq_true rfl) (Nat.le_of_ble_eq_true rfl) (Nat.le_of_ble_eq_true rfl) d_Mo_cell_24 ?_
  exact f_lret (pc := 27) hX hR (rfl) (rfl) d_Mo_cell_27
theorem C_Mo_cell_bad {M : MM} {k : Nat} {u v : Int32} (hk : k < 4) (hu : rg v 0 2 = false) : AF y_Mo_cell c_Mo_cell 4 (some .long) 3 [vR 36, vI (i3 k), vI u, vI v] (M) (some (vL (-9223372036854775808))) (upM M 36 0 0) := by
  refine AF.of k_Mo_cell (lo := [some (vR 36), some (vI (i3 k)), some (vI u), some (vI v)]) rfl (Nat.le_of_ble_eq_true rfl) (fun X hX hR => ?_)
  refine v_aload_n (pc := 0) hX rfl d_Mo_cell_0 ?_
  refine v_iconst (pc := 1) (v := 0) hX (by decide) d_Mo_cell_1 ?_
  refine g_putI (pc := 2) hX fl_Mo_93 rfl (finI rfl rfl) rfl rfl rfl d_Mo_cell_2 ?_
  refine v_iload_n (pc := 5) hX rfl d_Mo_cell_5 ?_
  refine f_callS (pc := 6) hX k_Mo_noSheet ks_Mo_noSheet ml_Mo_145 (C_Mo_noSheet) rfl rfl rfl (Nat.le_of_ble_eq_true rfl) (Nat.le_of_ble_eq_true rfl) (Nat.le_of_ble_eq_true rfl) d_Mo_cell_6 ?_
  rw [show rg (i3 k) 0 3 = true from rg_i3 (n := 4) hk (by decide)]
  refine f_ifneB (pc := 9) (tgt := 24) hX d_Mo_cell_9 rfl (fun h9 => False.elim (absurd h9 (by decide))) (fun h9 => ?_)
  refine v_iload_n (pc := 12) hX rfl d_Mo_cell_12 ?_
  refine v_i2l (pc := 13) hX d_Mo_cell_13 ?_
  refine v_lconst (pc := 14) (v := 0) hX (by decide) d_Mo_cell_14 ?_
  refine v_ldc2_w (pc := 15) hX kl_Mo_152 d_Mo_cell_15 ?_
  refine f_callS (pc := 18) hX k_Mo_in ks_Mo_in ml_Mo_104 (C_Mo_in) rfl rfl rfl (Nat.le_of_ble_eq_true rfl) (Nat.le_of_ble_eq_true rfl) (Nat.le_of_ble_eq_true rfl) d_Mo_cell_18 ?_
  rw [rL_rg (L := 0) (H := 2) rfl rfl]
  refine f_ifneB (pc := 21) (tgt := 28) hX d_Mo_cell_21 rfl (fun h21 => False.elim (by rw [hu] at h21; cases h21)) (fun h21 => ?_)
  refine f_callS (pc := 24) hX k_Mo_lost ks_Mo_lost ml_Mo_97 (C_Mo_lost) rfl rfl rfl (Nat.le_of_ble_eq_true rfl) (Nat.le_of_ble_eq_true rfl) (Nat.le_of_ble_eq_true rfl) d_Mo_cell_24 ?_
  exact f_lret (pc := 27) hX hR (rfl) (rfl) d_Mo_cell_27
theorem C_Mo_cell_1 {M : MM} {k : Nat} {zs : Nat → Nat} {ln : Nat → Int32} {C : JT} (hZ : MZ M zs ln C) (hk : k < 4) {u v : Int32} (hu : rg v 0 2 = true) (hz : zs k = 0) : AF y_Mo_cell c_Mo_cell 4 (some .long) 3 [vR 36, vI (i3 k), vI u, vI v] (M) (some (vL (-9223372036854775808))) (upM M 36 0 1) := by
  obtain ⟨z1, z2, z3⟩ := hZ k hk
  have hZ1 : MZ (upM M 36 0 0) zs ln C := hZ.up (by decide)
  refine AF.of k_Mo_cell (lo := [some (vR 36), some (vI (i3 k)), some (vI u), some (vI v)]) rfl (Nat.le_of_ble_eq_true rfl) (fun X hX hR => ?_)
  refine v_aload_n (pc := 0) hX rfl d_Mo_cell_0 ?_
  refine v_iconst (pc := 1) (v := 0) hX (by decide) d_Mo_cell_1 ?_
  refine g_putI (pc := 2) hX fl_Mo_93 rfl (finI rfl rfl) rfl rfl rfl d_Mo_cell_2 ?_
  refine v_iload_n (pc := 5) hX rfl d_Mo_cell_5 ?_
  refine f_callS (pc := 6) hX k_Mo_noSheet ks_Mo_noSheet ml_Mo_145 (C_Mo_noSheet) rfl rfl rfl (Nat.le_of_ble_eq_true rfl) (Nat.le_of_ble_eq_true rfl) (Nat.le_of_ble_eq_true rfl) d_Mo_cell_6 ?_
  rw [show rg (i3 k) 0 3 = true from rg_i3 (n := 4) hk (by decide)]
  refine f_ifneB (pc := 9) (tgt := 24) hX d_Mo_cell_9 rfl (fun h9 => False.elim (absurd h9 (by decide))) (fun h9 => ?_)
  refine v_iload_n (pc := 12) hX rfl d_Mo_cell_12 ?_
  refine v_i2l (pc := 13) hX d_Mo_cell_13 ?_
  refine v_lconst (pc := 14) (v := 0) hX (by decide) d_Mo_cell_14 ?_
  refine v_ldc2_w (pc := 15) hX kl_Mo_152 d_Mo_cell_15 ?_
  refine f_callS (pc := 18) hX k_Mo_in ks_Mo_in ml_Mo_104 (C_Mo_in) rfl rfl rfl (Nat.le_of_ble_eq_true rfl) (Nat.le_of_ble_eq_true rfl) (Nat.le_of_ble_eq_true rfl) d_Mo_cell_18 ?_
  rw [rL_rg (L := 0) (H := 2) rfl rfl]
  refine f_ifneB (pc := 21) (tgt := 28) hX d_Mo_cell_21 rfl (fun h21 => ?_) (fun h21 => False.elim (by rw [hu] at h21; cases h21))
  refine v_aload_n (pc := 28) hX rfl d_Mo_cell_28 ?_
  refine g_getR (pc := 29) hX fl_Mo_79 rfl rfl nf_36_31 d_Mo_cell_29 ?_
  refine v_iload_n (pc := 32) hX rfl d_Mo_cell_32 ?_
  refine g_iald (pc := 33) hX rfl (IX.of (n := 4) (by omega) (by decide)) d_Mo_cell_33 ?_
  rw [upM_ne (by omega), z2, if_pos hz]
  refine v_if_lt (pc := 34) (tgt := 53) hX d_Mo_cell_34 rfl (fun h34 => ?_) (fun h34 => False.elim (h34 (by decide)))
  refine v_aload_n (pc := 53) hX rfl d_Mo_cell_53 ?_
  refine v_iload_n (pc := 54) hX rfl d_Mo_cell_54 ?_
  refine v_iload_n (pc := 55) hX rfl d_Mo_cell_55 ?_
  refine f_callV (pc := 56) hX k_Mo_noCell ki_Mo_noCell kv_Mo_noCell ml_Mo_257 (C_Mo_noCell hZ1 hk) rfl rfl rfl rfl rfl (Nat.le_of_ble_eq_true rfl) (Nat.le_of_ble_eq_true rfl) (Nat.le_of_ble_eq_true rfl) d_Mo_cell_56 ?_
  rw [flt_1 hz]
  refine v_if_le (pc := 59) (tgt := 75) hX d_Mo_cell_59 rfl (fun h59 => False.elim (absurd h59 (by decide))) (fun h59 => ?_)
  refine v_aload_n (pc := 62) hX rfl d_Mo_cell_62 ?_
  refine v_aload_n (pc := 63) hX rfl d_Mo_cell_63 ?_
  refine v_iload_n (pc := 64) hX rfl d_Mo_cell_64 ?_
  refine v_iload_n (pc := 65) hX rfl d_Mo_cell_65 ?_
  refine f_callV (pc := 66) hX k_Mo_noCell ki_Mo_noCell kv_Mo_noCell ml_Mo_257 (C_Mo_noCell hZ1 hk) rfl rfl rfl rfl rfl (Nat.le_of_ble_eq_true rfl) (Nat.le_of_ble_eq_true rfl) (Nat.le_of_ble_eq_true rfl) d_Mo_cell_66 ?_
  rw [flt_1 hz]
  refine f_callV (pc := 69) hX k_Mo_failedLong ki_Mo_failedLong kv_Mo_failedLong ml_Mo_260 (C_Mo_failedLong) rfl rfl rfl rfl rfl (Nat.le_of_ble_eq_true rfl) (Nat.le_of_ble_eq_true rfl) (Nat.le_of_ble_eq_true rfl) d_Mo_cell_69 ?_
  refine v_goto (pc := 72) (tgt := 87) hX d_Mo_cell_72 rfl ?_
  exact f_lret (pc := 87) hX hR (rfl) (upM_up) d_Mo_cell_87
theorem C_Mo_cell_2 {M : MM} {k : Nat} {zs : Nat → Nat} {ln : Nat → Int32} {C : JT} (hZ : MZ M zs ln C) (hk : k < 4) {u v : Int32} (hu : rg v 0 2 = true) (hz : zs k ≠ 0) (hl : ¬ v = ln k) : AF y_Mo_cell c_Mo_cell 4 (some .long) 3 [vR 36, vI (i3 k), vI u, vI v] (M) (some (vL (-9223372036854775808))) (upM M 36 0 2) := by
  obtain ⟨z1, z2, z3⟩ := hZ k hk
  have hZ1 : MZ (upM M 36 0 0) zs ln C := hZ.up (by decide)
  refine AF.of k_Mo_cell (lo := [some (vR 36), some (vI (i3 k)), some (vI u), some (vI v)]) rfl (Nat.le_of_ble_eq_true rfl) (fun X hX hR => ?_)
  refine v_aload_n (pc := 0) hX rfl d_Mo_cell_0 ?_
  refine v_iconst (pc := 1) (v := 0) hX (by decide) d_Mo_cell_1 ?_
  refine g_putI (pc := 2) hX fl_Mo_93 rfl (finI rfl rfl) rfl rfl rfl d_Mo_cell_2 ?_
  refine v_iload_n (pc := 5) hX rfl d_Mo_cell_5 ?_
  refine f_callS (pc := 6) hX k_Mo_noSheet ks_Mo_noSheet ml_Mo_145 (C_Mo_noSheet) rfl rfl rfl (Nat.le_of_ble_eq_true rfl) (Nat.le_of_ble_eq_true rfl) (Nat.le_of_ble_eq_true rfl) d_Mo_cell_6 ?_
  rw [show rg (i3 k) 0 3 = true from rg_i3 (n := 4) hk (by decide)]
  refine f_ifneB (pc := 9) (tgt := 24) hX d_Mo_cell_9 rfl (fun h9 => False.elim (absurd h9 (by decide))) (fun h9 => ?_)
  refine v_iload_n (pc := 12) hX rfl d_Mo_cell_12 ?_
  refine v_i2l (pc := 13) hX d_Mo_cell_13 ?_
  refine v_lconst (pc := 14) (v := 0) hX (by decide) d_Mo_cell_14 ?_
  refine v_ldc2_w (pc := 15) hX kl_Mo_152 d_Mo_cell_15 ?_
  refine f_callS (pc := 18) hX k_Mo_in ks_Mo_in ml_Mo_104 (C_Mo_in) rfl rfl rfl (Nat.le_of_ble_eq_true rfl) (Nat.le_of_ble_eq_true rfl) (Nat.le_of_ble_eq_true rfl) d_Mo_cell_18 ?_
  rw [rL_rg (L := 0) (H := 2) rfl rfl]
  refine f_ifneB (pc := 21) (tgt := 28) hX d_Mo_cell_21 rfl (fun h21 => ?_) (fun h21 => False.elim (by rw [hu] at h21; cases h21))
  refine v_aload_n (pc := 28) hX rfl d_Mo_cell_28 ?_
  refine g_getR (pc := 29) hX fl_Mo_79 rfl rfl nf_36_31 d_Mo_cell_29 ?_
  refine v_iload_n (pc := 32) hX rfl d_Mo_cell_32 ?_
  refine g_iald (pc := 33) hX rfl (IX.of (n := 4) (by omega) (by decide)) d_Mo_cell_33 ?_
  rw [upM_ne (by omega), z2, if_neg hz]
  refine v_if_lt (pc := 34) (tgt := 53) hX d_Mo_cell_34 rfl (fun h34 => False.elim (by have := (i3_lt (b := 0) (by omega) (by decide)).mp h34; omega)) (fun h34 => ?_)
  refine v_aload_n (pc := 37) hX rfl d_Mo_cell_37 ?_
  refine g_getR (pc := 38) hX fl_Mo_82 rfl rfl nf_36_32 d_Mo_cell_38 ?_
  refine v_iload_n (pc := 41) hX rfl d_Mo_cell_41 ?_
  refine g_iald (pc := 42) hX rfl (IX.of (n := 4) (by omega) (by decide)) d_Mo_cell_42 ?_
  rw [upM_ne (by omega), (z3 hz).1]
  refine v_iload_n (pc := 43) hX rfl d_Mo_cell_43 ?_
  refine v_icmp_eq (pc := 44) (tgt := 53) hX d_Mo_cell_44 rfl (fun h44 => False.elim (hl h44.symm)) (fun h44 => ?_)
  refine v_aload_n (pc := 47) hX rfl d_Mo_cell_47 ?_
  refine v_iconst (pc := 48) (v := 2) hX (by decide) d_Mo_cell_48 ?_
  refine f_callV (pc := 49) hX k_Mo_failedLong ki_Mo_failedLong kv_Mo_failedLong ml_Mo_260 (C_Mo_failedLong) rfl rfl rfl rfl rfl (Nat.le_of_ble_eq_true rfl) (Nat.le_of_ble_eq_true rfl) (Nat.le_of_ble_eq_true rfl) d_Mo_cell_49 ?_
  exact f_lret (pc := 52) hX hR (rfl) (upM_up) d_Mo_cell_52
theorem C_Mo_cell_3 {M : MM} {k : Nat} {zs : Nat → Nat} {ln : Nat → Int32} {C : JT} (hZ : MZ M zs ln C) (hk : k < 4) {u v : Int32} (hu : rg v 0 2 = true) (hz : zs k ≠ 0) (hl : v = ln k) (hf : flt (zs k) (ln k) (ln k) u 1 = 3) : AF y_Mo_cell c_Mo_cell 4 (some .long) 3 [vR 36, vI (i3 k), vI u, vI v] (M) (some (vL (-9223372036854775808))) (upM M 36 0 3) := by
  obtain ⟨z1, z2, z3⟩ := hZ k hk
  have hZ1 : MZ (upM M 36 0 0) zs ln C := hZ.up (by decide)
  refine AF.of k_Mo_cell (lo := [some (vR 36), some (vI (i3 k)), some (vI u), some (vI v)]) rfl (Nat.le_of_ble_eq_true rfl) (fun X hX hR => ?_)
  refine v_aload_n (pc := 0) hX rfl d_Mo_cell_0 ?_
  refine v_iconst (pc := 1) (v := 0) hX (by decide) d_Mo_cell_1 ?_
  refine g_putI (pc := 2) hX fl_Mo_93 rfl (finI rfl rfl) rfl rfl rfl d_Mo_cell_2 ?_
  refine v_iload_n (pc := 5) hX rfl d_Mo_cell_5 ?_
  refine f_callS (pc := 6) hX k_Mo_noSheet ks_Mo_noSheet ml_Mo_145 (C_Mo_noSheet) rfl rfl rfl (Nat.le_of_ble_eq_true rfl) (Nat.le_of_ble_eq_true rfl) (Nat.le_of_ble_eq_true rfl) d_Mo_cell_6 ?_
  rw [show rg (i3 k) 0 3 = true from rg_i3 (n := 4) hk (by decide)]
  refine f_ifneB (pc := 9) (tgt := 24) hX d_Mo_cell_9 rfl (fun h9 => False.elim (absurd h9 (by decide))) (fun h9 => ?_)
  refine v_iload_n (pc := 12) hX rfl d_Mo_cell_12 ?_
  refine v_i2l (pc := 13) hX d_Mo_cell_13 ?_
  refine v_lconst (pc := 14) (v := 0) hX (by decide) d_Mo_cell_14 ?_
  refine v_ldc2_w (pc := 15) hX kl_Mo_152 d_Mo_cell_15 ?_
  refine f_callS (pc := 18) hX k_Mo_in ks_Mo_in ml_Mo_104 (C_Mo_in) rfl rfl rfl (Nat.le_of_ble_eq_true rfl) (Nat.le_of_ble_eq_true rfl) (Nat.le_of_ble_eq_true rfl) d_Mo_cell_18 ?_
  rw [rL_rg (L := 0) (H := 2) rfl rfl]
  refine f_ifneB (pc := 21) (tgt := 28) hX d_Mo_cell_21 rfl (fun h21 => ?_) (fun h21 => False.elim (by rw [hu] at h21; cases h21))
  refine v_aload_n (pc := 28) hX rfl d_Mo_cell_28 ?_
  refine g_getR (pc := 29) hX fl_Mo_79 rfl rfl nf_36_31 d_Mo_cell_29 ?_
  refine v_iload_n (pc := 32) hX rfl d_Mo_cell_32 ?_
  refine g_iald (pc := 33) hX rfl (IX.of (n := 4) (by omega) (by decide)) d_Mo_cell_33 ?_
  rw [upM_ne (by omega), z2, if_neg hz]
  refine v_if_lt (pc := 34) (tgt := 53) hX d_Mo_cell_34 rfl (fun h34 => False.elim (by have := (i3_lt (b := 0) (by omega) (by decide)).mp h34; omega)) (fun h34 => ?_)
  refine v_aload_n (pc := 37) hX rfl d_Mo_cell_37 ?_
  refine g_getR (pc := 38) hX fl_Mo_82 rfl rfl nf_36_32 d_Mo_cell_38 ?_
  refine v_iload_n (pc := 41) hX rfl d_Mo_cell_41 ?_
  refine g_iald (pc := 42) hX rfl (IX.of (n := 4) (by omega) (by decide)) d_Mo_cell_42 ?_
  rw [upM_ne (by omega), (z3 hz).1]
  refine v_iload_n (pc := 43) hX rfl d_Mo_cell_43 ?_
  refine v_icmp_eq (pc := 44) (tgt := 53) hX d_Mo_cell_44 rfl (fun h44 => ?_) (fun h44 => False.elim (h44 hl.symm))
  refine v_aload_n (pc := 53) hX rfl d_Mo_cell_53 ?_
  refine v_iload_n (pc := 54) hX rfl d_Mo_cell_54 ?_
  refine v_iload_n (pc := 55) hX rfl d_Mo_cell_55 ?_
  refine f_callV (pc := 56) hX k_Mo_noCell ki_Mo_noCell kv_Mo_noCell ml_Mo_257 (C_Mo_noCell hZ1 hk) rfl rfl rfl rfl rfl (Nat.le_of_ble_eq_true rfl) (Nat.le_of_ble_eq_true rfl) (Nat.le_of_ble_eq_true rfl) d_Mo_cell_56 ?_
  rw [hf]
  refine v_if_le (pc := 59) (tgt := 75) hX d_Mo_cell_59 rfl (fun h59 => False.elim (absurd h59 (by decide))) (fun h59 => ?_)
  refine v_aload_n (pc := 62) hX rfl d_Mo_cell_62 ?_
  refine v_aload_n (pc := 63) hX rfl d_Mo_cell_63 ?_
  refine v_iload_n (pc := 64) hX rfl d_Mo_cell_64 ?_
  refine v_iload_n (pc := 65) hX rfl d_Mo_cell_65 ?_
  refine f_callV (pc := 66) hX k_Mo_noCell ki_Mo_noCell kv_Mo_noCell ml_Mo_257 (C_Mo_noCell hZ1 hk) rfl rfl rfl rfl rfl (Nat.le_of_ble_eq_true rfl) (Nat.le_of_ble_eq_true rfl) (Nat.le_of_ble_eq_true rfl) d_Mo_cell_66 ?_
  rw [hf]
  refine f_callV (pc := 69) hX k_Mo_failedLong ki_Mo_failedLong kv_Mo_failedLong ml_Mo_260 (C_Mo_failedLong) rfl rfl rfl rfl rfl (Nat.le_of_ble_eq_true rfl) (Nat.le_of_ble_eq_true rfl) (Nat.le_of_ble_eq_true rfl) d_Mo_cell_69 ?_
  refine v_goto (pc := 72) (tgt := 87) hX d_Mo_cell_72 rfl ?_
  exact f_lret (pc := 87) hX hR (rfl) (upM_up) d_Mo_cell_87
theorem C_Mo_cell_ok {M : MM} {k : Nat} {zs : Nat → Nat} {ln : Nat → Int32} {C : JT} (hZ : MZ M zs ln C) (hk : k < 4) (hu : rg (ln k) 0 2 = true) {a : Nat} (hz : zs k ≠ 0) (ham : a < zs k - 1) : AF y_Mo_cell c_Mo_cell 4 (some .long) 3 [vR 36, vI (i3 k), vI (i3 a), vI (ln k)] (M) (some (vL (C k a).toInt64)) (upM M 36 0 0) := by
  obtain ⟨z1, z2, z3⟩ := hZ k hk
  have hZ1 : MZ (upM M 36 0 0) zs ln C := hZ.up (by decide)
  have hflt : flt (zs k) (ln k) (ln k) (i3 a) 1 = 0 := flt_ok (m := 1) hz z1 (by omega)
  refine AF.of k_Mo_cell (lo := [some (vR 36), some (vI (i3 k)), some (vI (i3 a)), some (vI (ln k))]) rfl (Nat.le_of_ble_eq_true rfl) (fun X hX hR => ?_)
  refine v_aload_n (pc := 0) hX rfl d_Mo_cell_0 ?_
  refine v_iconst (pc := 1) (v := 0) hX (by decide) d_Mo_cell_1 ?_
  refine g_putI (pc := 2) hX fl_Mo_93 rfl (finI rfl rfl) rfl rfl rfl d_Mo_cell_2 ?_
  refine v_iload_n (pc := 5) hX rfl d_Mo_cell_5 ?_
  refine f_callS (pc := 6) hX k_Mo_noSheet ks_Mo_noSheet ml_Mo_145 (C_Mo_noSheet) rfl rfl rfl (Nat.le_of_ble_eq_true rfl) (Nat.le_of_ble_eq_true rfl) (Nat.le_of_ble_eq_true rfl) d_Mo_cell_6 ?_
  rw [show rg (i3 k) 0 3 = true from rg_i3 (n := 4) hk (by decide)]
  refine f_ifneB (pc := 9) (tgt := 24) hX d_Mo_cell_9 rfl (fun h9 => False.elim (absurd h9 (by decide))) (fun h9 => ?_)
  refine v_iload_n (pc := 12) hX rfl d_Mo_cell_12 ?_
  refine v_i2l (pc := 13) hX d_Mo_cell_13 ?_
  refine v_lconst (pc := 14) (v := 0) hX (by decide) d_Mo_cell_14 ?_
  refine v_ldc2_w (pc := 15) hX kl_Mo_152 d_Mo_cell_15 ?_
  refine f_callS (pc := 18) hX k_Mo_in ks_Mo_in ml_Mo_104 (C_Mo_in) rfl rfl rfl (Nat.le_of_ble_eq_true rfl) (Nat.le_of_ble_eq_true rfl) (Nat.le_of_ble_eq_true rfl) d_Mo_cell_18 ?_
  rw [rL_rg (L := 0) (H := 2) rfl rfl]
  refine f_ifneB (pc := 21) (tgt := 28) hX d_Mo_cell_21 rfl (fun h21 => ?_) (fun h21 => False.elim (by rw [hu] at h21; cases h21))
  refine v_aload_n (pc := 28) hX rfl d_Mo_cell_28 ?_
  refine g_getR (pc := 29) hX fl_Mo_79 rfl rfl nf_36_31 d_Mo_cell_29 ?_
  refine v_iload_n (pc := 32) hX rfl d_Mo_cell_32 ?_
  refine g_iald (pc := 33) hX rfl (IX.of (n := 4) (by omega) (by decide)) d_Mo_cell_33 ?_
  rw [upM_ne (by omega), z2, if_neg hz]
  refine v_if_lt (pc := 34) (tgt := 53) hX d_Mo_cell_34 rfl (fun h34 => False.elim (by have := (i3_lt (b := 0) (by omega) (by decide)).mp h34; omega)) (fun h34 => ?_)
  refine v_aload_n (pc := 37) hX rfl d_Mo_cell_37 ?_
  refine g_getR (pc := 38) hX fl_Mo_82 rfl rfl nf_36_32 d_Mo_cell_38 ?_
  refine v_iload_n (pc := 41) hX rfl d_Mo_cell_41 ?_
  refine g_iald (pc := 42) hX rfl (IX.of (n := 4) (by omega) (by decide)) d_Mo_cell_42 ?_
  rw [upM_ne (by omega), (z3 hz).1]
  refine v_iload_n (pc := 43) hX rfl d_Mo_cell_43 ?_
  refine v_icmp_eq (pc := 44) (tgt := 53) hX d_Mo_cell_44 rfl (fun h44 => ?_) (fun h44 => False.elim (h44 rfl))
  refine v_aload_n (pc := 53) hX rfl d_Mo_cell_53 ?_
  refine v_iload_n (pc := 54) hX rfl d_Mo_cell_54 ?_
  refine v_iload_n (pc := 55) hX rfl d_Mo_cell_55 ?_
  refine f_callV (pc := 56) hX k_Mo_noCell ki_Mo_noCell kv_Mo_noCell ml_Mo_257 (C_Mo_noCell hZ1 hk) rfl rfl rfl rfl rfl (Nat.le_of_ble_eq_true rfl) (Nat.le_of_ble_eq_true rfl) (Nat.le_of_ble_eq_true rfl) d_Mo_cell_56 ?_
  rw [hflt]
  refine v_if_le (pc := 59) (tgt := 75) hX d_Mo_cell_59 rfl (fun h59 => ?_) (fun h59 => False.elim (h59 (Int32.le_refl _)))
  refine v_aload_n (pc := 75) hX rfl d_Mo_cell_75 ?_
  refine g_getR (pc := 76) hX fl_Mo_85 rfl rfl nf_36_33 d_Mo_cell_76 ?_
  refine v_bipush (pc := 79) (v := 60) hX (by decide) d_Mo_cell_79 ?_
  refine v_iload_n (pc := 81) hX rfl d_Mo_cell_81 ?_
  refine v_imul (pc := 82) hX d_Mo_cell_82 ?_
  refine v_iload_n (pc := 83) hX rfl d_Mo_cell_83 ?_
  refine v_iadd (pc := 84) hX d_Mo_cell_84 ?_
  rw [i3_60]
  refine g_iald (pc := 85) hX rfl (IX.of (n := 240) (by omega) (by decide)) d_Mo_cell_85 ?_
  refine v_i2l (pc := 86) hX d_Mo_cell_86 ?_
  exact f_lret (pc := 87) hX hR (by rw [upM_ne (by omega), (z3 hz).2 a ham]) (rfl) d_Mo_cell_87
theorem C_Mo_cell_fail {M : MM} {k : Nat} {zs : Nat → Nat} {ln : Nat → Int32} {C : JT} (hZ : MZ M zs ln C) (hk : k < 4) {u v : Int32} (hu : rg v 0 2 = true) (hf : ¬ flt (zs k) (ln k) v u 1 = 0) : AF y_Mo_cell c_Mo_cell 4 (some .long) 3 [vR 36, vI (i3 k), vI u, vI v] M (some (vL (-9223372036854775808))) (upM M 36 0 (flt (zs k) (ln k) v u 1)) := by
  by_cases hz : zs k = 0
  · rw [flt_1 hz]; exact C_Mo_cell_1 hZ hk hu hz
  · by_cases hl : v = ln k
    · subst hl
      by_cases hh : hcB (i3 (zs k - 1)) u 1 = true
      · exact absurd (flt_0 hz rfl (by decide) hh) hf
      · have e := flt_3 (l := ln k) hz rfl (show ¬ (1 : Int32) < 0 by decide) (Bool.eq_false_iff.mpr hh)
        rw [e]; exact C_Mo_cell_3 hZ hk hu hz rfl e
    · rw [flt_2 hz hl]; exact C_Mo_cell_2 hZ hk hu hz hl
theorem d_Mo_copy_0 : decode c_Mo_copy 0 = .ok (.iload_n 1, 1) := by decide +kernel
theorem d_Mo_copy_1 : decode c_Mo_copy 1 = .ok (.invokestatic 145, 3) := by decide +kernel
theorem d_Mo_copy_4 : decode c_Mo_copy 4 = .ok (.ifCond .ne 10, 3) := by decide +kernel
theorem d_Mo_copy_7 : decode c_Mo_copy 7 = .ok (.iload_n 3, 1) := by decide +kernel
theorem d_Mo_copy_8 : decode c_Mo_copy 8 = .ok (.invokestatic 145, 3) := by decide +kernel
theorem d_Mo_copy_11 : decode c_Mo_copy 11 = .ok (.ifCond .eq 9, 3) := by decide +kernel
theorem d_Mo_copy_14 : decode c_Mo_copy 14 = .ok (.aload_n 0, 1) := by decide +kernel
theorem d_Mo_copy_15 : decode c_Mo_copy 15 = .ok (.iconst (-1), 1) := by decide +kernel
theorem d_Mo_copy_16 : decode c_Mo_copy 16 = .ok (.invokevirtual 149, 3) := by decide +kernel
theorem d_Mo_copy_19 : decode c_Mo_copy 19 = .ok (.ireturn, 1) := by decide +kernel
theorem d_Mo_copy_20 : decode c_Mo_copy 20 = .ok (.aload_n 0, 1) := by decide +kernel
theorem d_Mo_copy_21 : decode c_Mo_copy 21 = .ok (.getfield 79, 3) := by decide +kernel
theorem d_Mo_copy_24 : decode c_Mo_copy 24 = .ok (.iload_n 1, 1) := by decide +kernel
theorem d_Mo_copy_25 : decode c_Mo_copy 25 = .ok (.iaload, 1) := by decide +kernel
theorem d_Mo_copy_26 : decode c_Mo_copy 26 = .ok (.ifCond .lt 12, 3) := by decide +kernel
theorem d_Mo_copy_29 : decode c_Mo_copy 29 = .ok (.aload_n 0, 1) := by decide +kernel
theorem d_Mo_copy_30 : decode c_Mo_copy 30 = .ok (.getfield 79, 3) := by decide +kernel
theorem d_Mo_copy_33 : decode c_Mo_copy 33 = .ok (.iload_n 3, 1) := by decide +kernel
theorem d_Mo_copy_34 : decode c_Mo_copy 34 = .ok (.iaload, 1) := by decide +kernel
theorem d_Mo_copy_35 : decode c_Mo_copy 35 = .ok (.ifCond .ge 9, 3) := by decide +kernel
theorem d_Mo_copy_38 : decode c_Mo_copy 38 = .ok (.aload_n 0, 1) := by decide +kernel
theorem d_Mo_copy_39 : decode c_Mo_copy 39 = .ok (.iconst 1, 1) := by decide +kernel
theorem d_Mo_copy_40 : decode c_Mo_copy 40 = .ok (.invokevirtual 137, 3) := by decide +kernel
theorem d_Mo_copy_43 : decode c_Mo_copy 43 = .ok (.ireturn, 1) := by decide +kernel
theorem d_Mo_copy_44 : decode c_Mo_copy 44 = .ok (.aload_n 0, 1) := by decide +kernel
theorem d_Mo_copy_45 : decode c_Mo_copy 45 = .ok (.getfield 82, 3) := by decide +kernel
theorem d_Mo_copy_48 : decode c_Mo_copy 48 = .ok (.iload_n 1, 1) := by decide +kernel
theorem d_Mo_copy_49 : decode c_Mo_copy 49 = .ok (.iaload, 1) := by decide +kernel
theorem d_Mo_copy_50 : decode c_Mo_copy 50 = .ok (.aload_n 0, 1) := by decide +kernel
theorem d_Mo_copy_51 : decode c_Mo_copy 51 = .ok (.getfield 82, 3) := by decide +kernel
theorem d_Mo_copy_54 : decode c_Mo_copy 54 = .ok (.iload_n 3, 1) := by decide +kernel
theorem d_Mo_copy_55 : decode c_Mo_copy 55 = .ok (.iaload, 1) := by decide +kernel
theorem d_Mo_copy_56 : decode c_Mo_copy 56 = .ok (.if_icmp .eq 9, 3) := by decide +kernel
theorem d_Mo_copy_59 : decode c_Mo_copy 59 = .ok (.aload_n 0, 1) := by decide +kernel
theorem d_Mo_copy_60 : decode c_Mo_copy 60 = .ok (.iconst 2, 1) := by decide +kernel
theorem d_Mo_copy_61 : decode c_Mo_copy 61 = .ok (.invokevirtual 137, 3) := by decide +kernel
theorem d_Mo_copy_64 : decode c_Mo_copy 64 = .ok (.ireturn, 1) := by decide +kernel
theorem d_Mo_copy_65 : decode c_Mo_copy 65 = .ok (.iload_n 2, 1) := by decide +kernel
theorem d_Mo_copy_66 : decode c_Mo_copy 66 = .ok (.iload 5, 2) := by decide +kernel
theorem d_Mo_copy_68 : decode c_Mo_copy 68 = .ok (.i2l, 1) := by decide +kernel
theorem d_Mo_copy_69 : decode c_Mo_copy 69 = .ok (.aload_n 0, 1) := by decide +kernel
theorem d_Mo_copy_70 : decode c_Mo_copy 70 = .ok (.getfield 79, 3) := by decide +kernel
theorem d_Mo_copy_73 : decode c_Mo_copy 73 = .ok (.iload_n 1, 1) := by decide +kernel
theorem d_Mo_copy_74 : decode c_Mo_copy 74 = .ok (.iaload, 1) := by decide +kernel
theorem d_Mo_copy_75 : decode c_Mo_copy 75 = .ok (.invokestatic 141, 3) := by decide +kernel
theorem d_Mo_copy_78 : decode c_Mo_copy 78 = .ok (.ifCond .ne 20, 3) := by decide +kernel
theorem d_Mo_copy_81 : decode c_Mo_copy 81 = .ok (.iload 4, 2) := by decide +kernel
theorem d_Mo_copy_83 : decode c_Mo_copy 83 = .ok (.iload 5, 2) := by decide +kernel
theorem d_Mo_copy_85 : decode c_Mo_copy 85 = .ok (.i2l, 1) := by decide +kernel
theorem d_Mo_copy_86 : decode c_Mo_copy 86 = .ok (.aload_n 0, 1) := by decide +kernel
theorem d_Mo_copy_87 : decode c_Mo_copy 87 = .ok (.getfield 79, 3) := by decide +kernel
theorem d_Mo_copy_90 : decode c_Mo_copy 90 = .ok (.iload_n 3, 1) := by decide +kernel
theorem d_Mo_copy_91 : decode c_Mo_copy 91 = .ok (.iaload, 1) := by decide +kernel
theorem d_Mo_copy_92 : decode c_Mo_copy 92 = .ok (.invokestatic 141, 3) := by decide +kernel
theorem d_Mo_copy_95 : decode c_Mo_copy 95 = .ok (.ifCond .eq 9, 3) := by decide +kernel
theorem d_Mo_copy_98 : decode c_Mo_copy 98 = .ok (.aload_n 0, 1) := by decide +kernel
theorem d_Mo_copy_99 : decode c_Mo_copy 99 = .ok (.iconst 3, 1) := by decide +kernel
theorem d_Mo_copy_100 : decode c_Mo_copy 100 = .ok (.invokevirtual 137, 3) := by decide +kernel
theorem d_Mo_copy_103 : decode c_Mo_copy 103 = .ok (.ireturn, 1) := by decide +kernel
theorem d_Mo_copy_104 : decode c_Mo_copy 104 = .ok (.iconst 0, 1) := by decide +kernel
theorem d_Mo_copy_105 : decode c_Mo_copy 105 = .ok (.istore 6, 2) := by decide +kernel
theorem d_Mo_copy_107 : decode c_Mo_copy 107 = .ok (.iload 6, 2) := by decide +kernel
theorem d_Mo_copy_109 : decode c_Mo_copy 109 = .ok (.iload 5, 2) := by decide +kernel
theorem d_Mo_copy_111 : decode c_Mo_copy 111 = .ok (.if_icmp .ge 30, 3) := by decide +kernel
theorem d_Mo_copy_114 : decode c_Mo_copy 114 = .ok (.aload_n 0, 1) := by decide +kernel
theorem d_Mo_copy_115 : decode c_Mo_copy 115 = .ok (.getfield 88, 3) := by decide +kernel
theorem d_Mo_copy_118 : decode c_Mo_copy 118 = .ok (.iload 6, 2) := by decide +kernel
theorem d_Mo_copy_120 : decode c_Mo_copy 120 = .ok (.aload_n 0, 1) := by decide +kernel
theorem d_Mo_copy_121 : decode c_Mo_copy 121 = .ok (.getfield 85, 3) := by decide +kernel
theorem d_Mo_copy_124 : decode c_Mo_copy 124 = .ok (.bipush 60, 2) := by decide +kernel
theorem d_Mo_copy_126 : decode c_Mo_copy 126 = .ok (.iload_n 1, 1) := by decide +kernel
theorem d_Mo_copy_127 : decode c_Mo_copy 127 = .ok (.imul, 1) := by decide +kernel
theorem d_Mo_copy_128 : decode c_Mo_copy 128 = .ok (.iload_n 2, 1) := by decide +kernel
theorem d_Mo_copy_129 : decode c_Mo_copy 129 = .ok (.iadd, 1) := by decide +kernel
theorem d_Mo_copy_130 : decode c_Mo_copy 130 = .ok (.iload 6, 2) := by decide +kernel
theorem d_Mo_copy_132 : decode c_Mo_copy 132 = .ok (.iadd, 1) := by decide +kernel
theorem d_Mo_copy_133 : decode c_Mo_copy 133 = .ok (.iaload, 1) := by decide +kernel
theorem d_Mo_copy_134 : decode c_Mo_copy 134 = .ok (.iastore, 1) := by decide +kernel
theorem d_Mo_copy_135 : decode c_Mo_copy 135 = .ok (.iinc 6 1, 3) := by decide +kernel
theorem d_Mo_copy_138 : decode c_Mo_copy 138 = .ok (.goto (-31), 3) := by decide +kernel
theorem d_Mo_copy_141 : decode c_Mo_copy 141 = .ok (.iconst 0, 1) := by decide +kernel
theorem d_Mo_copy_142 : decode c_Mo_copy 142 = .ok (.istore 6, 2) := by decide +kernel
theorem d_Mo_copy_144 : decode c_Mo_copy 144 = .ok (.iload 6, 2) := by decide +kernel
theorem d_Mo_copy_146 : decode c_Mo_copy 146 = .ok (.iload 5, 2) := by decide +kernel
theorem d_Mo_copy_148 : decode c_Mo_copy 148 = .ok (.if_icmp .ge 31, 3) := by decide +kernel
theorem d_Mo_copy_151 : decode c_Mo_copy 151 = .ok (.aload_n 0, 1) := by decide +kernel
theorem d_Mo_copy_152 : decode c_Mo_copy 152 = .ok (.getfield 85, 3) := by decide +kernel
theorem d_Mo_copy_155 : decode c_Mo_copy 155 = .ok (.bipush 60, 2) := by decide +kernel
theorem d_Mo_copy_157 : decode c_Mo_copy 157 = .ok (.iload_n 3, 1) := by decide +kernel
theorem d_Mo_copy_158 : decode c_Mo_copy 158 = .ok (.imul, 1) := by decide +kernel
theorem d_Mo_copy_159 : decode c_Mo_copy 159 = .ok (.iload 4, 2) := by decide +kernel
theorem d_Mo_copy_161 : decode c_Mo_copy 161 = .ok (.iadd, 1) := by decide +kernel
theorem d_Mo_copy_162 : decode c_Mo_copy 162 = .ok (.iload 6, 2) := by decide +kernel
theorem d_Mo_copy_164 : decode c_Mo_copy 164 = .ok (.iadd, 1) := by decide +kernel
theorem d_Mo_copy_165 : decode c_Mo_copy 165 = .ok (.aload_n 0, 1) := by decide +kernel
theorem d_Mo_copy_166 : decode c_Mo_copy 166 = .ok (.getfield 88, 3) := by decide +kernel
theorem d_Mo_copy_169 : decode c_Mo_copy 169 = .ok (.iload 6, 2) := by decide +kernel
theorem d_Mo_copy_171 : decode c_Mo_copy 171 = .ok (.iaload, 1) := by decide +kernel
theorem d_Mo_copy_172 : decode c_Mo_copy 172 = .ok (.iastore, 1) := by decide +kernel
theorem d_Mo_copy_173 : decode c_Mo_copy 173 = .ok (.iinc 6 1, 3) := by decide +kernel
theorem d_Mo_copy_176 : decode c_Mo_copy 176 = .ok (.goto (-32), 3) := by decide +kernel
theorem d_Mo_copy_179 : decode c_Mo_copy 179 = .ok (.aload_n 0, 1) := by decide +kernel
theorem d_Mo_copy_180 : decode c_Mo_copy 180 = .ok (.iload 5, 2) := by decide +kernel
theorem d_Mo_copy_182 : decode c_Mo_copy 182 = .ok (.invokevirtual 149, 3) := by decide +kernel
theorem d_Mo_copy_185 : decode c_Mo_copy 185 = .ok (.ireturn, 1) := by decide +kernel
theorem C_Mo_copy_o1 {M : MM} {x : Int32} (hx : rg x 0 3 = false) {i p j n : Int32} : AF y_Mo_copy c_Mo_copy 7 (some .int) 3 [vR 36, vI x, vI i, vI p, vI j, vI n] (M) (some (vI (-1))) (upM M 36 0 0) := by
  refine AF.of k_Mo_copy (lo := [some (vR 36), some (vI x), some (vI i), some (vI p), some (vI j), some (vI n), none]) rfl (Nat.le_of_ble_eq_true rfl) (fun X hX hR => ?_)
  refine v_iload_n (pc := 0) hX rfl d_Mo_copy_0 ?_
  refine f_callS (pc := 1) hX k_Mo_noSheet ks_Mo_noSheet ml_Mo_145 (C_Mo_noSheet) rfl rfl rfl (Nat.le_of_ble_eq_true rfl) (Nat.le_of_ble_eq_true rfl) (Nat.le_of_ble_eq_true rfl) d_Mo_copy_1 ?_
  rw [hx]
  refine f_ifneB (pc := 4) (tgt := 14) hX d_Mo_copy_4 rfl (fun h4 => ?_) (fun h4 => False.elim (absurd h4 (by decide)))
  refine v_aload_n (pc := 14) hX rfl d_Mo_copy_14 ?_
  refine v_iconst (pc := 15) (v := (-1)) hX (by decide) d_Mo_copy_15 ?_
  refine f_callV (pc := 16) hX k_Mo_refused ki_Mo_refused kv_Mo_refused ml_Mo_149 (C_Mo_refused) rfl rfl rfl rfl rfl (Nat.le_of_ble_eq_true rfl) (Nat.le_of_ble_eq_true rfl) (Nat.le_of_ble_eq_true rfl) d_Mo_copy_16 ?_
  exact f_iret (pc := 19) hX hR (rfl) (rfl) d_Mo_copy_19
theorem C_Mo_copy_o2 {M : MM} {k : Nat} {x : Int32} (hx : rg x 0 3 = false) (hk : k < 4) {i j n : Int32} : AF y_Mo_copy c_Mo_copy 7 (some .int) 3 [vR 36, vI (i3 k), vI i, vI x, vI j, vI n] (M) (some (vI (-1))) (upM M 36 0 0) := by
  refine AF.of k_Mo_copy (lo := [some (vR 36), some (vI (i3 k)), some (vI i), some (vI x), some (vI j), some (vI n), none]) rfl (Nat.le_of_ble_eq_true rfl) (fun X hX hR => ?_)
  refine v_iload_n (pc := 0) hX rfl d_Mo_copy_0 ?_
  refine f_callS (pc := 1) hX k_Mo_noSheet ks_Mo_noSheet ml_Mo_145 (C_Mo_noSheet) rfl rfl rfl (Nat.le_of_ble_eq_true rfl) (Nat.le_of_ble_eq_true rfl) (Nat.le_of_ble_eq_true rfl) d_Mo_copy_1 ?_
  rw [show rg (i3 k) 0 3 = true from rg_i3 (n := 4) hk (by decide)]
  refine f_ifneB (pc := 4) (tgt := 14) hX d_Mo_copy_4 rfl (fun h4 => False.elim (absurd h4 (by decide))) (fun h4 => ?_)
  refine v_iload_n (pc := 7) hX rfl d_Mo_copy_7 ?_
  refine f_callS (pc := 8) hX k_Mo_noSheet ks_Mo_noSheet ml_Mo_145 (C_Mo_noSheet) rfl rfl rfl (Nat.le_of_ble_eq_true rfl) (Nat.le_of_ble_eq_true rfl) (Nat.le_of_ble_eq_true rfl) d_Mo_copy_8 ?_
  rw [hx]
  refine f_ifeqB (pc := 11) (tgt := 20) hX d_Mo_copy_11 rfl (fun h11 => False.elim (absurd h11 (by decide))) (fun h11 => ?_)
  refine v_aload_n (pc := 14) hX rfl d_Mo_copy_14 ?_
  refine v_iconst (pc := 15) (v := (-1)) hX (by decide) d_Mo_copy_15 ?_
  refine f_callV (pc := 16) hX k_Mo_refused ki_Mo_refused kv_Mo_refused ml_Mo_149 (C_Mo_refused) rfl rfl rfl rfl rfl (Nat.le_of_ble_eq_true rfl) (Nat.le_of_ble_eq_true rfl) (Nat.le_of_ble_eq_true rfl) d_Mo_copy_16 ?_
  exact f_iret (pc := 19) hX hR (rfl) (rfl) d_Mo_copy_19
theorem C_Mo_copy_null1 {M : MM} {k p : Nat} {zs : Nat → Nat} {ln : Nat → Int32} {C : JT} (hZ : MZ M zs ln C) (hk : k < 4) (hp : p < 4) {i j n : Int32} (h0 : zs k = 0) : AF y_Mo_copy c_Mo_copy 7 (some .int) 3 [vR 36, vI (i3 k), vI i, vI (i3 p), vI j, vI n] (M) (some (vI (-11))) (upM M 36 0 1) := by
  obtain ⟨z1, z2, z3⟩ := hZ k hk
  obtain ⟨w1, w2, w3⟩ := hZ p hp
  refine AF.of k_Mo_copy (lo := [some (vR 36), some (vI (i3 k)), some (vI i), some (vI (i3 p)), some (vI j), some (vI n), none]) rfl (Nat.le_of_ble_eq_true rfl) (fun X hX hR => ?_)
  refine v_iload_n (pc := 0) hX rfl d_Mo_copy_0 ?_
  refine f_callS (pc := 1) hX k_Mo_noSheet ks_Mo_noSheet ml_Mo_145 (C_Mo_noSheet) rfl rfl rfl (Nat.le_of_ble_eq_true rfl) (Nat.le_of_ble_eq_true rfl) (Nat.le_of_ble_eq_true rfl) d_Mo_copy_1 ?_
  rw [show rg (i3 k) 0 3 = true from rg_i3 (n := 4) hk (by decide)]
  refine f_ifneB (pc := 4) (tgt := 14) hX d_Mo_copy_4 rfl (fun h4 => False.elim (absurd h4 (by decide))) (fun h4 => ?_)
  refine v_iload_n (pc := 7) hX rfl d_Mo_copy_7 ?_
  refine f_callS (pc := 8) hX k_Mo_noSheet ks_Mo_noSheet ml_Mo_145 (C_Mo_noSheet) rfl rfl rfl (Nat.le_of_ble_eq_true rfl) (Nat.le_of_ble_eq_true rfl) (Nat.le_of_ble_eq_true rfl) d_Mo_copy_8 ?_
  rw [show rg (i3 p) 0 3 = true from rg_i3 (n := 4) hp (by decide)]
  refine f_ifeqB (pc := 11) (tgt := 20) hX d_Mo_copy_11 rfl (fun h11 => ?_) (fun h11 => False.elim (absurd h11 (by decide)))
  refine v_aload_n (pc := 20) hX rfl d_Mo_copy_20 ?_
  refine g_getR (pc := 21) hX fl_Mo_79 rfl rfl nf_36_31 d_Mo_copy_21 ?_
  refine v_iload_n (pc := 24) hX rfl d_Mo_copy_24 ?_
  refine g_iald (pc := 25) hX rfl (IX.of (n := 4) (by omega) (by decide)) d_Mo_copy_25 ?_
  rw [z2, if_pos h0]
  refine v_if_lt (pc := 26) (tgt := 38) hX d_Mo_copy_26 rfl (fun h26 => ?_) (fun h26 => False.elim (h26 (by decide)))
  refine v_aload_n (pc := 38) hX rfl d_Mo_copy_38 ?_
  refine v_iconst (pc := 39) (v := 1) hX (by decide) d_Mo_copy_39 ?_
  refine f_callV (pc := 40) hX k_Mo_failed ki_Mo_failed kv_Mo_failed ml_Mo_137 (C_Mo_failed) rfl rfl rfl rfl rfl (Nat.le_of_ble_eq_true rfl) (Nat.le_of_ble_eq_true rfl) (Nat.le_of_ble_eq_true rfl) d_Mo_copy_40 ?_
  exact f_iret (pc := 43) hX hR (rfl) (rfl) d_Mo_copy_43
theorem C_Mo_copy_null2 {M : MM} {k p : Nat} {zs : Nat → Nat} {ln : Nat → Int32} {C : JT} (hZ : MZ M zs ln C) (hk : k < 4) (hp : p < 4) {i j n : Int32} (hz : zs k ≠ 0) (h0 : zs p = 0) : AF y_Mo_copy c_Mo_copy 7 (some .int) 3 [vR 36, vI (i3 k), vI i, vI (i3 p), vI j, vI n] (M) (some (vI (-11))) (upM M 36 0 1) := by
  obtain ⟨z1, z2, z3⟩ := hZ k hk
  obtain ⟨w1, w2, w3⟩ := hZ p hp
  refine AF.of k_Mo_copy (lo := [some (vR 36), some (vI (i3 k)), some (vI i), some (vI (i3 p)), some (vI j), some (vI n), none]) rfl (Nat.le_of_ble_eq_true rfl) (fun X hX hR => ?_)
  refine v_iload_n (pc := 0) hX rfl d_Mo_copy_0 ?_
  refine f_callS (pc := 1) hX k_Mo_noSheet ks_Mo_noSheet ml_Mo_145 (C_Mo_noSheet) rfl rfl rfl (Nat.le_of_ble_eq_true rfl) (Nat.le_of_ble_eq_true rfl) (Nat.le_of_ble_eq_true rfl) d_Mo_copy_1 ?_
  rw [show rg (i3 k) 0 3 = true from rg_i3 (n := 4) hk (by decide)]
  refine f_ifneB (pc := 4) (tgt := 14) hX d_Mo_copy_4 rfl (fun h4 => False.elim (absurd h4 (by decide))) (fun h4 => ?_)
  refine v_iload_n (pc := 7) hX rfl d_Mo_copy_7 ?_
  refine f_callS (pc := 8) hX k_Mo_noSheet ks_Mo_noSheet ml_Mo_145 (C_Mo_noSheet) rfl rfl rfl (Nat.le_of_ble_eq_true rfl) (Nat.le_of_ble_eq_true rfl) (Nat.le_of_ble_eq_true rfl) d_Mo_copy_8 ?_
  rw [show rg (i3 p) 0 3 = true from rg_i3 (n := 4) hp (by decide)]
  refine f_ifeqB (pc := 11) (tgt := 20) hX d_Mo_copy_11 rfl (fun h11 => ?_) (fun h11 => False.elim (absurd h11 (by decide)))
  refine v_aload_n (pc := 20) hX rfl d_Mo_copy_20 ?_
  refine g_getR (pc := 21) hX fl_Mo_79 rfl rfl nf_36_31 d_Mo_copy_21 ?_
  refine v_iload_n (pc := 24) hX rfl d_Mo_copy_24 ?_
  refine g_iald (pc := 25) hX rfl (IX.of (n := 4) (by omega) (by decide)) d_Mo_copy_25 ?_
  rw [z2, if_neg hz]
  refine v_if_lt (pc := 26) (tgt := 38) hX d_Mo_copy_26 rfl (fun h26 => False.elim (by have := (i3_lt (b := 0) (by omega) (by decide)).mp h26; omega)) (fun h26 => ?_)
  refine v_aload_n (pc := 29) hX rfl d_Mo_copy_29 ?_
  refine g_getR (pc := 30) hX fl_Mo_79 rfl rfl nf_36_31 d_Mo_copy_30 ?_
  refine v_iload_n (pc := 33) hX rfl d_Mo_copy_33 ?_
  refine g_iald (pc := 34) hX rfl (IX.of (n := 4) (by omega) (by decide)) d_Mo_copy_34 ?_
  rw [w2, if_pos h0]
  refine v_if_ge (pc := 35) (tgt := 44) hX d_Mo_copy_35 rfl (fun h35 => False.elim (absurd h35 (by decide))) (fun h35 => ?_)
  refine v_aload_n (pc := 38) hX rfl d_Mo_copy_38 ?_
  refine v_iconst (pc := 39) (v := 1) hX (by decide) d_Mo_copy_39 ?_
  refine f_callV (pc := 40) hX k_Mo_failed ki_Mo_failed kv_Mo_failed ml_Mo_137 (C_Mo_failed) rfl rfl rfl rfl rfl (Nat.le_of_ble_eq_true rfl) (Nat.le_of_ble_eq_true rfl) (Nat.le_of_ble_eq_true rfl) d_Mo_copy_40 ?_
  exact f_iret (pc := 43) hX hR (rfl) (rfl) d_Mo_copy_43
theorem C_Mo_copy_cast {M : MM} {k p : Nat} {zs : Nat → Nat} {ln : Nat → Int32} {C : JT} (hZ : MZ M zs ln C) (hk : k < 4) (hp : p < 4) {i j n : Int32} (hz : zs k ≠ 0) (hz2 : zs p ≠ 0) (hl : ¬ ln k = ln p) : AF y_Mo_copy c_Mo_copy 7 (some .int) 3 [vR 36, vI (i3 k), vI i, vI (i3 p), vI j, vI n] (M) (some (vI (-12))) (upM M 36 0 2) := by
  obtain ⟨z1, z2, z3⟩ := hZ k hk
  obtain ⟨w1, w2, w3⟩ := hZ p hp
  refine AF.of k_Mo_copy (lo := [some (vR 36), some (vI (i3 k)), some (vI i), some (vI (i3 p)), some (vI j), some (vI n), none]) rfl (Nat.le_of_ble_eq_true rfl) (fun X hX hR => ?_)
  refine v_iload_n (pc := 0) hX rfl d_Mo_copy_0 ?_
  refine f_callS (pc := 1) hX k_Mo_noSheet ks_Mo_noSheet ml_Mo_145 (C_Mo_noSheet) rfl rfl rfl (Nat.le_of_ble_eq_true rfl) (Nat.le_of_ble_eq_true rfl) (Nat.le_of_ble_eq_true rfl) d_Mo_copy_1 ?_
  rw [show rg (i3 k) 0 3 = true from rg_i3 (n := 4) hk (by decide)]
  refine f_ifneB (pc := 4) (tgt := 14) hX d_Mo_copy_4 rfl (fun h4 => False.elim (absurd h4 (by decide))) (fun h4 => ?_)
  refine v_iload_n (pc := 7) hX rfl d_Mo_copy_7 ?_
  refine f_callS (pc := 8) hX k_Mo_noSheet ks_Mo_noSheet ml_Mo_145 (C_Mo_noSheet) rfl rfl rfl (Nat.le_of_ble_eq_true rfl) (Nat.le_of_ble_eq_true rfl) (Nat.le_of_ble_eq_true rfl) d_Mo_copy_8 ?_
  rw [show rg (i3 p) 0 3 = true from rg_i3 (n := 4) hp (by decide)]
  refine f_ifeqB (pc := 11) (tgt := 20) hX d_Mo_copy_11 rfl (fun h11 => ?_) (fun h11 => False.elim (absurd h11 (by decide)))
  refine v_aload_n (pc := 20) hX rfl d_Mo_copy_20 ?_
  refine g_getR (pc := 21) hX fl_Mo_79 rfl rfl nf_36_31 d_Mo_copy_21 ?_
  refine v_iload_n (pc := 24) hX rfl d_Mo_copy_24 ?_
  refine g_iald (pc := 25) hX rfl (IX.of (n := 4) (by omega) (by decide)) d_Mo_copy_25 ?_
  rw [z2, if_neg hz]
  refine v_if_lt (pc := 26) (tgt := 38) hX d_Mo_copy_26 rfl (fun h26 => False.elim (by have := (i3_lt (b := 0) (by omega) (by decide)).mp h26; omega)) (fun h26 => ?_)
  refine v_aload_n (pc := 29) hX rfl d_Mo_copy_29 ?_
  refine g_getR (pc := 30) hX fl_Mo_79 rfl rfl nf_36_31 d_Mo_copy_30 ?_
  refine v_iload_n (pc := 33) hX rfl d_Mo_copy_33 ?_
  refine g_iald (pc := 34) hX rfl (IX.of (n := 4) (by omega) (by decide)) d_Mo_copy_34 ?_
  rw [w2, if_neg hz2]
  refine v_if_ge (pc := 35) (tgt := 44) hX d_Mo_copy_35 rfl (fun h35 => ?_) (fun h35 => False.elim (h35 ((i3_le (a := 0) (by decide) (by omega)).mpr (Nat.zero_le _))))
  refine v_aload_n (pc := 44) hX rfl d_Mo_copy_44 ?_
  refine g_getR (pc := 45) hX fl_Mo_82 rfl rfl nf_36_32 d_Mo_copy_45 ?_
  refine v_iload_n (pc := 48) hX rfl d_Mo_copy_48 ?_
  refine g_iald (pc := 49) hX rfl (IX.of (n := 4) (by omega) (by decide)) d_Mo_copy_49 ?_
  rw [(z3 hz).1]
  refine v_aload_n (pc := 50) hX rfl d_Mo_copy_50 ?_
  refine g_getR (pc := 51) hX fl_Mo_82 rfl rfl nf_36_32 d_Mo_copy_51 ?_
  refine v_iload_n (pc := 54) hX rfl d_Mo_copy_54 ?_
  refine g_iald (pc := 55) hX rfl (IX.of (n := 4) (by omega) (by decide)) d_Mo_copy_55 ?_
  rw [(w3 hz2).1]
  refine v_icmp_eq (pc := 56) (tgt := 65) hX d_Mo_copy_56 rfl (fun h56 => False.elim (hl h56)) (fun h56 => ?_)
  refine v_aload_n (pc := 59) hX rfl d_Mo_copy_59 ?_
  refine v_iconst (pc := 60) (v := 2) hX (by decide) d_Mo_copy_60 ?_
  refine f_callV (pc := 61) hX k_Mo_failed ki_Mo_failed kv_Mo_failed ml_Mo_137 (C_Mo_failed) rfl rfl rfl rfl rfl (Nat.le_of_ble_eq_true rfl) (Nat.le_of_ble_eq_true rfl) (Nat.le_of_ble_eq_true rfl) d_Mo_copy_61 ?_
  exact f_iret (pc := 64) hX hR (rfl) (rfl) d_Mo_copy_64
theorem C_Mo_copy_ix {M : MM} {k p : Nat} {zs : Nat → Nat} {ln : Nat → Int32} {C : JT} (hZ : MZ M zs ln C) (hk : k < 4) (hp : p < 4) {i j n : Int32} (hz : zs k ≠ 0) (hz2 : zs p ≠ 0) (hl : ln k = ln p) (hh : (hcB (i3 (zs k - 1)) i n && hcB (i3 (zs p - 1)) j n) = false) : AF y_Mo_copy c_Mo_copy 7 (some .int) 3 [vR 36, vI (i3 k), vI i, vI (i3 p), vI j, vI n] (M) (some (vI (-13))) (upM M 36 0 3) := by
  obtain ⟨z1, z2, z3⟩ := hZ k hk
  obtain ⟨w1, w2, w3⟩ := hZ p hp
  refine AF.of k_Mo_copy (lo := [some (vR 36), some (vI (i3 k)), some (vI i), some (vI (i3 p)), some (vI j), some (vI n), none]) rfl (Nat.le_of_ble_eq_true rfl) (fun X hX hR => ?_)
  refine v_iload_n (pc := 0) hX rfl d_Mo_copy_0 ?_
  refine f_callS (pc := 1) hX k_Mo_noSheet ks_Mo_noSheet ml_Mo_145 (C_Mo_noSheet) rfl rfl rfl (Nat.le_of_ble_eq_true rfl) (Nat.le_of_ble_eq_true rfl) (Nat.le_of_ble_eq_true rfl) d_Mo_copy_1 ?_
  rw [show rg (i3 k) 0 3 = true from rg_i3 (n := 4) hk (by decide)]
  refine f_ifneB (pc := 4) (tgt := 14) hX d_Mo_copy_4 rfl (fun h4 => False.elim (absurd h4 (by decide))) (fun h4 => ?_)
  refine v_iload_n (pc := 7) hX rfl d_Mo_copy_7 ?_
  refine f_callS (pc := 8) hX k_Mo_noSheet ks_Mo_noSheet ml_Mo_145 (C_Mo_noSheet) rfl rfl rfl (Nat.le_of_ble_eq_true rfl) (Nat.le_of_ble_eq_true rfl) (Nat.le_of_ble_eq_true rfl) d_Mo_copy_8 ?_
  rw [show rg (i3 p) 0 3 = true from rg_i3 (n := 4) hp (by decide)]
  refine f_ifeqB (pc := 11) (tgt := 20) hX d_Mo_copy_11 rfl (fun h11 => ?_) (fun h11 => False.elim (absurd h11 (by decide)))
  refine v_aload_n (pc := 20) hX rfl d_Mo_copy_20 ?_
  refine g_getR (pc := 21) hX fl_Mo_79 rfl rfl nf_36_31 d_Mo_copy_21 ?_
  refine v_iload_n (pc := 24) hX rfl d_Mo_copy_24 ?_
  refine g_iald (pc := 25) hX rfl (IX.of (n := 4) (by omega) (by decide)) d_Mo_copy_25 ?_
  rw [z2, if_neg hz]
  refine v_if_lt (pc := 26) (tgt := 38) hX d_Mo_copy_26 rfl (fun h26 => False.elim (by have := (i3_lt (b := 0) (by omega) (by decide)).mp h26; omega)) (fun h26 => ?_)
  refine v_aload_n (pc := 29) hX rfl d_Mo_copy_29 ?_
  refine g_getR (pc := 30) hX fl_Mo_79 rfl rfl nf_36_31 d_Mo_copy_30 ?_
  refine v_iload_n (pc := 33) hX rfl d_Mo_copy_33 ?_
  refine g_iald (pc := 34) hX rfl (IX.of (n := 4) (by omega) (by decide)) d_Mo_copy_34 ?_
  rw [w2, if_neg hz2]
  refine v_if_ge (pc := 35) (tgt := 44) hX d_Mo_copy_35 rfl (fun h35 => ?_) (fun h35 => False.elim (h35 ((i3_le (a := 0) (by decide) (by omega)).mpr (Nat.zero_le _))))
  refine v_aload_n (pc := 44) hX rfl d_Mo_copy_44 ?_
  refine g_getR (pc := 45) hX fl_Mo_82 rfl rfl nf_36_32 d_Mo_copy_45 ?_
  refine v_iload_n (pc := 48) hX rfl d_Mo_copy_48 ?_
  refine g_iald (pc := 49) hX rfl (IX.of (n := 4) (by omega) (by decide)) d_Mo_copy_49 ?_
  rw [(z3 hz).1]
  refine v_aload_n (pc := 50) hX rfl d_Mo_copy_50 ?_
  refine g_getR (pc := 51) hX fl_Mo_82 rfl rfl nf_36_32 d_Mo_copy_51 ?_
  refine v_iload_n (pc := 54) hX rfl d_Mo_copy_54 ?_
  refine g_iald (pc := 55) hX rfl (IX.of (n := 4) (by omega) (by decide)) d_Mo_copy_55 ?_
  rw [(w3 hz2).1]
  refine v_icmp_eq (pc := 56) (tgt := 65) hX d_Mo_copy_56 rfl (fun h56 => ?_) (fun h56 => False.elim (h56 hl))
  refine v_iload_n (pc := 65) hX rfl d_Mo_copy_65 ?_
  refine v_iload (pc := 66) hX rfl d_Mo_copy_66 ?_
  refine v_i2l (pc := 68) hX d_Mo_copy_68 ?_
  refine v_aload_n (pc := 69) hX rfl d_Mo_copy_69 ?_
  refine g_getR (pc := 70) hX fl_Mo_79 rfl rfl nf_36_31 d_Mo_copy_70 ?_
  refine v_iload_n (pc := 73) hX rfl d_Mo_copy_73 ?_
  refine g_iald (pc := 74) hX rfl (IX.of (n := 4) (by omega) (by decide)) d_Mo_copy_74 ?_
  rw [z2, if_neg hz]
  refine f_callS (pc := 75) hX k_Mo_isBeyond ks_Mo_isBeyond ml_Mo_141 (C_Mo_isBeyond (n := n) (by omega) (Int32.toInt_toInt64 _)) rfl rfl rfl (Nat.le_of_ble_eq_true rfl) (Nat.le_of_ble_eq_true rfl) (Nat.le_of_ble_eq_true rfl) d_Mo_copy_75 ?_
  refine f_ifneB (pc := 78) (tgt := 98) hX d_Mo_copy_78 rfl (fun h78 => ?_) (fun h78 => ?_)
  · refine v_aload_n (pc := 98) hX rfl d_Mo_copy_98 ?_
    refine v_iconst (pc := 99) (v := 3) hX (by decide) d_Mo_copy_99 ?_
    refine f_callV (pc := 100) hX k_Mo_failed ki_Mo_failed kv_Mo_failed ml_Mo_137 (C_Mo_failed) rfl rfl rfl rfl rfl (Nat.le_of_ble_eq_true rfl) (Nat.le_of_ble_eq_true rfl) (Nat.le_of_ble_eq_true rfl) d_Mo_copy_100 ?_
    exact f_iret (pc := 103) hX hR (rfl) (rfl) d_Mo_copy_103
  · refine v_iload (pc := 81) hX rfl d_Mo_copy_81 ?_
    refine v_iload (pc := 83) hX rfl d_Mo_copy_83 ?_
    refine v_i2l (pc := 85) hX d_Mo_copy_85 ?_
    refine v_aload_n (pc := 86) hX rfl d_Mo_copy_86 ?_
    refine g_getR (pc := 87) hX fl_Mo_79 rfl rfl nf_36_31 d_Mo_copy_87 ?_
    refine v_iload_n (pc := 90) hX rfl d_Mo_copy_90 ?_
    refine g_iald (pc := 91) hX rfl (IX.of (n := 4) (by omega) (by decide)) d_Mo_copy_91 ?_
    rw [w2, if_neg hz2]
    refine f_callS (pc := 92) hX k_Mo_isBeyond ks_Mo_isBeyond ml_Mo_141 (C_Mo_isBeyond (n := n) (by omega) (Int32.toInt_toInt64 _)) rfl rfl rfl (Nat.le_of_ble_eq_true rfl) (Nat.le_of_ble_eq_true rfl) (Nat.le_of_ble_eq_true rfl) d_Mo_copy_92 ?_
    refine f_ifeqB (pc := 95) (tgt := 104) hX d_Mo_copy_95 rfl (fun h95 => False.elim (by rw [show hcB (i3 (zs k - 1)) i n = true from by simpa using h78, show hcB (i3 (zs p - 1)) j n = true from by simpa using h95] at hh; cases hh)) (fun h95 => ?_)
    refine v_aload_n (pc := 98) hX rfl d_Mo_copy_98 ?_
    refine v_iconst (pc := 99) (v := 3) hX (by decide) d_Mo_copy_99 ?_
    refine f_callV (pc := 100) hX k_Mo_failed ki_Mo_failed kv_Mo_failed ml_Mo_137 (C_Mo_failed) rfl rfl rfl rfl rfl (Nat.le_of_ble_eq_true rfl) (Nat.le_of_ble_eq_true rfl) (Nat.le_of_ble_eq_true rfl) d_Mo_copy_100 ?_
    exact f_iret (pc := 103) hX hR (rfl) (rfl) d_Mo_copy_103
theorem C_Mo_copy_ok {M : MM} {k p : Nat} {zs : Nat → Nat} {ln : Nat → Int32} {C : JT} (hZ : MZ M zs ln C) (hk : k < 4) (hp : p < 4) {a b m : Nat} (hz : zs k ≠ 0) (hz2 : zs p ≠ 0) (hl : ln k = ln p) (h1 : a + m ≤ zs k - 1) (h2 : b + m ≤ zs p - 1) : AF y_Mo_copy c_Mo_copy 7 (some .int) 3 [vR 36, vI (i3 k), vI (i3 a), vI (i3 p), vI (i3 b), vI (i3 m)] (M) (some (vI (i3 m))) (upM (rwF (cpF M 63 (fun y => M 62 (60 * k + a + y)) m) 62 (60 * p + b) (fun y => M 62 (60 * k + a + y)) m) 36 0 0) := by
  obtain ⟨z1, z2, z3⟩ := hZ k hk
  obtain ⟨w1, w2, w3⟩ := hZ p hp
  refine AF.of k_Mo_copy (lo := [some (vR 36), some (vI (i3 k)), some (vI (i3 a)), some (vI (i3 p)), some (vI (i3 b)), some (vI (i3 m)), none]) rfl (Nat.le_of_ble_eq_true rfl) (fun X hX hR => ?_)
  refine v_iload_n (pc := 0) hX rfl d_Mo_copy_0 ?_
  refine f_callS (pc := 1) hX k_Mo_noSheet ks_Mo_noSheet ml_Mo_145 (C_Mo_noSheet) rfl rfl rfl (Nat.le_of_ble_eq_true rfl) (Nat.le_of_ble_eq_true rfl) (Nat.le_of_ble_eq_true rfl) d_Mo_copy_1 ?_
  rw [show rg (i3 k) 0 3 = true from rg_i3 (n := 4) hk (by decide)]
  refine f_ifneB (pc := 4) (tgt := 14) hX d_Mo_copy_4 rfl (fun h4 => False.elim (absurd h4 (by decide))) (fun h4 => ?_)
  refine v_iload_n (pc := 7) hX rfl d_Mo_copy_7 ?_
  refine f_callS (pc := 8) hX k_Mo_noSheet ks_Mo_noSheet ml_Mo_145 (C_Mo_noSheet) rfl rfl rfl (Nat.le_of_ble_eq_true rfl) (Nat.le_of_ble_eq_true rfl) (Nat.le_of_ble_eq_true rfl) d_Mo_copy_8 ?_
  rw [show rg (i3 p) 0 3 = true from rg_i3 (n := 4) hp (by decide)]
  refine f_ifeqB (pc := 11) (tgt := 20) hX d_Mo_copy_11 rfl (fun h11 => ?_) (fun h11 => False.elim (absurd h11 (by decide)))
  refine v_aload_n (pc := 20) hX rfl d_Mo_copy_20 ?_
  refine g_getR (pc := 21) hX fl_Mo_79 rfl rfl nf_36_31 d_Mo_copy_21 ?_
  refine v_iload_n (pc := 24) hX rfl d_Mo_copy_24 ?_
  refine g_iald (pc := 25) hX rfl (IX.of (n := 4) (by omega) (by decide)) d_Mo_copy_25 ?_
  rw [z2, if_neg hz]
  refine v_if_lt (pc := 26) (tgt := 38) hX d_Mo_copy_26 rfl (fun h26 => False.elim (by have := (i3_lt (b := 0) (by omega) (by decide)).mp h26; omega)) (fun h26 => ?_)
  refine v_aload_n (pc := 29) hX rfl d_Mo_copy_29 ?_
  refine g_getR (pc := 30) hX fl_Mo_79 rfl rfl nf_36_31 d_Mo_copy_30 ?_
  refine v_iload_n (pc := 33) hX rfl d_Mo_copy_33 ?_
  refine g_iald (pc := 34) hX rfl (IX.of (n := 4) (by omega) (by decide)) d_Mo_copy_34 ?_
  rw [w2, if_neg hz2]
  refine v_if_ge (pc := 35) (tgt := 44) hX d_Mo_copy_35 rfl (fun h35 => ?_) (fun h35 => False.elim (h35 ((i3_le (a := 0) (by decide) (by omega)).mpr (Nat.zero_le _))))
  refine v_aload_n (pc := 44) hX rfl d_Mo_copy_44 ?_
  refine g_getR (pc := 45) hX fl_Mo_82 rfl rfl nf_36_32 d_Mo_copy_45 ?_
  refine v_iload_n (pc := 48) hX rfl d_Mo_copy_48 ?_
  refine g_iald (pc := 49) hX rfl (IX.of (n := 4) (by omega) (by decide)) d_Mo_copy_49 ?_
  rw [(z3 hz).1]
  refine v_aload_n (pc := 50) hX rfl d_Mo_copy_50 ?_
  refine g_getR (pc := 51) hX fl_Mo_82 rfl rfl nf_36_32 d_Mo_copy_51 ?_
  refine v_iload_n (pc := 54) hX rfl d_Mo_copy_54 ?_
  refine g_iald (pc := 55) hX rfl (IX.of (n := 4) (by omega) (by decide)) d_Mo_copy_55 ?_
  rw [(w3 hz2).1]
  refine v_icmp_eq (pc := 56) (tgt := 65) hX d_Mo_copy_56 rfl (fun h56 => ?_) (fun h56 => False.elim (h56 hl))
  refine v_iload_n (pc := 65) hX rfl d_Mo_copy_65 ?_
  refine v_iload (pc := 66) hX rfl d_Mo_copy_66 ?_
  refine v_i2l (pc := 68) hX d_Mo_copy_68 ?_
  refine v_aload_n (pc := 69) hX rfl d_Mo_copy_69 ?_
  refine g_getR (pc := 70) hX fl_Mo_79 rfl rfl nf_36_31 d_Mo_copy_70 ?_
  refine v_iload_n (pc := 73) hX rfl d_Mo_copy_73 ?_
  refine g_iald (pc := 74) hX rfl (IX.of (n := 4) (by omega) (by decide)) d_Mo_copy_74 ?_
  rw [z2, if_neg hz]
  refine f_callS (pc := 75) hX k_Mo_isBeyond ks_Mo_isBeyond ml_Mo_141 (C_Mo_isBeyond (n := i3 m) (by omega) (Int32.toInt_toInt64 _)) rfl rfl rfl (Nat.le_of_ble_eq_true rfl) (Nat.le_of_ble_eq_true rfl) (Nat.le_of_ble_eq_true rfl) d_Mo_copy_75 ?_
  rw [hcB_i3 (by omega) h1]
  refine f_ifneB (pc := 78) (tgt := 98) hX d_Mo_copy_78 rfl (fun h78 => False.elim (absurd h78 (by decide))) (fun h78 => ?_)
  refine v_iload (pc := 81) hX rfl d_Mo_copy_81 ?_
  refine v_iload (pc := 83) hX rfl d_Mo_copy_83 ?_
  refine v_i2l (pc := 85) hX d_Mo_copy_85 ?_
  refine v_aload_n (pc := 86) hX rfl d_Mo_copy_86 ?_
  refine g_getR (pc := 87) hX fl_Mo_79 rfl rfl nf_36_31 d_Mo_copy_87 ?_
  refine v_iload_n (pc := 90) hX rfl d_Mo_copy_90 ?_
  refine g_iald (pc := 91) hX rfl (IX.of (n := 4) (by omega) (by decide)) d_Mo_copy_91 ?_
  rw [w2, if_neg hz2]
  refine f_callS (pc := 92) hX k_Mo_isBeyond ks_Mo_isBeyond ml_Mo_141 (C_Mo_isBeyond (n := i3 m) (by omega) (Int32.toInt_toInt64 _)) rfl rfl rfl (Nat.le_of_ble_eq_true rfl) (Nat.le_of_ble_eq_true rfl) (Nat.le_of_ble_eq_true rfl) d_Mo_copy_92 ?_
  rw [hcB_i3 (by omega) h2]
  refine f_ifeqB (pc := 95) (tgt := 104) hX d_Mo_copy_95 rfl (fun h95 => ?_) (fun h95 => False.elim (absurd h95 (by decide)))
  refine v_iconst (pc := 104) (v := 0) hX (by decide) d_Mo_copy_104 ?_
  refine v_istore (pc := 105) (lo' := [some (vR _), some (vI _), some (vI _), some (vI _), some (vI _), some (vI _), some (vI _)]) hX (Nat.le_of_ble_eq_true rfl) rfl d_Mo_copy_105 ?_
  refine VW.cast (lo' := [some (vR 36), some (vI (i3 k)), some (vI (i3 a)), some (vI (i3 p)), some (vI (i3 b)), some (vI (i3 m)), some (vI (i3 0))]) (st' := []) (G' := gM (cpF M 63 (fun y => M 62 (60 * k + a + y)) 0)) rfl rfl (by rw [cpF_0]) ?_
  refine v_for (X := X) (head := 107) (m) (fun kk => [some (vR 36), some (vI (i3 k)), some (vI (i3 a)), some (vI (i3 p)), some (vI (i3 b)), some (vI (i3 m)), some (vI (i3 kk))]) (fun kk => cpF M 63 (fun y => M 62 (60 * k + a + y)) kk) (fun y hy ih107 => ?_) ?_
  · show VW X 107 [some (vR 36), some (vI (i3 k)), some (vI (i3 a)), some (vI (i3 p)), some (vI (i3 b)), some (vI (i3 m)), some (vI (i3 y))] [] (gM (cpF M 63 (fun y => M 62 (60 * k + a + y)) y))
    refine v_iload (pc := 107) hX rfl d_Mo_copy_107 ?_
    refine v_iload (pc := 109) hX rfl d_Mo_copy_109 ?_
    refine v_icmp_ge (pc := 111) (tgt := 141) hX d_Mo_copy_111 rfl (fun h111 => False.elim (i3_ge_abs hy (by omega) h111)) (fun h111 => ?_)
    refine v_aload_n (pc := 114) hX rfl d_Mo_copy_114 ?_
    refine g_getR (pc := 115) hX fl_Mo_88 rfl rfl nf_36_34 d_Mo_copy_115 ?_
    refine v_iload (pc := 118) hX rfl d_Mo_copy_118 ?_
    refine v_aload_n (pc := 120) hX rfl d_Mo_copy_120 ?_
    refine g_getR (pc := 121) hX fl_Mo_85 rfl rfl nf_36_33 d_Mo_copy_121 ?_
    refine v_bipush (pc := 124) (v := 60) hX (by decide) d_Mo_copy_124 ?_
    refine v_iload_n (pc := 126) hX rfl d_Mo_copy_126 ?_
    refine v_imul (pc := 127) hX d_Mo_copy_127 ?_
    refine v_iload_n (pc := 128) hX rfl d_Mo_copy_128 ?_
    refine v_iadd (pc := 129) hX d_Mo_copy_129 ?_
    refine v_iload (pc := 130) hX rfl d_Mo_copy_130 ?_
    refine v_iadd (pc := 132) hX d_Mo_copy_132 ?_
    rw [i3_60, ← i3_add]
    refine g_iald (pc := 133) hX rfl (IX.of (n := 240) (by omega) (by decide)) d_Mo_copy_133 ?_
    rw [cpF_ne (by omega)]
    refine g_iast (pc := 134) hX rfl (IX.of (n := 60) (by omega) (by decide)) d_Mo_copy_134 ?_
    refine v_iinc (pc := 135) (lo' := [some (vR _), some (vI _), some (vI _), some (vI _), some (vI _), some (vI _), some (vI _)]) hX rfl rfl d_Mo_copy_135 ?_
    refine v_goto (pc := 138) (tgt := 107) hX d_Mo_copy_138 rfl ?_
    exact VW.cast (by rw [i3_succ]; rfl) rfl (by rw [cpF_s]) ih107
  · show VW X 107 [some (vR 36), some (vI (i3 k)), some (vI (i3 a)), some (vI (i3 p)), some (vI (i3 b)), some (vI (i3 m)), some (vI (i3 (m)))] [] (gM (cpF M 63 (fun y => M 62 (60 * k + a + y)) (m)))
    refine v_iload (pc := 107) hX rfl d_Mo_copy_107 ?_
    refine v_iload (pc := 109) hX rfl d_Mo_copy_109 ?_
    refine v_icmp_ge (pc := 111) (tgt := 141) hX d_Mo_copy_111 rfl (fun h111 => ?_) (fun h111 => False.elim (absurd (Int32.le_refl _) h111))
    refine v_iconst (pc := 141) (v := 0) hX (by decide) d_Mo_copy_141 ?_
    refine v_istore (pc := 142) (lo' := [some (vR _), some (vI _), some (vI _), some (vI _), some (vI _), some (vI _), some (vI _)]) hX (Nat.le_of_ble_eq_true rfl) rfl d_Mo_copy_142 ?_
    refine VW.cast (lo' := [some (vR 36), some (vI (i3 k)), some (vI (i3 a)), some (vI (i3 p)), some (vI (i3 b)), some (vI (i3 m)), some (vI (i3 0))]) (st' := []) (G' := gM (rwF (cpF M 63 (fun y => M 62 (60 * k + a + y)) m) 62 (60 * p + b) (fun y => M 62 (60 * k + a + y)) 0)) rfl rfl (by rw [rwF_0]) ?_
    refine v_for (X := X) (head := 144) (m) (fun kk => [some (vR 36), some (vI (i3 k)), some (vI (i3 a)), some (vI (i3 p)), some (vI (i3 b)), some (vI (i3 m)), some (vI (i3 kk))]) (fun kk => rwF (cpF M 63 (fun y => M 62 (60 * k + a + y)) m) 62 (60 * p + b) (fun y => M 62 (60 * k + a + y)) kk) (fun y hy ih144 => ?_) ?_
    · show VW X 144 [some (vR 36), some (vI (i3 k)), some (vI (i3 a)), some (vI (i3 p)), some (vI (i3 b)), some (vI (i3 m)), some (vI (i3 y))] [] (gM (rwF (cpF M 63 (fun y => M 62 (60 * k + a + y)) m) 62 (60 * p + b) (fun y => M 62 (60 * k + a + y)) y))
      refine v_iload (pc := 144) hX rfl d_Mo_copy_144 ?_
      refine v_iload (pc := 146) hX rfl d_Mo_copy_146 ?_
      refine v_icmp_ge (pc := 148) (tgt := 179) hX d_Mo_copy_148 rfl (fun h148 => False.elim (i3_ge_abs hy (by omega) h148)) (fun h148 => ?_)
      refine v_aload_n (pc := 151) hX rfl d_Mo_copy_151 ?_
      refine g_getR (pc := 152) hX fl_Mo_85 rfl rfl nf_36_33 d_Mo_copy_152 ?_
      refine v_bipush (pc := 155) (v := 60) hX (by decide) d_Mo_copy_155 ?_
      refine v_iload_n (pc := 157) hX rfl d_Mo_copy_157 ?_
      refine v_imul (pc := 158) hX d_Mo_copy_158 ?_
      refine v_iload (pc := 159) hX rfl d_Mo_copy_159 ?_
      refine v_iadd (pc := 161) hX d_Mo_copy_161 ?_
      refine v_iload (pc := 162) hX rfl d_Mo_copy_162 ?_
      refine v_iadd (pc := 164) hX d_Mo_copy_164 ?_
      rw [i3_60, ← i3_add]
      refine v_aload_n (pc := 165) hX rfl d_Mo_copy_165 ?_
      refine g_getR (pc := 166) hX fl_Mo_88 rfl rfl nf_36_34 d_Mo_copy_166 ?_
      refine v_iload (pc := 169) hX rfl d_Mo_copy_169 ?_
      refine g_iald (pc := 171) hX rfl (IX.of (n := 60) (by omega) (by decide)) d_Mo_copy_171 ?_
      rw [rwF_ne (by omega), cpF_in hy]
      refine g_iast (pc := 172) hX rfl (IX.of (n := 240) (by omega) (by decide)) d_Mo_copy_172 ?_
      refine v_iinc (pc := 173) (lo' := [some (vR _), some (vI _), some (vI _), some (vI _), some (vI _), some (vI _), some (vI _)]) hX rfl rfl d_Mo_copy_173 ?_
      refine v_goto (pc := 176) (tgt := 144) hX d_Mo_copy_176 rfl ?_
      exact VW.cast (by rw [i3_succ]; rfl) rfl (by rw [rwF_s]) ih144
    · show VW X 144 [some (vR 36), some (vI (i3 k)), some (vI (i3 a)), some (vI (i3 p)), some (vI (i3 b)), some (vI (i3 m)), some (vI (i3 (m)))] [] (gM (rwF (cpF M 63 (fun y => M 62 (60 * k + a + y)) m) 62 (60 * p + b) (fun y => M 62 (60 * k + a + y)) (m)))
      refine v_iload (pc := 144) hX rfl d_Mo_copy_144 ?_
      refine v_iload (pc := 146) hX rfl d_Mo_copy_146 ?_
      refine v_icmp_ge (pc := 148) (tgt := 179) hX d_Mo_copy_148 rfl (fun h148 => ?_) (fun h148 => False.elim (absurd (Int32.le_refl _) h148))
      refine v_aload_n (pc := 179) hX rfl d_Mo_copy_179 ?_
      refine v_iload (pc := 180) hX rfl d_Mo_copy_180 ?_
      refine f_callV (pc := 182) hX k_Mo_refused ki_Mo_refused kv_Mo_refused ml_Mo_149 (C_Mo_refused) rfl rfl rfl rfl rfl (Nat.le_of_ble_eq_true rfl) (Nat.le_of_ble_eq_true rfl) (Nat.le_of_ble_eq_true rfl) d_Mo_copy_182 ?_
      exact f_iret (pc := 185) hX hR (rfl) (rfl) d_Mo_copy_185
theorem d_Mo_guess_0 : decode c_Mo_guess 0 = .ok (.iload_n 1, 1) := by decide +kernel
theorem d_Mo_guess_1 : decode c_Mo_guess 1 = .ok (.invokestatic 145, 3) := by decide +kernel
theorem d_Mo_guess_4 : decode c_Mo_guess 4 = .ok (.ifCond .eq 9, 3) := by decide +kernel
theorem d_Mo_guess_7 : decode c_Mo_guess 7 = .ok (.aload_n 0, 1) := by decide +kernel
theorem d_Mo_guess_8 : decode c_Mo_guess 8 = .ok (.iconst (-1), 1) := by decide +kernel
theorem d_Mo_guess_9 : decode c_Mo_guess 9 = .ok (.invokevirtual 149, 3) := by decide +kernel
theorem d_Mo_guess_12 : decode c_Mo_guess 12 = .ok (.ireturn, 1) := by decide +kernel
theorem d_Mo_guess_13 : decode c_Mo_guess 13 = .ok (.iload_n 2, 1) := by decide +kernel
theorem d_Mo_guess_14 : decode c_Mo_guess 14 = .ok (.i2l, 1) := by decide +kernel
theorem d_Mo_guess_15 : decode c_Mo_guess 15 = .ok (.lconst 0, 1) := by decide +kernel
theorem d_Mo_guess_16 : decode c_Mo_guess 16 = .ok (.ldc2_w 152, 3) := by decide +kernel
theorem d_Mo_guess_19 : decode c_Mo_guess 19 = .ok (.invokestatic 104, 3) := by decide +kernel
theorem d_Mo_guess_22 : decode c_Mo_guess 22 = .ok (.ifCond .eq 29, 3) := by decide +kernel
theorem d_Mo_guess_25 : decode c_Mo_guess 25 = .ok (.iload 4, 2) := by decide +kernel
theorem d_Mo_guess_27 : decode c_Mo_guess 27 = .ok (.i2l, 1) := by decide +kernel
theorem d_Mo_guess_28 : decode c_Mo_guess 28 = .ok (.lconst 0, 1) := by decide +kernel
theorem d_Mo_guess_29 : decode c_Mo_guess 29 = .ok (.ldc2_w 204, 3) := by decide +kernel
theorem d_Mo_guess_32 : decode c_Mo_guess 32 = .ok (.invokestatic 104, 3) := by decide +kernel
theorem d_Mo_guess_35 : decode c_Mo_guess 35 = .ok (.ifCond .eq 16, 3) := by decide +kernel
theorem d_Mo_guess_38 : decode c_Mo_guess 38 = .ok (.iload 5, 2) := by decide +kernel
theorem d_Mo_guess_40 : decode c_Mo_guess 40 = .ok (.i2l, 1) := by decide +kernel
theorem d_Mo_guess_41 : decode c_Mo_guess 41 = .ok (.lconst 0, 1) := by decide +kernel
theorem d_Mo_guess_42 : decode c_Mo_guess 42 = .ok (.ldc2_w 152, 3) := by decide +kernel
theorem d_Mo_guess_45 : decode c_Mo_guess 45 = .ok (.invokestatic 104, 3) := by decide +kernel
theorem d_Mo_guess_48 : decode c_Mo_guess 48 = .ok (.ifCond .ne 10, 3) := by decide +kernel
theorem d_Mo_guess_51 : decode c_Mo_guess 51 = .ok (.aload_n 0, 1) := by decide +kernel
theorem d_Mo_guess_52 : decode c_Mo_guess 52 = .ok (.bipush (-2), 2) := by decide +kernel
theorem d_Mo_guess_54 : decode c_Mo_guess 54 = .ok (.invokevirtual 149, 3) := by decide +kernel
theorem d_Mo_guess_57 : decode c_Mo_guess 57 = .ok (.ireturn, 1) := by decide +kernel
theorem d_Mo_guess_58 : decode c_Mo_guess 58 = .ok (.aload_n 0, 1) := by decide +kernel
theorem d_Mo_guess_59 : decode c_Mo_guess 59 = .ok (.getfield 101, 3) := by decide +kernel
theorem d_Mo_guess_62 : decode c_Mo_guess 62 = .ok (.ifCond .ne 10, 3) := by decide +kernel
theorem d_Mo_guess_65 : decode c_Mo_guess 65 = .ok (.aload_n 0, 1) := by decide +kernel
theorem d_Mo_guess_66 : decode c_Mo_guess 66 = .ok (.bipush (-3), 2) := by decide +kernel
theorem d_Mo_guess_68 : decode c_Mo_guess 68 = .ok (.invokevirtual 149, 3) := by decide +kernel
theorem d_Mo_guess_71 : decode c_Mo_guess 71 = .ok (.ireturn, 1) := by decide +kernel
theorem d_Mo_guess_72 : decode c_Mo_guess 72 = .ok (.aload_n 0, 1) := by decide +kernel
theorem d_Mo_guess_73 : decode c_Mo_guess 73 = .ok (.iload_n 1, 1) := by decide +kernel
theorem d_Mo_guess_74 : decode c_Mo_guess 74 = .ok (.iload_n 2, 1) := by decide +kernel
theorem d_Mo_guess_75 : decode c_Mo_guess 75 = .ok (.iload_n 3, 1) := by decide +kernel
theorem d_Mo_guess_76 : decode c_Mo_guess 76 = .ok (.iload 4, 2) := by decide +kernel
theorem d_Mo_guess_78 : decode c_Mo_guess 78 = .ok (.i2l, 1) := by decide +kernel
theorem d_Mo_guess_79 : decode c_Mo_guess 79 = .ok (.invokevirtual 154, 3) := by decide +kernel
theorem d_Mo_guess_82 : decode c_Mo_guess 82 = .ok (.istore 6, 2) := by decide +kernel
theorem d_Mo_guess_84 : decode c_Mo_guess 84 = .ok (.iload 6, 2) := by decide +kernel
theorem d_Mo_guess_86 : decode c_Mo_guess 86 = .ok (.ifCond .ge 8, 3) := by decide +kernel
theorem d_Mo_guess_89 : decode c_Mo_guess 89 = .ok (.iload 6, 2) := by decide +kernel
theorem d_Mo_guess_91 : decode c_Mo_guess 91 = .ok (.goto 21, 3) := by decide +kernel
theorem d_Mo_guess_94 : decode c_Mo_guess 94 = .ok (.aload_n 0, 1) := by decide +kernel
theorem d_Mo_guess_95 : decode c_Mo_guess 95 = .ok (.aload_n 0, 1) := by decide +kernel
theorem d_Mo_guess_96 : decode c_Mo_guess 96 = .ok (.bipush 60, 2) := by decide +kernel
theorem d_Mo_guess_98 : decode c_Mo_guess 98 = .ok (.iload_n 1, 1) := by decide +kernel
theorem d_Mo_guess_99 : decode c_Mo_guess 99 = .ok (.imul, 1) := by decide +kernel
theorem d_Mo_guess_100 : decode c_Mo_guess 100 = .ok (.iload_n 3, 1) := by decide +kernel
theorem d_Mo_guess_101 : decode c_Mo_guess 101 = .ok (.iadd, 1) := by decide +kernel
theorem d_Mo_guess_102 : decode c_Mo_guess 102 = .ok (.iload 4, 2) := by decide +kernel
theorem d_Mo_guess_104 : decode c_Mo_guess 104 = .ok (.iload 5, 2) := by decide +kernel
theorem d_Mo_guess_106 : decode c_Mo_guess 106 = .ok (.invokevirtual 235, 3) := by decide +kernel
theorem d_Mo_guess_109 : decode c_Mo_guess 109 = .ok (.invokevirtual 149, 3) := by decide +kernel
theorem d_Mo_guess_112 : decode c_Mo_guess 112 = .ok (.ireturn, 1) := by decide +kernel
theorem C_Mo_guess_out {M : MM} {x : Int32} (hx : rg x 0 3 = false) {u v w y : Int32} : AF y_Mo_guess c_Mo_guess 7 (some .int) 6 [vR 36, vI x, vI u, vI v, vI w, vI y] (M) (some (vI (-1))) (upM M 36 0 0) := by
  refine AF.of k_Mo_guess (lo := [some (vR 36), some (vI x), some (vI u), some (vI v), some (vI w), some (vI y), none]) rfl (Nat.le_of_ble_eq_true rfl) (fun X hX hR => ?_)
  refine v_iload_n (pc := 0) hX rfl d_Mo_guess_0 ?_
  refine f_callS (pc := 1) hX k_Mo_noSheet ks_Mo_noSheet ml_Mo_145 (C_Mo_noSheet) rfl rfl rfl (Nat.le_of_ble_eq_true rfl) (Nat.le_of_ble_eq_true rfl) (Nat.le_of_ble_eq_true rfl) d_Mo_guess_1 ?_
  rw [hx]
  refine f_ifeqB (pc := 4) (tgt := 13) hX d_Mo_guess_4 rfl (fun h4 => False.elim (absurd h4 (by decide))) (fun h4 => ?_)
  refine v_aload_n (pc := 7) hX rfl d_Mo_guess_7 ?_
  refine v_iconst (pc := 8) (v := (-1)) hX (by decide) d_Mo_guess_8 ?_
  refine f_callV (pc := 9) hX k_Mo_refused ki_Mo_refused kv_Mo_refused ml_Mo_149 (C_Mo_refused) rfl rfl rfl rfl rfl (Nat.le_of_ble_eq_true rfl) (Nat.le_of_ble_eq_true rfl) (Nat.le_of_ble_eq_true rfl) d_Mo_guess_9 ?_
  exact f_iret (pc := 12) hX hR (rfl) (rfl) d_Mo_guess_12
theorem C_Mo_guess_bad {M : MM} {k : Nat} {u v w y : Int32} (hk : k < 4) (hb : (rg u 0 2 && (rg w 0 10 && rg y 0 2)) = false) : AF y_Mo_guess c_Mo_guess 7 (some .int) 6 [vR 36, vI (i3 k), vI u, vI v, vI w, vI y] (M) (some (vI (-2))) (upM M 36 0 0) := by
  refine AF.of k_Mo_guess (lo := [some (vR 36), some (vI (i3 k)), some (vI u), some (vI v), some (vI w), some (vI y), none]) rfl (Nat.le_of_ble_eq_true rfl) (fun X hX hR => ?_)
  refine v_iload_n (pc := 0) hX rfl d_Mo_guess_0 ?_
  refine f_callS (pc := 1) hX k_Mo_noSheet ks_Mo_noSheet ml_Mo_145 (C_Mo_noSheet) rfl rfl rfl (Nat.le_of_ble_eq_true rfl) (Nat.le_of_ble_eq_true rfl) (Nat.le_of_ble_eq_true rfl) d_Mo_guess_1 ?_
  rw [show rg (i3 k) 0 3 = true from rg_i3 (n := 4) hk (by decide)]
  refine f_ifeqB (pc := 4) (tgt := 13) hX d_Mo_guess_4 rfl (fun h4 => ?_) (fun h4 => False.elim (absurd h4 (by decide)))
  refine v_iload_n (pc := 13) hX rfl d_Mo_guess_13 ?_
  refine v_i2l (pc := 14) hX d_Mo_guess_14 ?_
  refine v_lconst (pc := 15) (v := 0) hX (by decide) d_Mo_guess_15 ?_
  refine v_ldc2_w (pc := 16) hX kl_Mo_152 d_Mo_guess_16 ?_
  refine f_callS (pc := 19) hX k_Mo_in ks_Mo_in ml_Mo_104 (C_Mo_in) rfl rfl rfl (Nat.le_of_ble_eq_true rfl) (Nat.le_of_ble_eq_true rfl) (Nat.le_of_ble_eq_true rfl) d_Mo_guess_19 ?_
  rw [rL_rg (L := 0) (H := 2) rfl rfl]
  refine f_ifeqB (pc := 22) (tgt := 51) hX d_Mo_guess_22 rfl (fun h22 => ?_) (fun h22 => ?_)
  · refine v_aload_n (pc := 51) hX rfl d_Mo_guess_51 ?_
    refine v_bipush (pc := 52) (v := (-2)) hX (by decide) d_Mo_guess_52 ?_
    refine f_callV (pc := 54) hX k_Mo_refused ki_Mo_refused kv_Mo_refused ml_Mo_149 (C_Mo_refused) rfl rfl rfl rfl rfl (Nat.le_of_ble_eq_true rfl) (Nat.le_of_ble_eq_true rfl) (Nat.le_of_ble_eq_true rfl) d_Mo_guess_54 ?_
    exact f_iret (pc := 57) hX hR (rfl) (rfl) d_Mo_guess_57
  · refine v_iload (pc := 25) hX rfl d_Mo_guess_25 ?_
    refine v_i2l (pc := 27) hX d_Mo_guess_27 ?_
    refine v_lconst (pc := 28) (v := 0) hX (by decide) d_Mo_guess_28 ?_
    refine v_ldc2_w (pc := 29) hX kl_Mo_204 d_Mo_guess_29 ?_
    refine f_callS (pc := 32) hX k_Mo_in ks_Mo_in ml_Mo_104 (C_Mo_in) rfl rfl rfl (Nat.le_of_ble_eq_true rfl) (Nat.le_of_ble_eq_true rfl) (Nat.le_of_ble_eq_true rfl) d_Mo_guess_32 ?_
    rw [rL_rg (L := 0) (H := 10) rfl rfl]
    refine f_ifeqB (pc := 35) (tgt := 51) hX d_Mo_guess_35 rfl (fun h35 => ?_) (fun h35 => ?_)
    · refine v_aload_n (pc := 51) hX rfl d_Mo_guess_51 ?_
      refine v_bipush (pc := 52) (v := (-2)) hX (by decide) d_Mo_guess_52 ?_
      refine f_callV (pc := 54) hX k_Mo_refused ki_Mo_refused kv_Mo_refused ml_Mo_149 (C_Mo_refused) rfl rfl rfl rfl rfl (Nat.le_of_ble_eq_true rfl) (Nat.le_of_ble_eq_true rfl) (Nat.le_of_ble_eq_true rfl) d_Mo_guess_54 ?_
      exact f_iret (pc := 57) hX hR (rfl) (rfl) d_Mo_guess_57
    · refine v_iload (pc := 38) hX rfl d_Mo_guess_38 ?_
      refine v_i2l (pc := 40) hX d_Mo_guess_40 ?_
      refine v_lconst (pc := 41) (v := 0) hX (by decide) d_Mo_guess_41 ?_
      refine v_ldc2_w (pc := 42) hX kl_Mo_152 d_Mo_guess_42 ?_
      refine f_callS (pc := 45) hX k_Mo_in ks_Mo_in ml_Mo_104 (C_Mo_in) rfl rfl rfl (Nat.le_of_ble_eq_true rfl) (Nat.le_of_ble_eq_true rfl) (Nat.le_of_ble_eq_true rfl) d_Mo_guess_45 ?_
      rw [rL_rg (L := 0) (H := 2) rfl rfl]
      refine f_ifneB (pc := 48) (tgt := 58) hX d_Mo_guess_48 rfl (fun h48 => False.elim (by rw [h22, h35, h48] at hb; cases hb)) (fun h48 => ?_)
      refine v_aload_n (pc := 51) hX rfl d_Mo_guess_51 ?_
      refine v_bipush (pc := 52) (v := (-2)) hX (by decide) d_Mo_guess_52 ?_
      refine f_callV (pc := 54) hX k_Mo_refused ki_Mo_refused kv_Mo_refused ml_Mo_149 (C_Mo_refused) rfl rfl rfl rfl rfl (Nat.le_of_ble_eq_true rfl) (Nat.le_of_ble_eq_true rfl) (Nat.le_of_ble_eq_true rfl) d_Mo_guess_54 ?_
      exact f_iret (pc := 57) hX hR (rfl) (rfl) d_Mo_guess_57
theorem C_Mo_guess_no {M : MM} {k m n : Nat} {J : JT} {u v y : Int32} (hJ : MJ M n J) (hk : k < 4) (hu : rg u 0 2 = true) (hm : m < 11) (hy : rg y 0 2 = true) (h0 : n = 0) : AF y_Mo_guess c_Mo_guess 7 (some .int) 6 [vR 36, vI (i3 k), vI u, vI v, vI (i3 m), vI y] (M) (some (vI (-3))) (upM M 36 0 0) := by
  have h6 := hJ.1
  have hM := hJ.2.1
  refine AF.of k_Mo_guess (lo := [some (vR 36), some (vI (i3 k)), some (vI u), some (vI v), some (vI (i3 m)), some (vI y), none]) rfl (Nat.le_of_ble_eq_true rfl) (fun X hX hR => ?_)
  refine v_iload_n (pc := 0) hX rfl d_Mo_guess_0 ?_
  refine f_callS (pc := 1) hX k_Mo_noSheet ks_Mo_noSheet ml_Mo_145 (C_Mo_noSheet) rfl rfl rfl (Nat.le_of_ble_eq_true rfl) (Nat.le_of_ble_eq_true rfl) (Nat.le_of_ble_eq_true rfl) d_Mo_guess_1 ?_
  rw [show rg (i3 k) 0 3 = true from rg_i3 (n := 4) hk (by decide)]
  refine f_ifeqB (pc := 4) (tgt := 13) hX d_Mo_guess_4 rfl (fun h4 => ?_) (fun h4 => False.elim (absurd h4 (by decide)))
  refine v_iload_n (pc := 13) hX rfl d_Mo_guess_13 ?_
  refine v_i2l (pc := 14) hX d_Mo_guess_14 ?_
  refine v_lconst (pc := 15) (v := 0) hX (by decide) d_Mo_guess_15 ?_
  refine v_ldc2_w (pc := 16) hX kl_Mo_152 d_Mo_guess_16 ?_
  refine f_callS (pc := 19) hX k_Mo_in ks_Mo_in ml_Mo_104 (C_Mo_in) rfl rfl rfl (Nat.le_of_ble_eq_true rfl) (Nat.le_of_ble_eq_true rfl) (Nat.le_of_ble_eq_true rfl) d_Mo_guess_19 ?_
  rw [rL_rg (L := 0) (H := 2) rfl rfl]
  refine f_ifeqB (pc := 22) (tgt := 51) hX d_Mo_guess_22 rfl (fun h22 => False.elim (by rw [hu] at h22; cases h22)) (fun h22 => ?_)
  refine v_iload (pc := 25) hX rfl d_Mo_guess_25 ?_
  refine v_i2l (pc := 27) hX d_Mo_guess_27 ?_
  refine v_lconst (pc := 28) (v := 0) hX (by decide) d_Mo_guess_28 ?_
  refine v_ldc2_w (pc := 29) hX kl_Mo_204 d_Mo_guess_29 ?_
  refine f_callS (pc := 32) hX k_Mo_in ks_Mo_in ml_Mo_104 (C_Mo_in) rfl rfl rfl (Nat.le_of_ble_eq_true rfl) (Nat.le_of_ble_eq_true rfl) (Nat.le_of_ble_eq_true rfl) d_Mo_guess_32 ?_
  rw [rL_rg (L := 0) (H := 10) rfl rfl]
  refine f_ifeqB (pc := 35) (tgt := 51) hX d_Mo_guess_35 rfl (fun h35 => False.elim (by rw [show rg (i3 m) 0 10 = true from rg_i3 (n := 11) hm (by decide)] at h35; cases h35)) (fun h35 => ?_)
  refine v_iload (pc := 38) hX rfl d_Mo_guess_38 ?_
  refine v_i2l (pc := 40) hX d_Mo_guess_40 ?_
  refine v_lconst (pc := 41) (v := 0) hX (by decide) d_Mo_guess_41 ?_
  refine v_ldc2_w (pc := 42) hX kl_Mo_152 d_Mo_guess_42 ?_
  refine f_callS (pc := 45) hX k_Mo_in ks_Mo_in ml_Mo_104 (C_Mo_in) rfl rfl rfl (Nat.le_of_ble_eq_true rfl) (Nat.le_of_ble_eq_true rfl) (Nat.le_of_ble_eq_true rfl) d_Mo_guess_45 ?_
  rw [rL_rg (L := 0) (H := 2) rfl rfl]
  refine f_ifneB (pc := 48) (tgt := 58) hX d_Mo_guess_48 rfl (fun h48 => ?_) (fun h48 => False.elim (by rw [hy] at h48; cases h48))
  refine v_aload_n (pc := 58) hX rfl d_Mo_guess_58 ?_
  refine g_getI (pc := 59) hX fl_Mo_101 rfl rfl d_Mo_guess_59 ?_
  rw [hM]
  refine v_if_ne (pc := 62) (tgt := 72) hX d_Mo_guess_62 rfl (fun h62 => False.elim (h62 (by rw [h0]; rfl))) (fun h62 => ?_)
  refine v_aload_n (pc := 65) hX rfl d_Mo_guess_65 ?_
  refine v_bipush (pc := 66) (v := (-3)) hX (by decide) d_Mo_guess_66 ?_
  refine f_callV (pc := 68) hX k_Mo_refused ki_Mo_refused kv_Mo_refused ml_Mo_149 (C_Mo_refused) rfl rfl rfl rfl rfl (Nat.le_of_ble_eq_true rfl) (Nat.le_of_ble_eq_true rfl) (Nat.le_of_ble_eq_true rfl) d_Mo_guess_68 ?_
  exact f_iret (pc := 71) hX hR (rfl) (rfl) d_Mo_guess_71
theorem C_Mo_guess_fail {M : MM} {k m n : Nat} {J : JT} {u v y : Int32} (hJ : MJ M n J) (hk : k < 4) (hu : rg u 0 2 = true) (hm : m < 11) (hy : rg y 0 2 = true) {zs : Nat → Nat} {ln : Nat → Int32} {C : JT} (hZ : MZ M zs ln C) (h0 : ¬ n = 0) (hf : ¬ flt (zs k) (ln k) u v (i3 m) = 0) : AF y_Mo_guess c_Mo_guess 7 (some .int) 6 [vR 36, vI (i3 k), vI u, vI v, vI (i3 m), vI y] (M) (some (vI (-10 - flt (zs k) (ln k) u v (i3 m)))) (upM M 36 0 (flt (zs k) (ln k) u v (i3 m))) := by
  have h6 := hJ.1
  have hM := hJ.2.1
  refine AF.of k_Mo_guess (lo := [some (vR 36), some (vI (i3 k)), some (vI u), some (vI v), some (vI (i3 m)), some (vI y), none]) rfl (Nat.le_of_ble_eq_true rfl) (fun X hX hR => ?_)
  refine v_iload_n (pc := 0) hX rfl d_Mo_guess_0 ?_
  refine f_callS (pc := 1) hX k_Mo_noSheet ks_Mo_noSheet ml_Mo_145 (C_Mo_noSheet) rfl rfl rfl (Nat.le_of_ble_eq_true rfl) (Nat.le_of_ble_eq_true rfl) (Nat.le_of_ble_eq_true rfl) d_Mo_guess_1 ?_
  rw [show rg (i3 k) 0 3 = true from rg_i3 (n := 4) hk (by decide)]
  refine f_ifeqB (pc := 4) (tgt := 13) hX d_Mo_guess_4 rfl (fun h4 => ?_) (fun h4 => False.elim (absurd h4 (by decide)))
  refine v_iload_n (pc := 13) hX rfl d_Mo_guess_13 ?_
  refine v_i2l (pc := 14) hX d_Mo_guess_14 ?_
  refine v_lconst (pc := 15) (v := 0) hX (by decide) d_Mo_guess_15 ?_
  refine v_ldc2_w (pc := 16) hX kl_Mo_152 d_Mo_guess_16 ?_
  refine f_callS (pc := 19) hX k_Mo_in ks_Mo_in ml_Mo_104 (C_Mo_in) rfl rfl rfl (Nat.le_of_ble_eq_true rfl) (Nat.le_of_ble_eq_true rfl) (Nat.le_of_ble_eq_true rfl) d_Mo_guess_19 ?_
  rw [rL_rg (L := 0) (H := 2) rfl rfl]
  refine f_ifeqB (pc := 22) (tgt := 51) hX d_Mo_guess_22 rfl (fun h22 => False.elim (by rw [hu] at h22; cases h22)) (fun h22 => ?_)
  refine v_iload (pc := 25) hX rfl d_Mo_guess_25 ?_
  refine v_i2l (pc := 27) hX d_Mo_guess_27 ?_
  refine v_lconst (pc := 28) (v := 0) hX (by decide) d_Mo_guess_28 ?_
  refine v_ldc2_w (pc := 29) hX kl_Mo_204 d_Mo_guess_29 ?_
  refine f_callS (pc := 32) hX k_Mo_in ks_Mo_in ml_Mo_104 (C_Mo_in) rfl rfl rfl (Nat.le_of_ble_eq_true rfl) (Nat.le_of_ble_eq_true rfl) (Nat.le_of_ble_eq_true rfl) d_Mo_guess_32 ?_
  rw [rL_rg (L := 0) (H := 10) rfl rfl]
  refine f_ifeqB (pc := 35) (tgt := 51) hX d_Mo_guess_35 rfl (fun h35 => False.elim (by rw [show rg (i3 m) 0 10 = true from rg_i3 (n := 11) hm (by decide)] at h35; cases h35)) (fun h35 => ?_)
  refine v_iload (pc := 38) hX rfl d_Mo_guess_38 ?_
  refine v_i2l (pc := 40) hX d_Mo_guess_40 ?_
  refine v_lconst (pc := 41) (v := 0) hX (by decide) d_Mo_guess_41 ?_
  refine v_ldc2_w (pc := 42) hX kl_Mo_152 d_Mo_guess_42 ?_
  refine f_callS (pc := 45) hX k_Mo_in ks_Mo_in ml_Mo_104 (C_Mo_in) rfl rfl rfl (Nat.le_of_ble_eq_true rfl) (Nat.le_of_ble_eq_true rfl) (Nat.le_of_ble_eq_true rfl) d_Mo_guess_45 ?_
  rw [rL_rg (L := 0) (H := 2) rfl rfl]
  refine f_ifneB (pc := 48) (tgt := 58) hX d_Mo_guess_48 rfl (fun h48 => ?_) (fun h48 => False.elim (by rw [hy] at h48; cases h48))
  refine v_aload_n (pc := 58) hX rfl d_Mo_guess_58 ?_
  refine g_getI (pc := 59) hX fl_Mo_101 rfl rfl d_Mo_guess_59 ?_
  rw [hM]
  refine v_if_ne (pc := 62) (tgt := 72) hX d_Mo_guess_62 rfl (fun h62 => ?_) (fun h62 => False.elim (i3_ne0 h0 (by omega) h62))
  refine v_aload_n (pc := 72) hX rfl d_Mo_guess_72 ?_
  refine v_iload_n (pc := 73) hX rfl d_Mo_guess_73 ?_
  refine v_iload_n (pc := 74) hX rfl d_Mo_guess_74 ?_
  refine v_iload_n (pc := 75) hX rfl d_Mo_guess_75 ?_
  refine v_iload (pc := 76) hX rfl d_Mo_guess_76 ?_
  refine v_i2l (pc := 78) hX d_Mo_guess_78 ?_
  refine f_callV (pc := 79) hX k_Mo_cellsBarred ki_Mo_cellsBarred kv_Mo_cellsBarred ml_Mo_154 (C_Mo_cb_fail hZ hk (Int32.toInt_toInt64 _) hf) rfl rfl rfl rfl rfl (Nat.le_of_ble_eq_true rfl) (Nat.le_of_ble_eq_true rfl) (Nat.le_of_ble_eq_true rfl) d_Mo_guess_79 ?_
  refine v_istore (pc := 82) (lo' := [some (vR _), some (vI _), some (vI _), some (vI _), some (vI _), some (vI _), some (vI _)]) hX (Nat.le_of_ble_eq_true rfl) rfl d_Mo_guess_82 ?_
  refine v_iload (pc := 84) hX rfl d_Mo_guess_84 ?_
  refine v_if_ge (pc := 86) (tgt := 94) hX d_Mo_guess_86 rfl (fun h86 => False.elim (absurd h86 (Int32.not_le.mpr flt_neg))) (fun h86 => ?_)
  refine v_iload (pc := 89) hX rfl d_Mo_guess_89 ?_
  refine v_goto (pc := 91) (tgt := 112) hX d_Mo_guess_91 rfl ?_
  exact f_iret (pc := 112) hX hR (rfl) (rfl) d_Mo_guess_112
theorem C_Mo_guess_ok {M : MM} {k m n a : Nat} {J : JT} {y : Int32} (hJ : MJ M n J) (hk : k < 4) (hm : m < 11) (hy : rg y 0 2 = true) {zs : Nat → Nat} {ln : Nat → Int32} {C : JT} (hZ : MZ M zs ln C) (hu : rg (ln k) 0 2 = true) (h0 : ¬ n = 0) (hz : zs k ≠ 0) (ham : a + m ≤ zs k - 1) : AF y_Mo_guess c_Mo_guess 7 (some .int) 6 [vR 36, vI (i3 k), vI (ln k), vI (i3 a), vI (i3 m), vI y] (M) (some (vI (guN J n (fun t => C k (a + t)) m y))) (upM M 36 0 0) := by
  have h6 := hJ.1
  have hM := hJ.2.1
  obtain ⟨z1, z2, z3⟩ := hZ k hk
  have hq : ∀ t, t < m → M 62 (60 * k + a + t) = (fun t => C k (a + t)) t := fun t ht => by rw [show 60 * k + a + t = 60 * k + (a + t) by omega]; exact (z3 hz).2 _ (by omega)
  refine AF.of k_Mo_guess (lo := [some (vR 36), some (vI (i3 k)), some (vI (ln k)), some (vI (i3 a)), some (vI (i3 m)), some (vI y), none]) rfl (Nat.le_of_ble_eq_true rfl) (fun X hX hR => ?_)
  refine v_iload_n (pc := 0) hX rfl d_Mo_guess_0 ?_
  refine f_callS (pc := 1) hX k_Mo_noSheet ks_Mo_noSheet ml_Mo_145 (C_Mo_noSheet) rfl rfl rfl (Nat.le_of_ble_eq_true rfl) (Nat.le_of_ble_eq_true rfl) (Nat.le_of_ble_eq_true rfl) d_Mo_guess_1 ?_
  rw [show rg (i3 k) 0 3 = true from rg_i3 (n := 4) hk (by decide)]
  refine f_ifeqB (pc := 4) (tgt := 13) hX d_Mo_guess_4 rfl (fun h4 => ?_) (fun h4 => False.elim (absurd h4 (by decide)))
  refine v_iload_n (pc := 13) hX rfl d_Mo_guess_13 ?_
  refine v_i2l (pc := 14) hX d_Mo_guess_14 ?_
  refine v_lconst (pc := 15) (v := 0) hX (by decide) d_Mo_guess_15 ?_
  refine v_ldc2_w (pc := 16) hX kl_Mo_152 d_Mo_guess_16 ?_
  refine f_callS (pc := 19) hX k_Mo_in ks_Mo_in ml_Mo_104 (C_Mo_in) rfl rfl rfl (Nat.le_of_ble_eq_true rfl) (Nat.le_of_ble_eq_true rfl) (Nat.le_of_ble_eq_true rfl) d_Mo_guess_19 ?_
  rw [rL_rg (L := 0) (H := 2) rfl rfl]
  refine f_ifeqB (pc := 22) (tgt := 51) hX d_Mo_guess_22 rfl (fun h22 => False.elim (by rw [hu] at h22; cases h22)) (fun h22 => ?_)
  refine v_iload (pc := 25) hX rfl d_Mo_guess_25 ?_
  refine v_i2l (pc := 27) hX d_Mo_guess_27 ?_
  refine v_lconst (pc := 28) (v := 0) hX (by decide) d_Mo_guess_28 ?_
  refine v_ldc2_w (pc := 29) hX kl_Mo_204 d_Mo_guess_29 ?_
  refine f_callS (pc := 32) hX k_Mo_in ks_Mo_in ml_Mo_104 (C_Mo_in) rfl rfl rfl (Nat.le_of_ble_eq_true rfl) (Nat.le_of_ble_eq_true rfl) (Nat.le_of_ble_eq_true rfl) d_Mo_guess_32 ?_
  rw [rL_rg (L := 0) (H := 10) rfl rfl]
  refine f_ifeqB (pc := 35) (tgt := 51) hX d_Mo_guess_35 rfl (fun h35 => False.elim (by rw [show rg (i3 m) 0 10 = true from rg_i3 (n := 11) hm (by decide)] at h35; cases h35)) (fun h35 => ?_)
  refine v_iload (pc := 38) hX rfl d_Mo_guess_38 ?_
  refine v_i2l (pc := 40) hX d_Mo_guess_40 ?_
  refine v_lconst (pc := 41) (v := 0) hX (by decide) d_Mo_guess_41 ?_
  refine v_ldc2_w (pc := 42) hX kl_Mo_152 d_Mo_guess_42 ?_
  refine f_callS (pc := 45) hX k_Mo_in ks_Mo_in ml_Mo_104 (C_Mo_in) rfl rfl rfl (Nat.le_of_ble_eq_true rfl) (Nat.le_of_ble_eq_true rfl) (Nat.le_of_ble_eq_true rfl) d_Mo_guess_45 ?_
  rw [rL_rg (L := 0) (H := 2) rfl rfl]
  refine f_ifneB (pc := 48) (tgt := 58) hX d_Mo_guess_48 rfl (fun h48 => ?_) (fun h48 => False.elim (by rw [hy] at h48; cases h48))
  refine v_aload_n (pc := 58) hX rfl d_Mo_guess_58 ?_
  refine g_getI (pc := 59) hX fl_Mo_101 rfl rfl d_Mo_guess_59 ?_
  rw [hM]
  refine v_if_ne (pc := 62) (tgt := 72) hX d_Mo_guess_62 rfl (fun h62 => ?_) (fun h62 => False.elim (i3_ne0 h0 (by omega) h62))
  refine v_aload_n (pc := 72) hX rfl d_Mo_guess_72 ?_
  refine v_iload_n (pc := 73) hX rfl d_Mo_guess_73 ?_
  refine v_iload_n (pc := 74) hX rfl d_Mo_guess_74 ?_
  refine v_iload_n (pc := 75) hX rfl d_Mo_guess_75 ?_
  refine v_iload (pc := 76) hX rfl d_Mo_guess_76 ?_
  refine v_i2l (pc := 78) hX d_Mo_guess_78 ?_
  refine f_callV (pc := 79) hX k_Mo_cellsBarred ki_Mo_cellsBarred kv_Mo_cellsBarred ml_Mo_154 (C_Mo_cb_ok (m := m) hZ hk (by rw [Int32.toInt_toInt64, i3_int (by omega)]) hz ham) rfl rfl rfl rfl rfl (Nat.le_of_ble_eq_true rfl) (Nat.le_of_ble_eq_true rfl) (Nat.le_of_ble_eq_true rfl) d_Mo_guess_79 ?_
  refine v_istore (pc := 82) (lo' := [some (vR _), some (vI _), some (vI _), some (vI _), some (vI _), some (vI _), some (vI _)]) hX (Nat.le_of_ble_eq_true rfl) rfl d_Mo_guess_82 ?_
  refine v_iload (pc := 84) hX rfl d_Mo_guess_84 ?_
  refine v_if_ge (pc := 86) (tgt := 94) hX d_Mo_guess_86 rfl (fun h86 => ?_) (fun h86 => False.elim (h86 (Int32.le_refl _)))
  refine v_aload_n (pc := 94) hX rfl d_Mo_guess_94 ?_
  refine v_aload_n (pc := 95) hX rfl d_Mo_guess_95 ?_
  refine v_bipush (pc := 96) (v := 60) hX (by decide) d_Mo_guess_96 ?_
  refine v_iload_n (pc := 98) hX rfl d_Mo_guess_98 ?_
  refine v_imul (pc := 99) hX d_Mo_guess_99 ?_
  refine v_iload_n (pc := 100) hX rfl d_Mo_guess_100 ?_
  refine v_iadd (pc := 101) hX d_Mo_guess_101 ?_
  rw [i3_60]
  refine v_iload (pc := 102) hX rfl d_Mo_guess_102 ?_
  refine v_iload (pc := 104) hX rfl d_Mo_guess_104 ?_
  refine f_callV (pc := 106) hX k_Mo_guessBy ki_Mo_guessBy kv_Mo_guessBy ml_Mo_235 (C_Mo_guessBy hJ (by omega) hq) rfl rfl rfl rfl rfl (Nat.le_of_ble_eq_true rfl) (Nat.le_of_ble_eq_true rfl) (Nat.le_of_ble_eq_true rfl) d_Mo_guess_106 ?_
  refine f_callV (pc := 109) hX k_Mo_refused ki_Mo_refused kv_Mo_refused ml_Mo_149 (C_Mo_refused) rfl rfl rfl rfl rfl (Nat.le_of_ble_eq_true rfl) (Nat.le_of_ble_eq_true rfl) (Nat.le_of_ble_eq_true rfl) d_Mo_guess_109 ?_
  exact f_iret (pc := 112) hX hR (rfl) (rfl) d_Mo_guess_112
