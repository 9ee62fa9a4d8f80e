/-! A year. -/
def cpF (M : MM) (r : Nat) (f : Nat → Int32) (k : Nat) : MM := fun a i => if a = r ∧ i < k then f i else M a i
theorem cpF_0 (M : MM) (r : Nat) (f : Nat → Int32) : cpF M r f 0 = M := by
  funext a i
  simp [cpF]
theorem cpF_s (M : MM) (r : Nat) (f : Nat → Int32) (k : Nat) : cpF M r f (k + 1) = upM (cpF M r f k) r k (f k) := by
  funext a i
  simp only [cpF, upM]
  by_cases h : a = r ∧ i = k
  · rw [if_pos ⟨h.1, by omega⟩, if_pos h, h.2]
  · rw [if_neg h]
    by_cases h2 : a = r ∧ i < k
    · rw [if_pos h2, if_pos ⟨h2.1, by omega⟩]
    · rw [if_neg h2, if_neg (by omega)]
theorem cpF_ne {M : MM} {r : Nat} {f : Nat → Int32} {k a i : Nat} (h : a ≠ r) : cpF M r f k a i = M a i := if_neg (fun q => h q.1)
theorem cpF_in {M : MM} {r : Nat} {f : Nat → Int32} {k i : Nat} (h : i < k) : cpF M r f k r i = f i := if_pos ⟨rfl, h⟩
-- a year
def tdB (w : Int32) : Bool := rg w 0 3 || (rg w 10 15 || rg w 20 23)
theorem td_10 {w : Int32} : rg (w - 10) 0 5 = rg w 10 15 := by
  have h := Int32.toInt_sub w 10
  rw [q_10] at h
  have h1 := Int32.le_toInt w
  have h2 := Int32.toInt_le w
  have e1 : Int32.minValue.toInt = -2147483648 := by decide
  have e2 : Int32.maxValue.toInt = 2147483647 := by decide
  rw [Bool.eq_iff_iff, rg_true, rg_true, h]
  simp only [Int.bmod_def]
  omega
theorem td_20 {w : Int32} : rg (w - 20) 0 3 = rg w 20 23 := by
  have h := Int32.toInt_sub w 20
  rw [q_20] at h
  have h1 := Int32.le_toInt w
  have h2 := Int32.toInt_le w
  have e1 : Int32.minValue.toInt = -2147483648 := by decide
  have e2 : Int32.maxValue.toInt = 2147483647 := by decide
  rw [Bool.eq_iff_iff, rg_true, rg_true, h]
  simp only [Int.bmod_def]
  omega
theorem d_Sa_isTold_0 : decode c_Sa_isTold 0 = .ok (.iload_n 0, 1) := by decide +kernel
theorem d_Sa_isTold_1 : decode c_Sa_isTold 1 = .ok (.iconst 4, 1) := by decide +kernel
theorem d_Sa_isTold_2 : decode c_Sa_isTold 2 = .ok (.invokestatic 18, 3) := by decide +kernel
theorem d_Sa_isTold_5 : decode c_Sa_isTold 5 = .ok (.ifCond .ne 26, 3) := by decide +kernel
theorem d_Sa_isTold_8 : decode c_Sa_isTold 8 = .ok (.iload_n 0, 1) := by decide +kernel
theorem d_Sa_isTold_9 : decode c_Sa_isTold 9 = .ok (.bipush 10, 2) := by decide +kernel
theorem d_Sa_isTold_11 : decode c_Sa_isTold 11 = .ok (.isub, 1) := by decide +kernel
theorem d_Sa_isTold_12 : decode c_Sa_isTold 12 = .ok (.bipush 6, 2) := by decide +kernel
theorem d_Sa_isTold_14 : decode c_Sa_isTold 14 = .ok (.invokestatic 18, 3) := by decide +kernel
theorem d_Sa_isTold_17 : decode c_Sa_isTold 17 = .ok (.ifCond .ne 14, 3) := by decide +kernel
theorem d_Sa_isTold_20 : decode c_Sa_isTold 20 = .ok (.iload_n 0, 1) := by decide +kernel
theorem d_Sa_isTold_21 : decode c_Sa_isTold 21 = .ok (.bipush 20, 2) := by decide +kernel
theorem d_Sa_isTold_23 : decode c_Sa_isTold 23 = .ok (.isub, 1) := by decide +kernel
theorem d_Sa_isTold_24 : decode c_Sa_isTold 24 = .ok (.iconst 4, 1) := by decide +kernel
theorem d_Sa_isTold_25 : decode c_Sa_isTold 25 = .ok (.invokestatic 18, 3) := by decide +kernel
theorem d_Sa_isTold_28 : decode c_Sa_isTold 28 = .ok (.ifCond .eq 7, 3) := by decide +kernel
theorem d_Sa_isTold_31 : decode c_Sa_isTold 31 = .ok (.iconst 1, 1) := by decide +kernel
theorem d_Sa_isTold_32 : decode c_Sa_isTold 32 = .ok (.goto 4, 3) := by decide +kernel
theorem d_Sa_isTold_35 : decode c_Sa_isTold 35 = .ok (.iconst 0, 1) := by decide +kernel
theorem d_Sa_isTold_36 : decode c_Sa_isTold 36 = .ok (.ireturn, 1) := by decide +kernel
theorem C_Sa_isTold {M : MM} {v : Int32} : AF y_Sa_isTold c_Sa_isTold 1 (some .boolean) 2 [vI v] (M) (some (vI (bI (tdB v)))) (M) := by
  refine AF.of k_Sa_isTold (lo := [some (vI v)]) rfl (Nat.le_of_ble_eq_true rfl) (fun X hX hR => ?_)
  refine v_iload_n (pc := 0) hX rfl d_Sa_isTold_0 ?_
  refine v_iconst (pc := 1) (v := 4) hX (by decide) d_Sa_isTold_1 ?_
  refine f_callN (pc := 2) hX k_LJ_isBelow ks_LJ_isBelow (by decide) (C_LJ_isBelow) rfl rfl rfl (Nat.le_of_ble_eq_true rfl) (Nat.le_of_ble_eq_true rfl) (Nat.le_of_ble_eq_true rfl) d_Sa_isTold_2 ?_
  rw [show (4 : Int32).toInt - 1 = 3 from rfl]
  refine f_ifneB (pc := 5) (tgt := 31) hX d_Sa_isTold_5 rfl (fun h5 => ?_) (fun h5 => ?_)
  · have e : tdB v = true := by unfold tdB; rw [h5]; rfl
    refine v_iconst (pc := 31) (v := 1) hX (by decide) d_Sa_isTold_31 ?_
    refine v_goto (pc := 32) (tgt := 36) hX d_Sa_isTold_32 rfl ?_
    exact f_zret (pc := 36) hX hR (by first | exact bT e | exact bF e) (rfl) d_Sa_isTold_36
  · refine v_iload_n (pc := 8) hX rfl d_Sa_isTold_8 ?_
    refine v_bipush (pc := 9) (v := 10) hX (by decide) d_Sa_isTold_9 ?_
    refine v_isub (pc := 11) hX d_Sa_isTold_11 ?_
    refine v_bipush (pc := 12) (v := 6) hX (by decide) d_Sa_isTold_12 ?_
    refine f_callN (pc := 14) hX k_LJ_isBelow ks_LJ_isBelow (by decide) (C_LJ_isBelow) rfl rfl rfl (Nat.le_of_ble_eq_true rfl) (Nat.le_of_ble_eq_true rfl) (Nat.le_of_ble_eq_true rfl) d_Sa_isTold_14 ?_
    rw [show (6 : Int32).toInt - 1 = 5 from rfl, td_10]
    refine f_ifneB (pc := 17) (tgt := 31) hX d_Sa_isTold_17 rfl (fun h17 => ?_) (fun h17 => ?_)
    · have e : tdB v = true := by unfold tdB; rw [h5, h17]; rfl
      refine v_iconst (pc := 31) (v := 1) hX (by decide) d_Sa_isTold_31 ?_
      refine v_goto (pc := 32) (tgt := 36) hX d_Sa_isTold_32 rfl ?_
      exact f_zret (pc := 36) hX hR (by first | exact bT e | exact bF e) (rfl) d_Sa_isTold_36
    · refine v_iload_n (pc := 20) hX rfl d_Sa_isTold_20 ?_
      refine v_bipush (pc := 21) (v := 20) hX (by decide) d_Sa_isTold_21 ?_
      refine v_isub (pc := 23) hX d_Sa_isTold_23 ?_
      refine v_iconst (pc := 24) (v := 4) hX (by decide) d_Sa_isTold_24 ?_
      refine f_callN (pc := 25) hX k_LJ_isBelow ks_LJ_isBelow (by decide) (C_LJ_isBelow) rfl rfl rfl (Nat.le_of_ble_eq_true rfl) (Nat.le_of_ble_eq_true rfl) (Nat.le_of_ble_eq_true rfl) d_Sa_isTold_25 ?_
      rw [show (4 : Int32).toInt - 1 = 3 from rfl, td_20]
      refine f_ifeqB (pc := 28) (tgt := 35) hX d_Sa_isTold_28 rfl (fun h28 => ?_) (fun h28 => ?_)
      · have e : tdB v = false := by unfold tdB; rw [h5, h17, h28]; rfl
        refine v_iconst (pc := 35) (v := 0) hX (by decide) d_Sa_isTold_35 ?_
        exact f_zret (pc := 36) hX hR (by first | exact bT e | exact bF e) (rfl) d_Sa_isTold_36
      · have e : tdB v = true := by unfold tdB; rw [h5, h17, h28]; rfl
        refine v_iconst (pc := 31) (v := 1) hX (by decide) d_Sa_isTold_31 ?_
        refine v_goto (pc := 32) (tgt := 36) hX d_Sa_isTold_32 rfl ?_
        exact f_zret (pc := 36) hX hR (by first | exact bT e | exact bF e) (rfl) d_Sa_isTold_36
theorem i3_dbl (a p : Nat) : i3 a + 2 * i3 p = i3 (a + 2 * p) := by rw [i3_add, i3_mul]; rfl
theorem C_Sp_deciderAt_any {M : MM} {n : Nat} {x : Int32} (hn : n ≤ 4) (hM : M 3 3 = i3 n) : AF y_Sp_deciderAt c_Sp_deciderAt 2 (some (.object "LastJars$Decider")) 2 [vR 3, vI x] M (some (vR (if rg x 0 ((n : Int) - 1) = true then 12 + x.toNatClampNeg else 0))) M := by
  by_cases h : rg x 0 ((n : Int) - 1) = true
  · rw [if_pos h]
    obtain ⟨k, hk, rfl⟩ := rg_in (by omega) h
    rw [(IX.of hk (by omega)).1]
    exact C_Sp_deciderAt_in hn hM hk
  · rw [if_neg h]
    exact C_Sp_deciderAt_out hn hM (by simpa using h)
theorem C_Sp_jarAt_any {M : MM} {n : Nat} {x : Int32} (hn : n ≤ 6) (hM : M 3 2 = i3 n) : AF y_Sp_jarAt c_Sp_jarAt 2 (some (.object "LastJars$Jar")) 2 [vR 3, vI x] M (some (vR (if rg x 0 ((n : Int) - 1) = true then 6 + x.toNatClampNeg else 0))) M := by
  by_cases h : rg x 0 ((n : Int) - 1) = true
  · rw [if_pos h]
    obtain ⟨k, hk, rfl⟩ := rg_in (by omega) h
    rw [(IX.of hk (by omega)).1]
    exact C_Sp_jarAt_in hn hM hk
  · rw [if_neg h]
    exact C_Sp_jarAt_out hn hM (by simpa using h)
theorem d_Sa_buyerOf_0 : decode c_Sa_buyerOf 0 = .ok (.aload_n 0, 1) := by decide +kernel
theorem d_Sa_buyerOf_1 : decode c_Sa_buyerOf 1 = .ok (.aload_n 1, 1) := by decide +kernel
theorem d_Sa_buyerOf_2 : decode c_Sa_buyerOf 2 = .ok (.iload_n 2, 1) := by decide +kernel
theorem d_Sa_buyerOf_3 : decode c_Sa_buyerOf 3 = .ok (.iconst 2, 1) := by decide +kernel
theorem d_Sa_buyerOf_4 : decode c_Sa_buyerOf 4 = .ok (.iload_n 3, 1) := by decide +kernel
theorem d_Sa_buyerOf_5 : decode c_Sa_buyerOf 5 = .ok (.imul, 1) := by decide +kernel
theorem d_Sa_buyerOf_6 : decode c_Sa_buyerOf 6 = .ok (.iadd, 1) := by decide +kernel
theorem d_Sa_buyerOf_7 : decode c_Sa_buyerOf 7 = .ok (.invokevirtual 30, 3) := by decide +kernel
theorem d_Sa_buyerOf_10 : decode c_Sa_buyerOf 10 = .ok (.invokevirtual 36, 3) := by decide +kernel
theorem d_Sa_buyerOf_13 : decode c_Sa_buyerOf 13 = .ok (.areturn, 1) := by decide +kernel
theorem C_Sa_buyerOf {M : MM} {n nd r c a m p : Nat} {J B : JT} {q : Nat → Int32} (hJ : CJ M n J) (hB : CB M nd B) (hr : SH[r]? = some (0, 5)) (hn : NF r 0 = c) (hc : SH[c]? = some (1, 60)) (ha : a + 2 * m ≤ 60) (hq : ∀ t, t < 2 * m → M c (a + t) = q t) (hp : p < m) : AF y_Sa_buyerOf c_Sa_buyerOf 4 (some (.object "LastJars$Decider")) 3 [vR 3, vR r, vI (i3 a), vI (i3 p)] (M) (some (vR (if rg (q (2 * p)) 0 ((nd : Int) - 1) = true then 12 + (q (2 * p)).toNatClampNeg else 0))) (M) := by
  refine AF.of k_Sa_buyerOf (lo := [some (vR 3), some (vR r), some (vI (i3 a)), some (vI (i3 p))]) rfl (Nat.le_of_ble_eq_true rfl) (fun X hX hR => ?_)
  refine v_aload_n (pc := 0) hX rfl d_Sa_buyerOf_0 ?_
  refine v_aload_n (pc := 1) hX rfl d_Sa_buyerOf_1 ?_
  refine v_iload_n (pc := 2) hX rfl d_Sa_buyerOf_2 ?_
  refine v_iconst (pc := 3) (v := 2) hX (by decide) d_Sa_buyerOf_3 ?_
  refine v_iload_n (pc := 4) hX rfl d_Sa_buyerOf_4 ?_
  refine v_imul (pc := 5) hX d_Sa_buyerOf_5 ?_
  refine v_iadd (pc := 6) hX d_Sa_buyerOf_6 ?_
  rw [i3_dbl]
  refine f_callV (pc := 7) hX k_Sh_at ki_Sh_at kv_Sh_at ml_Sa_30 (C_Sh_at (j := a + 2 * p) hr hn hc (by omega)) (by assumption) rfl rfl rfl rfl (Nat.le_of_ble_eq_true rfl) (Nat.le_of_ble_eq_true rfl) (Nat.le_of_ble_eq_true rfl) d_Sa_buyerOf_7 ?_
  rw [show a + 2 * p = a + (2 * p) by omega, hq _ (by omega)]
  refine f_callV (pc := 10) hX k_Sp_deciderAt ki_Sp_deciderAt kv_Sp_deciderAt ml_Sa_36 (C_Sp_deciderAt_any hB.1 hB.2.1) rfl rfl rfl rfl rfl (Nat.le_of_ble_eq_true rfl) (Nat.le_of_ble_eq_true rfl) (Nat.le_of_ble_eq_true rfl) d_Sa_buyerOf_10 ?_
  exact f_aret (pc := 13) hX hR (rfl) (rfl) d_Sa_buyerOf_13
theorem C_Sa_buyerOf_in {M : MM} {n nd r c a m p k : Nat} {J B : JT} {q : Nat → Int32} (hJ : CJ M n J) (hB : CB M nd B) (hr : SH[r]? = some (0, 5)) (hn : NF r 0 = c) (hc : SH[c]? = some (1, 60)) (ha : a + 2 * m ≤ 60) (hq : ∀ t, t < 2 * m → M c (a + t) = q t) (hp : p < m) (hk : k < nd) (hqk : q (2 * p) = i3 k) : AF y_Sa_buyerOf c_Sa_buyerOf 4 (some (.object "LastJars$Decider")) 3 [vR 3, vR r, vI (i3 a), vI (i3 p)] (M) (some (vR (12 + k))) (M) := by
  refine AF.of k_Sa_buyerOf (lo := [some (vR 3), some (vR r), some (vI (i3 a)), some (vI (i3 p))]) rfl (Nat.le_of_ble_eq_true rfl) (fun X hX hR => ?_)
  refine v_aload_n (pc := 0) hX rfl d_Sa_buyerOf_0 ?_
  refine v_aload_n (pc := 1) hX rfl d_Sa_buyerOf_1 ?_
  refine v_iload_n (pc := 2) hX rfl d_Sa_buyerOf_2 ?_
  refine v_iconst (pc := 3) (v := 2) hX (by decide) d_Sa_buyerOf_3 ?_
  refine v_iload_n (pc := 4) hX rfl d_Sa_buyerOf_4 ?_
  refine v_imul (pc := 5) hX d_Sa_buyerOf_5 ?_
  refine v_iadd (pc := 6) hX d_Sa_buyerOf_6 ?_
  rw [i3_dbl]
  refine f_callV (pc := 7) hX k_Sh_at ki_Sh_at kv_Sh_at ml_Sa_30 (C_Sh_at (j := a + 2 * p) hr hn hc (by omega)) (by assumption) rfl rfl rfl rfl (Nat.le_of_ble_eq_true rfl) (Nat.le_of_ble_eq_true rfl) (Nat.le_of_ble_eq_true rfl) d_Sa_buyerOf_7 ?_
  rw [show a + 2 * p = a + (2 * p) by omega, hq _ (by omega), hqk]
  refine f_callV (pc := 10) hX k_Sp_deciderAt ki_Sp_deciderAt kv_Sp_deciderAt ml_Sa_36 (C_Sp_deciderAt_in hB.1 hB.2.1 hk) rfl rfl rfl rfl rfl (Nat.le_of_ble_eq_true rfl) (Nat.le_of_ble_eq_true rfl) (Nat.le_of_ble_eq_true rfl) d_Sa_buyerOf_10 ?_
  exact f_aret (pc := 13) hX hR (rfl) (rfl) d_Sa_buyerOf_13
theorem d_Sa_jarOf_0 : decode c_Sa_jarOf 0 = .ok (.aload_n 0, 1) := by decide +kernel
theorem d_Sa_jarOf_1 : decode c_Sa_jarOf 1 = .ok (.aload_n 1, 1) := by decide +kernel
theorem d_Sa_jarOf_2 : decode c_Sa_jarOf 2 = .ok (.iload_n 2, 1) := by decide +kernel
theorem d_Sa_jarOf_3 : decode c_Sa_jarOf 3 = .ok (.iconst 2, 1) := by decide +kernel
theorem d_Sa_jarOf_4 : decode c_Sa_jarOf 4 = .ok (.iload_n 3, 1) := by decide +kernel
theorem d_Sa_jarOf_5 : decode c_Sa_jarOf 5 = .ok (.imul, 1) := by decide +kernel
theorem d_Sa_jarOf_6 : decode c_Sa_jarOf 6 = .ok (.iadd, 1) := by decide +kernel
theorem d_Sa_jarOf_7 : decode c_Sa_jarOf 7 = .ok (.iconst 1, 1) := by decide +kernel
theorem d_Sa_jarOf_8 : decode c_Sa_jarOf 8 = .ok (.iadd, 1) := by decide +kernel
theorem d_Sa_jarOf_9 : decode c_Sa_jarOf 9 = .ok (.invokevirtual 30, 3) := by decide +kernel
theorem d_Sa_jarOf_12 : decode c_Sa_jarOf 12 = .ok (.invokevirtual 42, 3) := by decide +kernel
theorem d_Sa_jarOf_15 : decode c_Sa_jarOf 15 = .ok (.areturn, 1) := by decide +kernel
theorem C_Sa_jarOf {M : MM} {n nd r c a m p : Nat} {J B : JT} {q : Nat → Int32} (hJ : CJ M n J) (hB : CB M nd B) (hr : SH[r]? = some (0, 5)) (hn : NF r 0 = c) (hc : SH[c]? = some (1, 60)) (ha : a + 2 * m ≤ 60) (hq : ∀ t, t < 2 * m → M c (a + t) = q t) (hp : p < m) : AF y_Sa_jarOf c_Sa_jarOf 4 (some (.object "LastJars$Jar")) 3 [vR 3, vR r, vI (i3 a), vI (i3 p)] (M) (some (vR (if rg (q (2 * p + 1)) 0 ((n : Int) - 1) = true then 6 + (q (2 * p + 1)).toNatClampNeg else 0))) (M) := by
  refine AF.of k_Sa_jarOf (lo := [some (vR 3), some (vR r), some (vI (i3 a)), some (vI (i3 p))]) rfl (Nat.le_of_ble_eq_true rfl) (fun X hX hR => ?_)
  refine v_aload_n (pc := 0) hX rfl d_Sa_jarOf_0 ?_
  refine v_aload_n (pc := 1) hX rfl d_Sa_jarOf_1 ?_
  refine v_iload_n (pc := 2) hX rfl d_Sa_jarOf_2 ?_
  refine v_iconst (pc := 3) (v := 2) hX (by decide) d_Sa_jarOf_3 ?_
  refine v_iload_n (pc := 4) hX rfl d_Sa_jarOf_4 ?_
  refine v_imul (pc := 5) hX d_Sa_jarOf_5 ?_
  refine v_iadd (pc := 6) hX d_Sa_jarOf_6 ?_
  refine v_iconst (pc := 7) (v := 1) hX (by decide) d_Sa_jarOf_7 ?_
  refine v_iadd (pc := 8) hX d_Sa_jarOf_8 ?_
  rw [i3_dbl, ← i3_succ]
  refine f_callV (pc := 9) hX k_Sh_at ki_Sh_at kv_Sh_at ml_Sa_30 (C_Sh_at (j := a + 2 * p + 1) hr hn hc (by omega)) (by assumption) rfl rfl rfl rfl (Nat.le_of_ble_eq_true rfl) (Nat.le_of_ble_eq_true rfl) (Nat.le_of_ble_eq_true rfl) d_Sa_jarOf_9 ?_
  rw [show a + 2 * p + 1 = a + (2 * p + 1) by omega, hq _ (by omega)]
  refine f_callV (pc := 12) hX k_Sp_jarAt ki_Sp_jarAt kv_Sp_jarAt ml_Sa_42 (C_Sp_jarAt_any hJ.1 hJ.2.1) rfl rfl rfl rfl rfl (Nat.le_of_ble_eq_true rfl) (Nat.le_of_ble_eq_true rfl) (Nat.le_of_ble_eq_true rfl) d_Sa_jarOf_12 ?_
  exact f_aret (pc := 15) hX hR (rfl) (rfl) d_Sa_jarOf_15
theorem C_Sa_jarOf_in {M : MM} {n nd r c a m p k : Nat} {J B : JT} {q : Nat → Int32} (hJ : CJ M n J) (hB : CB M nd B) (hr : SH[r]? = some (0, 5)) (hn : NF r 0 = c) (hc : SH[c]? = some (1, 60)) (ha : a + 2 * m ≤ 60) (hq : ∀ t, t < 2 * m → M c (a + t) = q t) (hp : p < m) (hk : k < n) (hqk : q (2 * p + 1) = i3 k) : AF y_Sa_jarOf c_Sa_jarOf 4 (some (.object "LastJars$Jar")) 3 [vR 3, vR r, vI (i3 a), vI (i3 p)] (M) (some (vR (6 + k))) (M) := by
  refine AF.of k_Sa_jarOf (lo := [some (vR 3), some (vR r), some (vI (i3 a)), some (vI (i3 p))]) rfl (Nat.le_of_ble_eq_true rfl) (fun X hX hR => ?_)
  refine v_aload_n (pc := 0) hX rfl d_Sa_jarOf_0 ?_
  refine v_aload_n (pc := 1) hX rfl d_Sa_jarOf_1 ?_
  refine v_iload_n (pc := 2) hX rfl d_Sa_jarOf_2 ?_
  refine v_iconst (pc := 3) (v := 2) hX (by decide) d_Sa_jarOf_3 ?_
  refine v_iload_n (pc := 4) hX rfl d_Sa_jarOf_4 ?_
  refine v_imul (pc := 5) hX d_Sa_jarOf_5 ?_
  refine v_iadd (pc := 6) hX d_Sa_jarOf_6 ?_
  refine v_iconst (pc := 7) (v := 1) hX (by decide) d_Sa_jarOf_7 ?_
  refine v_iadd (pc := 8) hX d_Sa_jarOf_8 ?_
  rw [i3_dbl, ← i3_succ]
  refine f_callV (pc := 9) hX k_Sh_at ki_Sh_at kv_Sh_at ml_Sa_30 (C_Sh_at (j := a + 2 * p + 1) hr hn hc (by omega)) (by assumption) rfl rfl rfl rfl (Nat.le_of_ble_eq_true rfl) (Nat.le_of_ble_eq_true rfl) (Nat.le_of_ble_eq_true rfl) d_Sa_jarOf_9 ?_
  rw [show a + 2 * p + 1 = a + (2 * p + 1) by omega, hq _ (by omega), hqk]
  refine f_callV (pc := 12) hX k_Sp_jarAt ki_Sp_jarAt kv_Sp_jarAt ml_Sa_42 (C_Sp_jarAt_in hJ.1 hJ.2.1 hk) rfl rfl rfl rfl rfl (Nat.le_of_ble_eq_true rfl) (Nat.le_of_ble_eq_true rfl) (Nat.le_of_ble_eq_true rfl) d_Sa_jarOf_12 ?_
  exact f_aret (pc := 15) hX hR (rfl) (rfl) d_Sa_jarOf_15
theorem if0 {b : Bool} {x y : Nat} (h : (if b = true then (x + y) else 0) = 0) (hx : x ≠ 0 := by decide) : b = false := by
  cases b
  · rfl
  · simp at h; omega
theorem if1 {b : Bool} {x : Nat} (h : ¬ (if b = true then x else 0) = 0) : b = true := by
  cases b
  · exact absurd rfl h
  · rfl
theorem d_Sa_areAllThere_0 : decode c_Sa_areAllThere 0 = .ok (.iconst 0, 1) := by decide +kernel
theorem d_Sa_areAllThere_1 : decode c_Sa_areAllThere 1 = .ok (.istore 4, 2) := by decide +kernel
theorem d_Sa_areAllThere_3 : decode c_Sa_areAllThere 3 = .ok (.iload 4, 2) := by decide +kernel
theorem d_Sa_areAllThere_5 : decode c_Sa_areAllThere 5 = .ok (.iload_n 3, 1) := by decide +kernel
theorem d_Sa_areAllThere_6 : decode c_Sa_areAllThere 6 = .ok (.if_icmp .ge 33, 3) := by decide +kernel
theorem d_Sa_areAllThere_9 : decode c_Sa_areAllThere 9 = .ok (.aload_n 0, 1) := by decide +kernel
theorem d_Sa_areAllThere_10 : decode c_Sa_areAllThere 10 = .ok (.aload_n 1, 1) := by decide +kernel
theorem d_Sa_areAllThere_11 : decode c_Sa_areAllThere 11 = .ok (.iload_n 2, 1) := by decide +kernel
theorem d_Sa_areAllThere_12 : decode c_Sa_areAllThere 12 = .ok (.iload 4, 2) := by decide +kernel
theorem d_Sa_areAllThere_14 : decode c_Sa_areAllThere 14 = .ok (.invokestatic 22, 3) := by decide +kernel
theorem d_Sa_areAllThere_17 : decode c_Sa_areAllThere 17 = .ok (.ifnull 14, 3) := by decide +kernel
theorem d_Sa_areAllThere_20 : decode c_Sa_areAllThere 20 = .ok (.aload_n 0, 1) := by decide +kernel
theorem d_Sa_areAllThere_21 : decode c_Sa_areAllThere 21 = .ok (.aload_n 1, 1) := by decide +kernel
theorem d_Sa_areAllThere_22 : decode c_Sa_areAllThere 22 = .ok (.iload_n 2, 1) := by decide +kernel
theorem d_Sa_areAllThere_23 : decode c_Sa_areAllThere 23 = .ok (.iload 4, 2) := by decide +kernel
theorem d_Sa_areAllThere_25 : decode c_Sa_areAllThere 25 = .ok (.invokestatic 26, 3) := by decide +kernel
theorem d_Sa_areAllThere_28 : decode c_Sa_areAllThere 28 = .ok (.ifnonnull 5, 3) := by decide +kernel
theorem d_Sa_areAllThere_31 : decode c_Sa_areAllThere 31 = .ok (.iconst 0, 1) := by decide +kernel
theorem d_Sa_areAllThere_32 : decode c_Sa_areAllThere 32 = .ok (.ireturn, 1) := by decide +kernel
theorem d_Sa_areAllThere_33 : decode c_Sa_areAllThere 33 = .ok (.iinc 4 1, 3) := by decide +kernel
theorem d_Sa_areAllThere_36 : decode c_Sa_areAllThere 36 = .ok (.goto (-33), 3) := by decide +kernel
theorem d_Sa_areAllThere_39 : decode c_Sa_areAllThere 39 = .ok (.iconst 1, 1) := by decide +kernel
theorem d_Sa_areAllThere_40 : decode c_Sa_areAllThere 40 = .ok (.ireturn, 1) := by decide +kernel
theorem C_Sa_areAllThere {M : MM} {n nd r c a m : Nat} {J B : JT} {q : Nat → Int32} (hJ : CJ M n J) (hB : CB M nd B) (hr : SH[r]? = some (0, 5)) (hn : NF r 0 = c) (hc : SH[c]? = some (1, 60)) (ha : a + 2 * m ≤ 60) (hq : ∀ t, t < 2 * m → M c (a + t) = q t) : AF y_Sa_areAllThere c_Sa_areAllThere 5 (some .boolean) 4 [vR 3, vR r, vI (i3 a), vI (i3 m)] (M) (some (vI (bI (allB (fun p => rg (q (2 * p)) 0 ((nd : Int) - 1) && rg (q (2 * p + 1)) 0 ((n : Int) - 1)) m)))) (M) := by
  refine AF.of k_Sa_areAllThere (lo := [some (vR 3), some (vR r), some (vI (i3 a)), some (vI (i3 m)), none]) rfl (Nat.le_of_ble_eq_true rfl) (fun X hX hR => ?_)
  refine v_iconst (pc := 0) (v := 0) hX (by decide) d_Sa_areAllThere_0 ?_
  refine v_istore (pc := 1) (lo' := [some (vR _), some (vR _), some (vI _), some (vI _), some (vI _)]) hX (Nat.le_of_ble_eq_true rfl) rfl d_Sa_areAllThere_1 ?_
  refine VW.cast (lo' := [some (vR 3), some (vR r), some (vI (i3 a)), some (vI (i3 m)), some (vI (i3 0))]) (st' := []) (G' := gM (M)) rfl rfl rfl ?_
  refine v_forI (X := X) (head := 3) (m) (fun kk => [some (vR 3), some (vR r), some (vI (i3 a)), some (vI (i3 m)), some (vI (i3 kk))]) (fun kk => M) (fun kk => allB (fun p => rg (q (2 * p)) 0 ((nd : Int) - 1) && rg (q (2 * p + 1)) 0 ((n : Int) - 1)) kk = true) (rfl) (fun k hk hIk ih3 => ?_) (fun hIk => ?_)
  · show VW X 3 [some (vR 3), some (vR r), some (vI (i3 a)), some (vI (i3 m)), some (vI (i3 k))] [] (gM (M))
    have hIk : allB (fun p => rg (q (2 * p)) 0 ((nd : Int) - 1) && rg (q (2 * p + 1)) 0 ((n : Int) - 1)) k = true := hIk
    refine v_iload (pc := 3) hX rfl d_Sa_areAllThere_3 ?_
    refine v_iload_n (pc := 5) hX rfl d_Sa_areAllThere_5 ?_
    refine v_icmp_ge (pc := 6) (tgt := 39) hX d_Sa_areAllThere_6 rfl (fun h6 => False.elim (i3_ge_abs hk (by omega) h6)) (fun h6 => ?_)
    refine v_aload_n (pc := 9) hX rfl d_Sa_areAllThere_9 ?_
    refine v_aload_n (pc := 10) hX rfl d_Sa_areAllThere_10 ?_
    refine v_iload_n (pc := 11) hX rfl d_Sa_areAllThere_11 ?_
    refine v_iload (pc := 12) hX rfl d_Sa_areAllThere_12 ?_
    refine f_callS (pc := 14) hX k_Sa_buyerOf ks_Sa_buyerOf ml_Sa_22 (C_Sa_buyerOf hJ hB hr hn hc ha hq hk) rfl rfl rfl (Nat.le_of_ble_eq_true rfl) (Nat.le_of_ble_eq_true rfl) (Nat.le_of_ble_eq_true rfl) d_Sa_areAllThere_14 ?_
    refine v_ifnull (pc := 17) (tgt := 31) hX d_Sa_areAllThere_17 rfl (fun h17 => ?_) (fun h17 => ?_)
    · have b1 : rg (q (2 * k)) 0 ((nd : Int) - 1) = false := if0 h17
      have e : allB (fun p => rg (q (2 * p)) 0 ((nd : Int) - 1) && rg (q (2 * p + 1)) 0 ((n : Int) - 1)) m = false := allB_no hk (by rw [b1]; rfl)
      refine v_iconst (pc := 31) (v := 0) hX (by decide) d_Sa_areAllThere_31 ?_
      exact f_zret (pc := 32) hX hR (bF e) (rfl) d_Sa_areAllThere_32
    · have b1 : rg (q (2 * k)) 0 ((nd : Int) - 1) = true := if1 h17
      refine v_aload_n (pc := 20) hX rfl d_Sa_areAllThere_20 ?_
      refine v_aload_n (pc := 21) hX rfl d_Sa_areAllThere_21 ?_
      refine v_iload_n (pc := 22) hX rfl d_Sa_areAllThere_22 ?_
      refine v_iload (pc := 23) hX rfl d_Sa_areAllThere_23 ?_
      refine f_callS (pc := 25) hX k_Sa_jarOf ks_Sa_jarOf ml_Sa_26 (C_Sa_jarOf hJ hB hr hn hc ha hq hk) rfl rfl rfl (Nat.le_of_ble_eq_true rfl) (Nat.le_of_ble_eq_true rfl) (Nat.le_of_ble_eq_true rfl) d_Sa_areAllThere_25 ?_
      refine v_ifnonnull (pc := 28) (tgt := 33) hX d_Sa_areAllThere_28 rfl (fun h28 => ?_) (fun h28 => ?_)
      · have b2 : rg (q (2 * k + 1)) 0 ((n : Int) - 1) = true := if1 h28
        refine v_iinc (pc := 33) (lo' := [some (vR _), some (vR _), some (vI _), some (vI _), some (vI _)]) hX rfl rfl d_Sa_areAllThere_33 ?_
        refine v_goto (pc := 36) (tgt := 3) hX d_Sa_areAllThere_36 rfl ?_
        exact VW.cast (by rw [i3_succ]; rfl) rfl rfl (ih3 (allB_s hIk (by rw [b1, b2]; rfl)))
      · have b2 : rg (q (2 * k + 1)) 0 ((n : Int) - 1) = false := if0 h28
        have e : allB (fun p => rg (q (2 * p)) 0 ((nd : Int) - 1) && rg (q (2 * p + 1)) 0 ((n : Int) - 1)) m = false := allB_no hk (by rw [b2]; simp)
        refine v_iconst (pc := 31) (v := 0) hX (by decide) d_Sa_areAllThere_31 ?_
        exact f_zret (pc := 32) hX hR (bF e) (rfl) d_Sa_areAllThere_32
  · show VW X 3 [some (vR 3), some (vR r), some (vI (i3 a)), some (vI (i3 m)), some (vI (i3 (m)))] [] (gM (M))
    have hIk : allB (fun p => rg (q (2 * p)) 0 ((nd : Int) - 1) && rg (q (2 * p + 1)) 0 ((n : Int) - 1)) (m) = true := hIk
    refine v_iload (pc := 3) hX rfl d_Sa_areAllThere_3 ?_
    refine v_iload_n (pc := 5) hX rfl d_Sa_areAllThere_5 ?_
    refine v_icmp_ge (pc := 6) (tgt := 39) hX d_Sa_areAllThere_6 rfl (fun h6 => ?_) (fun h6 => False.elim (absurd (Int32.le_refl _) h6))
    refine v_iconst (pc := 39) (v := 1) hX (by decide) d_Sa_areAllThere_39 ?_
    exact f_zret (pc := 40) hX hR (bT hIk) (rfl) d_Sa_areAllThere_40
abbrev YS : Type := ((Nat → Int32) × (Nat → Int32)) × (Int32 × Int32) × Nat
def upF (f : Nat → Int32) (k : Nat) (x : Int32) : Nat → Int32 := fun i => if i = k then x else f i
def ycan (J : JT) (b j : Nat) (s : YS) : Bool := decide (0 < s.1.1 j) && decide (J j 4 ≤ s.1.2 b)
def yst (J B : JT) (b j p : Nat) (s : YS) : YS := if s.2.2 = 0 then (if ycan J b j s = true then ((upF s.1.1 j (s.1.1 j - 1), upF s.1.2 b (s.1.2 b - J j 4)), (s.2.1.1 + bI (dkB J B j b), s.2.1.2 + J j 4), 0) else (s.1, s.2.1, p + 1)) else s
def yr (J B : JT) (pb pj : Nat → Nat) : Nat → YS
  | 0 => ((fun j => J j 3, fun b => B b 2), (0, 0), 0)
  | p + 1 => yst J B (pb p) (pj p) p (yr J B pb pj p)
theorem yr_stay {J B : JT} {pb pj : Nat → Nat} {k : Nat} (h : (yr J B pb pj k).2.2 ≠ 0) : ∀ m, k ≤ m → yr J B pb pj m = yr J B pb pj k := by
  intro m hm
  induction m with
  | zero => rw [show k = 0 by omega]
  | succ m ih =>
    by_cases e : k = m + 1
    · rw [e]
    · have h2 := ih (by omega)
      show yst J B (pb m) (pj m) m (yr J B pb pj m) = _
      rw [h2]
      unfold yst
      rw [if_neg h]
theorem yr_le (J B : JT) (pb pj : Nat → Nat) : ∀ m, (yr J B pb pj m).2.2 ≤ m
  | 0 => Nat.le_refl _
  | m + 1 => by
    have := yr_le J B pb pj m
    show (yst J B (pb m) (pj m) m (yr J B pb pj m)).2.2 ≤ _
    unfold yst
    split
    · split
      · exact Nat.zero_le _
      · exact Nat.le_refl _
    · omega
/-- the year's own cells -/
def YM (M : MM) (n nd : Nat) (s : YS) : MM := fun a i =>
  if a = 17 ∧ i < 6 then (if i < n then s.1.1 i else M (6 + i) 3)
  else if a = 18 ∧ i < 4 then (if i < nd then s.1.2 i else M (12 + i) 2)
  else if a = 16 ∧ i = 2 then (if s.2.2 = 0 then -9 else i3 (s.2.2 - 1))
  else if a = 16 ∧ i = 3 then s.2.1.1
  else if a = 16 ∧ i = 4 then s.2.1.2
  else M a i
theorem YM_ne {M : MM} {n nd : Nat} {s : YS} {a i : Nat} (h : a < 16 ∨ 18 < a) : YM M n nd s a i = M a i := by
  unfold YM
  rw [if_neg (by omega), if_neg (by omega), if_neg (by omega), if_neg (by omega), if_neg (by omega)]
theorem YM_h {M : MM} {n nd : Nat} {s : YS} {i : Nat} (h : i < n) (h6 : n ≤ 6) : YM M n nd s 17 i = s.1.1 i := by
  unfold YM
  rw [if_pos (by omega), if_pos h]
theorem YM_p {M : MM} {n nd : Nat} {s : YS} {i : Nat} (h : i < nd) (h4 : nd ≤ 4) : YM M n nd s 18 i = s.1.2 i := by
  unfold YM
  rw [if_neg (by omega), if_pos (by omega), if_pos h]
theorem YM_2 {M : MM} {n nd : Nat} {s : YS} : YM M n nd s 16 2 = (if s.2.2 = 0 then -9 else i3 (s.2.2 - 1)) := by
  unfold YM
  rw [if_neg (by omega), if_neg (by omega), if_pos (by omega)]
theorem YM_3 {M : MM} {n nd : Nat} {s : YS} : YM M n nd s 16 3 = s.2.1.1 := by
  unfold YM
  rw [if_neg (by omega), if_neg (by omega), if_neg (by omega), if_pos (by omega)]
theorem YM_4 {M : MM} {n nd : Nat} {s : YS} : YM M n nd s 16 4 = s.2.1.2 := by
  unfold YM
  rw [if_neg (by omega), if_neg (by omega), if_neg (by omega), if_neg (by omega), if_pos (by omega)]
def bgY (M : MM) : MM := upM (upM (upM M 16 2 (-9)) 16 3 0) 16 4 0
theorem bgY_ne {M : MM} {a i : Nat} (h : a ≠ 16) : bgY M a i = M a i := by
  unfold bgY
  rw [upM_ne (by omega), upM_ne (by omega), upM_ne (by omega)]
theorem YM_0 {M : MM} {n nd : Nat} {J B : JT} {pb pj : Nat → Nat} (hJ : CJ M n J) (hB : CB M nd B) : cpF (cpF (bgY M) 17 (fun i => M (6 + i) 3) 6) 18 (fun i => M (12 + i) 2) 4 = YM M n nd (yr J B pb pj 0) := by
  funext a i
  unfold YM cpF bgY upM
  by_cases h1 : a = 18 ∧ i < 4
  · rw [if_pos h1, if_neg (by omega), if_pos h1]
    by_cases h2 : i < nd
    · rw [if_pos h2]; exact hB.2.2 i h2 2 (by decide)
    · rw [if_neg h2]
  · rw [if_neg h1]
    by_cases h3 : a = 17 ∧ i < 6
    · rw [if_pos h3, if_pos h3]
      by_cases h2 : i < n
      · rw [if_pos h2]; exact hJ.2.2 i h2 3 (by decide)
      · rw [if_neg h2]
    · rw [if_neg h3, if_neg h3, if_neg h1]
      by_cases h4 : a = 16 ∧ i = 4
      · rw [if_pos h4, if_neg (by omega), if_neg (by omega), if_pos h4]; rfl
      · rw [if_neg h4]
        by_cases h5 : a = 16 ∧ i = 3
        · rw [if_pos h5, if_neg (by omega), if_pos h5]; rfl
        · rw [if_neg h5]
          by_cases h7 : a = 16 ∧ i = 2
          · rw [if_pos h7, if_pos h7]; rfl
          · rw [if_neg h7, if_neg h7, if_neg h5, if_neg h4]
theorem YM_take {M : MM} {n nd b j p : Nat} {J B : JT} {s : YS} (h6 : n ≤ 6) (h4 : nd ≤ 4) (hj : j < n) (hb : b < nd) (h0 : s.2.2 = 0) (hc : ycan J b j s = true) {x : Int32} (hx : x = bI (dkB J B j b)) :
    upM (upM (upM (upM (YM M n nd s) 17 j (s.1.1 j - 1)) 18 b (s.1.2 b - J j 4)) 16 4 (s.2.1.2 + J j 4)) 16 3 (s.2.1.1 + x) = YM M n nd (yst J B b j p s) := by
  subst hx
  have e : yst J B b j p s = ((upF s.1.1 j (s.1.1 j - 1), upF s.1.2 b (s.1.2 b - J j 4)), (s.2.1.1 + bI (dkB J B j b), s.2.1.2 + J j 4), 0) := by
    unfold yst; rw [if_pos h0, if_pos hc]
  rw [e]
  funext a i
  unfold upM YM
  by_cases h1 : a = 16
  · subst h1
    by_cases i3' : i = 3
    · subst i3'; simp
    · by_cases i4 : i = 4
      · subst i4; simp
      · simp [i3', i4, h0]
  · by_cases h2 : a = 18
    · subst h2
      by_cases hi : i = b
      · subst hi
        simp [upF, hb, show i < 4 by omega]
      · simp [upF, hi]
    · by_cases h3 : a = 17
      · subst h3
        by_cases hi : i = j
        · subst hi
          simp [upF, hj, show i < 6 by omega]
        · simp [upF, hi]
      · simp [h1, h2, h3]
theorem YM_wrong {M : MM} {n nd b j p : Nat} {J B : JT} {s : YS} (h0 : s.2.2 = 0) (hc : ycan J b j s = false) : upM (YM M n nd s) 16 2 (i3 p) = YM M n nd (yst J B b j p s) := by
  have e : yst J B b j p s = (s.1, s.2.1, p + 1) := by
    unfold yst; rw [if_pos h0, hc]; rfl
  rw [e]
  funext a i
  unfold upM YM
  by_cases h1 : a = 16
  · subst h1
    by_cases i3' : i = 2
    · subst i3'; simp
    · simp [i3']
  · simp [h1]
theorem d_Sa_begin_0 : decode c_Sa_begin 0 = .ok (.aload_n 0, 1) := by decide +kernel
theorem d_Sa_begin_1 : decode c_Sa_begin 1 = .ok (.bipush (-9), 2) := by decide +kernel
theorem d_Sa_begin_3 : decode c_Sa_begin 3 = .ok (.putfield 50, 3) := by decide +kernel
theorem d_Sa_begin_6 : decode c_Sa_begin 6 = .ok (.aload_n 0, 1) := by decide +kernel
theorem d_Sa_begin_7 : decode c_Sa_begin 7 = .ok (.iconst 0, 1) := by decide +kernel
theorem d_Sa_begin_8 : decode c_Sa_begin 8 = .ok (.putfield 62, 3) := by decide +kernel
theorem d_Sa_begin_11 : decode c_Sa_begin 11 = .ok (.aload_n 0, 1) := by decide +kernel
theorem d_Sa_begin_12 : decode c_Sa_begin 12 = .ok (.iconst 0, 1) := by decide +kernel
theorem d_Sa_begin_13 : decode c_Sa_begin 13 = .ok (.putfield 59, 3) := by decide +kernel
theorem d_Sa_begin_16 : decode c_Sa_begin 16 = .ok (.iconst 0, 1) := by decide +kernel
theorem d_Sa_begin_17 : decode c_Sa_begin 17 = .ok (.istore_n 2, 1) := by decide +kernel
theorem d_Sa_begin_18 : decode c_Sa_begin 18 = .ok (.iload_n 2, 1) := by decide +kernel
theorem d_Sa_begin_19 : decode c_Sa_begin 19 = .ok (.bipush 6, 2) := by decide +kernel
theorem d_Sa_begin_21 : decode c_Sa_begin 21 = .ok (.if_icmp .ge 24, 3) := by decide +kernel
theorem d_Sa_begin_24 : decode c_Sa_begin 24 = .ok (.aload_n 0, 1) := by decide +kernel
theorem d_Sa_begin_25 : decode c_Sa_begin 25 = .ok (.getfield 9, 3) := by decide +kernel
theorem d_Sa_begin_28 : decode c_Sa_begin 28 = .ok (.iload_n 2, 1) := by decide +kernel
theorem d_Sa_begin_29 : decode c_Sa_begin 29 = .ok (.aload_n 1, 1) := by decide +kernel
theorem d_Sa_begin_30 : decode c_Sa_begin 30 = .ok (.getfield 71, 3) := by decide +kernel
theorem d_Sa_begin_33 : decode c_Sa_begin 33 = .ok (.iload_n 2, 1) := by decide +kernel
theorem d_Sa_begin_34 : decode c_Sa_begin 34 = .ok (.aaload, 1) := by decide +kernel
theorem d_Sa_begin_35 : decode c_Sa_begin 35 = .ok (.getfield 75, 3) := by decide +kernel
theorem d_Sa_begin_38 : decode c_Sa_begin 38 = .ok (.iastore, 1) := by decide +kernel
theorem d_Sa_begin_39 : decode c_Sa_begin 39 = .ok (.iinc 2 1, 3) := by decide +kernel
theorem d_Sa_begin_42 : decode c_Sa_begin 42 = .ok (.goto (-24), 3) := by decide +kernel
theorem d_Sa_begin_45 : decode c_Sa_begin 45 = .ok (.iconst 0, 1) := by decide +kernel
theorem d_Sa_begin_46 : decode c_Sa_begin 46 = .ok (.istore_n 2, 1) := by decide +kernel
theorem d_Sa_begin_47 : decode c_Sa_begin 47 = .ok (.iload_n 2, 1) := by decide +kernel
theorem d_Sa_begin_48 : decode c_Sa_begin 48 = .ok (.iconst 4, 1) := by decide +kernel
theorem d_Sa_begin_49 : decode c_Sa_begin 49 = .ok (.if_icmp .ge 24, 3) := by decide +kernel
theorem d_Sa_begin_52 : decode c_Sa_begin 52 = .ok (.aload_n 0, 1) := by decide +kernel
theorem d_Sa_begin_53 : decode c_Sa_begin 53 = .ok (.getfield 15, 3) := by decide +kernel
theorem d_Sa_begin_56 : decode c_Sa_begin 56 = .ok (.iload_n 2, 1) := by decide +kernel
theorem d_Sa_begin_57 : decode c_Sa_begin 57 = .ok (.aload_n 1, 1) := by decide +kernel
theorem d_Sa_begin_58 : decode c_Sa_begin 58 = .ok (.getfield 77, 3) := by decide +kernel
theorem d_Sa_begin_61 : decode c_Sa_begin 61 = .ok (.iload_n 2, 1) := by decide +kernel
theorem d_Sa_begin_62 : decode c_Sa_begin 62 = .ok (.aaload, 1) := by decide +kernel
theorem d_Sa_begin_63 : decode c_Sa_begin 63 = .ok (.getfield 81, 3) := by decide +kernel
theorem d_Sa_begin_66 : decode c_Sa_begin 66 = .ok (.iastore, 1) := by decide +kernel
theorem d_Sa_begin_67 : decode c_Sa_begin 67 = .ok (.iinc 2 1, 3) := by decide +kernel
theorem d_Sa_begin_70 : decode c_Sa_begin 70 = .ok (.goto (-23), 3) := by decide +kernel
theorem d_Sa_begin_73 : decode c_Sa_begin 73 = .ok (.return_, 1) := by decide +kernel
theorem C_Sa_begin {M : MM} {n nd : Nat} {J B : JT} {pb pj : Nat → Nat} (hJ : CJ M n J) (hB : CB M nd B) : AF y_Sa_begin c_Sa_begin 3 none 1 [vR 16, vR 3] (M) (none) (YM M n nd (yr J B pb pj 0)) := by
  refine AF.of k_Sa_begin (lo := [some (vR 16), some (vR 3), none]) rfl (Nat.le_of_ble_eq_true rfl) (fun X hX hR => ?_)
  refine v_aload_n (pc := 0) hX rfl d_Sa_begin_0 ?_
  refine v_bipush (pc := 1) (v := (-9)) hX (by decide) d_Sa_begin_1 ?_
  refine g_putI (pc := 3) hX fl_Sa_50 rfl (finI rfl rfl) rfl rfl rfl d_Sa_begin_3 ?_
  refine v_aload_n (pc := 6) hX rfl d_Sa_begin_6 ?_
  refine v_iconst (pc := 7) (v := 0) hX (by decide) d_Sa_begin_7 ?_
  refine g_putI (pc := 8) hX fl_Sa_62 rfl (finI rfl rfl) rfl rfl rfl d_Sa_begin_8 ?_
  refine v_aload_n (pc := 11) hX rfl d_Sa_begin_11 ?_
  refine v_iconst (pc := 12) (v := 0) hX (by decide) d_Sa_begin_12 ?_
  refine g_putI (pc := 13) hX fl_Sa_59 rfl (finI rfl rfl) rfl rfl rfl d_Sa_begin_13 ?_
  refine v_iconst (pc := 16) (v := 0) hX (by decide) d_Sa_begin_16 ?_
  refine v_istore_n (pc := 17) (lo' := [some (vR _), some (vR _), some (vI _)]) hX (Nat.le_of_ble_eq_true rfl) rfl d_Sa_begin_17 ?_
  refine VW.cast (lo' := [some (vR 16), some (vR 3), some (vI (i3 0))]) (st' := []) (G' := gM (cpF (bgY M) 17 (fun i => M (6 + i) 3) 0)) rfl rfl (by rw [cpF_0]; rfl) ?_
  refine v_for (X := X) (head := 18) (6) (fun kk => [some (vR 16), some (vR 3), some (vI (i3 kk))]) (fun kk => cpF (bgY M) 17 (fun i => M (6 + i) 3) kk) (fun k hk ih18 => ?_) ?_
  · show VW X 18 [some (vR 16), some (vR 3), some (vI (i3 k))] [] (gM (cpF (bgY M) 17 (fun i => M (6 + i) 3) k))
    have hsj := sh_jar k hk
    refine v_iload_n (pc := 18) hX rfl d_Sa_begin_18 ?_
    refine v_bipush (pc := 19) (v := 6) hX (by decide) d_Sa_begin_19 ?_
    refine v_icmp_ge (pc := 21) (tgt := 45) hX d_Sa_begin_21 rfl (fun h21 => False.elim (i3_ge_abs hk (by decide) h21)) (fun h21 => ?_)
    refine v_aload_n (pc := 24) hX rfl d_Sa_begin_24 ?_
    refine g_getR (pc := 25) hX fl_Sa_9 rfl rfl nf_16_0 d_Sa_begin_25 ?_
    refine v_iload_n (pc := 28) hX rfl d_Sa_begin_28 ?_
    refine v_aload_n (pc := 29) hX rfl d_Sa_begin_29 ?_
    refine g_getR (pc := 30) hX fl_Sa_71 rfl rfl nf_3_0 d_Sa_begin_30 ?_
    refine v_iload_n (pc := 33) hX rfl d_Sa_begin_33 ?_
    refine g_aald (pc := 34) (c := 1) hX (by decide) (by decide) rfl (IX.of hk (by decide)) (nf_jar k hk) d_Sa_begin_34 ?_
    refine g_getI (pc := 35) hX fl_Sa_75 rfl (by assumption) d_Sa_begin_35 ?_
    rw [cpF_ne (by omega), bgY_ne (by omega)]
    refine g_iast (pc := 38) hX rfl (IX.of hk (by decide)) d_Sa_begin_38 ?_
    refine v_iinc (pc := 39) (lo' := [some (vR _), some (vR _), some (vI _)]) hX rfl rfl d_Sa_begin_39 ?_
    refine v_goto (pc := 42) (tgt := 18) hX d_Sa_begin_42 rfl ?_
    exact VW.cast (by rw [i3_succ]; rfl) rfl (by rw [cpF_s]) ih18
  · show VW X 18 [some (vR 16), some (vR 3), some (vI (i3 (6)))] [] (gM (cpF (bgY M) 17 (fun i => M (6 + i) 3) (6)))
    refine v_iload_n (pc := 18) hX rfl d_Sa_begin_18 ?_
    refine v_bipush (pc := 19) (v := 6) hX (by decide) d_Sa_begin_19 ?_
    refine v_icmp_ge (pc := 21) (tgt := 45) hX d_Sa_begin_21 rfl (fun h21 => ?_) (fun h21 => False.elim (by revert h21; decide))
    refine v_iconst (pc := 45) (v := 0) hX (by decide) d_Sa_begin_45 ?_
    refine v_istore_n (pc := 46) (lo' := [some (vR _), some (vR _), some (vI _)]) hX (Nat.le_of_ble_eq_true rfl) rfl d_Sa_begin_46 ?_
    refine VW.cast (lo' := [some (vR 16), some (vR 3), some (vI (i3 0))]) (st' := []) (G' := gM (cpF (cpF (bgY M) 17 (fun i => M (6 + i) 3) 6) 18 (fun i => M (12 + i) 2) 0)) rfl rfl (by rw [cpF_0]) ?_
    refine v_for (X := X) (head := 47) (4) (fun kk => [some (vR 16), some (vR 3), some (vI (i3 kk))]) (fun kk => cpF (cpF (bgY M) 17 (fun i => M (6 + i) 3) 6) 18 (fun i => M (12 + i) 2) kk) (fun k hk ih47 => ?_) ?_
    · show VW X 47 [some (vR 16), some (vR 3), some (vI (i3 k))] [] (gM (cpF (cpF (bgY M) 17 (fun i => M (6 + i) 3) 6) 18 (fun i => M (12 + i) 2) k))
      have hsj := sh_dec k hk
      refine v_iload_n (pc := 47) hX rfl d_Sa_begin_47 ?_
      refine v_iconst (pc := 48) (v := 4) hX (by decide) d_Sa_begin_48 ?_
      refine v_icmp_ge (pc := 49) (tgt := 73) hX d_Sa_begin_49 rfl (fun h49 => False.elim (i3_ge_abs hk (by decide) h49)) (fun h49 => ?_)
      refine v_aload_n (pc := 52) hX rfl d_Sa_begin_52 ?_
      refine g_getR (pc := 53) hX fl_Sa_15 rfl rfl nf_16_1 d_Sa_begin_53 ?_
      refine v_iload_n (pc := 56) hX rfl d_Sa_begin_56 ?_
      refine v_aload_n (pc := 57) hX rfl d_Sa_begin_57 ?_
      refine g_getR (pc := 58) hX fl_Sa_77 rfl rfl nf_3_1 d_Sa_begin_58 ?_
      refine v_iload_n (pc := 61) hX rfl d_Sa_begin_61 ?_
      refine g_aald (pc := 62) (c := 0) hX (by decide) (by decide) rfl (IX.of hk (by decide)) (nf_dec k hk) d_Sa_begin_62 ?_
      refine g_getI (pc := 63) hX fl_Sa_81 rfl (by assumption) d_Sa_begin_63 ?_
      rw [cpF_ne (by omega), cpF_ne (by omega), bgY_ne (by omega)]
      refine g_iast (pc := 66) hX rfl (IX.of hk (by decide)) d_Sa_begin_66 ?_
      refine v_iinc (pc := 67) (lo' := [some (vR _), some (vR _), some (vI _)]) hX rfl rfl d_Sa_begin_67 ?_
      refine v_goto (pc := 70) (tgt := 47) hX d_Sa_begin_70 rfl ?_
      exact VW.cast (by rw [i3_succ]; rfl) rfl (by rw [cpF_s]) ih47
    · show VW X 47 [some (vR 16), some (vR 3), some (vI (i3 (4)))] [] (gM (cpF (cpF (bgY M) 17 (fun i => M (6 + i) 3) 6) 18 (fun i => M (12 + i) 2) (4)))
      refine v_iload_n (pc := 47) hX rfl d_Sa_begin_47 ?_
      refine v_iconst (pc := 48) (v := 4) hX (by decide) d_Sa_begin_48 ?_
      refine v_icmp_ge (pc := 49) (tgt := 73) hX d_Sa_begin_49 rfl (fun h49 => ?_) (fun h49 => False.elim (by revert h49; decide))
      exact f_vret (pc := 73) hX hR (YM_0 hJ hB) d_Sa_begin_73
theorem sh_c18 {c : Nat} (h : SH[c]? = some (1, 60)) : 18 < c := by
  have hl := (List.getElem?_eq_some_iff.mp h).1
  have hl : c < 64 := hl
  have : ∀ c, c < 64 → SH[c]? = some (1, 60) → 18 < c := by decide +kernel
  exact this c hl h
theorem upM3 {M : MM} {r1 k1 r2 k2 r3 k3 a i : Nat} {x1 x2 x3 : Int32} (h1 : a ≠ r1) (h2 : a ≠ r2) (h3 : a ≠ r3) : upM (upM (upM M r1 k1 x1) r2 k2 x2) r3 k3 x3 a i = M a i := by
  rw [upM_ne (fun q => h3 q.1), upM_ne (fun q => h2 q.1), upM_ne (fun q => h1 q.1)]
theorem d_Sa_goThrough_0 : decode c_Sa_goThrough 0 = .ok (.aload_n 0, 1) := by decide +kernel
theorem d_Sa_goThrough_1 : decode c_Sa_goThrough 1 = .ok (.aload_n 1, 1) := by decide +kernel
theorem d_Sa_goThrough_2 : decode c_Sa_goThrough 2 = .ok (.invokevirtual 46, 3) := by decide +kernel
theorem d_Sa_goThrough_5 : decode c_Sa_goThrough 5 = .ok (.iconst 0, 1) := by decide +kernel
theorem d_Sa_goThrough_6 : decode c_Sa_goThrough 6 = .ok (.istore 5, 2) := by decide +kernel
theorem d_Sa_goThrough_8 : decode c_Sa_goThrough 8 = .ok (.iload 5, 2) := by decide +kernel
theorem d_Sa_goThrough_10 : decode c_Sa_goThrough 10 = .ok (.iload 4, 2) := by decide +kernel
theorem d_Sa_goThrough_12 : decode c_Sa_goThrough 12 = .ok (.if_icmp .ge 173, 3) := by decide +kernel
theorem d_Sa_goThrough_15 : decode c_Sa_goThrough 15 = .ok (.aload_n 0, 1) := by decide +kernel
theorem d_Sa_goThrough_16 : decode c_Sa_goThrough 16 = .ok (.getfield 50, 3) := by decide +kernel
theorem d_Sa_goThrough_19 : decode c_Sa_goThrough 19 = .ok (.bipush (-9), 2) := by decide +kernel
theorem d_Sa_goThrough_21 : decode c_Sa_goThrough 21 = .ok (.if_icmp .ne 164, 3) := by decide +kernel
theorem d_Sa_goThrough_24 : decode c_Sa_goThrough 24 = .ok (.aload_n 1, 1) := by decide +kernel
theorem d_Sa_goThrough_25 : decode c_Sa_goThrough 25 = .ok (.aload_n 2, 1) := by decide +kernel
theorem d_Sa_goThrough_26 : decode c_Sa_goThrough 26 = .ok (.iload_n 3, 1) := by decide +kernel
theorem d_Sa_goThrough_27 : decode c_Sa_goThrough 27 = .ok (.iload 5, 2) := by decide +kernel
theorem d_Sa_goThrough_29 : decode c_Sa_goThrough 29 = .ok (.invokestatic 22, 3) := by decide +kernel
theorem d_Sa_goThrough_32 : decode c_Sa_goThrough 32 = .ok (.astore 6, 2) := by decide +kernel
theorem d_Sa_goThrough_34 : decode c_Sa_goThrough 34 = .ok (.aload_n 1, 1) := by decide +kernel
theorem d_Sa_goThrough_35 : decode c_Sa_goThrough 35 = .ok (.aload_n 2, 1) := by decide +kernel
theorem d_Sa_goThrough_36 : decode c_Sa_goThrough 36 = .ok (.iload_n 3, 1) := by decide +kernel
theorem d_Sa_goThrough_37 : decode c_Sa_goThrough 37 = .ok (.iload 5, 2) := by decide +kernel
theorem d_Sa_goThrough_39 : decode c_Sa_goThrough 39 = .ok (.invokestatic 26, 3) := by decide +kernel
theorem d_Sa_goThrough_42 : decode c_Sa_goThrough 42 = .ok (.astore 7, 2) := by decide +kernel
theorem d_Sa_goThrough_44 : decode c_Sa_goThrough 44 = .ok (.aload_n 2, 1) := by decide +kernel
theorem d_Sa_goThrough_45 : decode c_Sa_goThrough 45 = .ok (.iload_n 3, 1) := by decide +kernel
theorem d_Sa_goThrough_46 : decode c_Sa_goThrough 46 = .ok (.iconst 2, 1) := by decide +kernel
theorem d_Sa_goThrough_47 : decode c_Sa_goThrough 47 = .ok (.iload 5, 2) := by decide +kernel
theorem d_Sa_goThrough_49 : decode c_Sa_goThrough 49 = .ok (.imul, 1) := by decide +kernel
theorem d_Sa_goThrough_50 : decode c_Sa_goThrough 50 = .ok (.iadd, 1) := by decide +kernel
theorem d_Sa_goThrough_51 : decode c_Sa_goThrough 51 = .ok (.invokevirtual 30, 3) := by decide +kernel
theorem d_Sa_goThrough_54 : decode c_Sa_goThrough 54 = .ok (.istore 8, 2) := by decide +kernel
theorem d_Sa_goThrough_56 : decode c_Sa_goThrough 56 = .ok (.aload_n 2, 1) := by decide +kernel
theorem d_Sa_goThrough_57 : decode c_Sa_goThrough 57 = .ok (.iload_n 3, 1) := by decide +kernel
theorem d_Sa_goThrough_58 : decode c_Sa_goThrough 58 = .ok (.iconst 2, 1) := by decide +kernel
theorem d_Sa_goThrough_59 : decode c_Sa_goThrough 59 = .ok (.iload 5, 2) := by decide +kernel
theorem d_Sa_goThrough_61 : decode c_Sa_goThrough 61 = .ok (.imul, 1) := by decide +kernel
theorem d_Sa_goThrough_62 : decode c_Sa_goThrough 62 = .ok (.iadd, 1) := by decide +kernel
theorem d_Sa_goThrough_63 : decode c_Sa_goThrough 63 = .ok (.iconst 1, 1) := by decide +kernel
theorem d_Sa_goThrough_64 : decode c_Sa_goThrough 64 = .ok (.iadd, 1) := by decide +kernel
theorem d_Sa_goThrough_65 : decode c_Sa_goThrough 65 = .ok (.invokevirtual 30, 3) := by decide +kernel
theorem d_Sa_goThrough_68 : decode c_Sa_goThrough 68 = .ok (.istore 9, 2) := by decide +kernel
theorem d_Sa_goThrough_70 : decode c_Sa_goThrough 70 = .ok (.aload 6, 2) := by decide +kernel
theorem d_Sa_goThrough_72 : decode c_Sa_goThrough 72 = .ok (.ifnull 34, 3) := by decide +kernel
theorem d_Sa_goThrough_75 : decode c_Sa_goThrough 75 = .ok (.aload 7, 2) := by decide +kernel
theorem d_Sa_goThrough_77 : decode c_Sa_goThrough 77 = .ok (.ifnull 29, 3) := by decide +kernel
theorem d_Sa_goThrough_80 : decode c_Sa_goThrough 80 = .ok (.aload_n 0, 1) := by decide +kernel
theorem d_Sa_goThrough_81 : decode c_Sa_goThrough 81 = .ok (.getfield 9, 3) := by decide +kernel
theorem d_Sa_goThrough_84 : decode c_Sa_goThrough 84 = .ok (.iload 9, 2) := by decide +kernel
theorem d_Sa_goThrough_86 : decode c_Sa_goThrough 86 = .ok (.iaload, 1) := by decide +kernel
theorem d_Sa_goThrough_87 : decode c_Sa_goThrough 87 = .ok (.iconst 1, 1) := by decide +kernel
theorem d_Sa_goThrough_88 : decode c_Sa_goThrough 88 = .ok (.if_icmp .lt 18, 3) := by decide +kernel
theorem d_Sa_goThrough_91 : decode c_Sa_goThrough 91 = .ok (.aload 7, 2) := by decide +kernel
theorem d_Sa_goThrough_93 : decode c_Sa_goThrough 93 = .ok (.getfield 54, 3) := by decide +kernel
theorem d_Sa_goThrough_96 : decode c_Sa_goThrough 96 = .ok (.aload_n 0, 1) := by decide +kernel
theorem d_Sa_goThrough_97 : decode c_Sa_goThrough 97 = .ok (.getfield 15, 3) := by decide +kernel
theorem d_Sa_goThrough_100 : decode c_Sa_goThrough 100 = .ok (.iload 8, 2) := by decide +kernel
theorem d_Sa_goThrough_102 : decode c_Sa_goThrough 102 = .ok (.iaload, 1) := by decide +kernel
theorem d_Sa_goThrough_103 : decode c_Sa_goThrough 103 = .ok (.if_icmp .le 12, 3) := by decide +kernel
theorem d_Sa_goThrough_106 : decode c_Sa_goThrough 106 = .ok (.aload_n 0, 1) := by decide +kernel
theorem d_Sa_goThrough_107 : decode c_Sa_goThrough 107 = .ok (.iload 5, 2) := by decide +kernel
theorem d_Sa_goThrough_109 : decode c_Sa_goThrough 109 = .ok (.putfield 50, 3) := by decide +kernel
theorem d_Sa_goThrough_112 : decode c_Sa_goThrough 112 = .ok (.goto 67, 3) := by decide +kernel
theorem d_Sa_goThrough_115 : decode c_Sa_goThrough 115 = .ok (.aload_n 0, 1) := by decide +kernel
theorem d_Sa_goThrough_116 : decode c_Sa_goThrough 116 = .ok (.getfield 9, 3) := by decide +kernel
theorem d_Sa_goThrough_119 : decode c_Sa_goThrough 119 = .ok (.iload 9, 2) := by decide +kernel
theorem d_Sa_goThrough_121 : decode c_Sa_goThrough 121 = .ok (.dup2, 1) := by decide +kernel
theorem d_Sa_goThrough_122 : decode c_Sa_goThrough 122 = .ok (.iaload, 1) := by decide +kernel
theorem d_Sa_goThrough_123 : decode c_Sa_goThrough 123 = .ok (.iconst 1, 1) := by decide +kernel
theorem d_Sa_goThrough_124 : decode c_Sa_goThrough 124 = .ok (.isub, 1) := by decide +kernel
theorem d_Sa_goThrough_125 : decode c_Sa_goThrough 125 = .ok (.iastore, 1) := by decide +kernel
theorem d_Sa_goThrough_126 : decode c_Sa_goThrough 126 = .ok (.aload_n 0, 1) := by decide +kernel
theorem d_Sa_goThrough_127 : decode c_Sa_goThrough 127 = .ok (.getfield 15, 3) := by decide +kernel
theorem d_Sa_goThrough_130 : decode c_Sa_goThrough 130 = .ok (.iload 8, 2) := by decide +kernel
theorem d_Sa_goThrough_132 : decode c_Sa_goThrough 132 = .ok (.dup2, 1) := by decide +kernel
theorem d_Sa_goThrough_133 : decode c_Sa_goThrough 133 = .ok (.iaload, 1) := by decide +kernel
theorem d_Sa_goThrough_134 : decode c_Sa_goThrough 134 = .ok (.aload 7, 2) := by decide +kernel
theorem d_Sa_goThrough_136 : decode c_Sa_goThrough 136 = .ok (.getfield 54, 3) := by decide +kernel
theorem d_Sa_goThrough_139 : decode c_Sa_goThrough 139 = .ok (.isub, 1) := by decide +kernel
theorem d_Sa_goThrough_140 : decode c_Sa_goThrough 140 = .ok (.iastore, 1) := by decide +kernel
theorem d_Sa_goThrough_141 : decode c_Sa_goThrough 141 = .ok (.aload_n 0, 1) := by decide +kernel
theorem d_Sa_goThrough_142 : decode c_Sa_goThrough 142 = .ok (.dup, 1) := by decide +kernel
theorem d_Sa_goThrough_143 : decode c_Sa_goThrough 143 = .ok (.getfield 59, 3) := by decide +kernel
theorem d_Sa_goThrough_146 : decode c_Sa_goThrough 146 = .ok (.aload 7, 2) := by decide +kernel
theorem d_Sa_goThrough_148 : decode c_Sa_goThrough 148 = .ok (.getfield 54, 3) := by decide +kernel
theorem d_Sa_goThrough_151 : decode c_Sa_goThrough 151 = .ok (.iadd, 1) := by decide +kernel
theorem d_Sa_goThrough_152 : decode c_Sa_goThrough 152 = .ok (.putfield 59, 3) := by decide +kernel
theorem d_Sa_goThrough_155 : decode c_Sa_goThrough 155 = .ok (.aload_n 0, 1) := by decide +kernel
theorem d_Sa_goThrough_156 : decode c_Sa_goThrough 156 = .ok (.dup, 1) := by decide +kernel
theorem d_Sa_goThrough_157 : decode c_Sa_goThrough 157 = .ok (.getfield 62, 3) := by decide +kernel
theorem d_Sa_goThrough_160 : decode c_Sa_goThrough 160 = .ok (.aload 6, 2) := by decide +kernel
theorem d_Sa_goThrough_162 : decode c_Sa_goThrough 162 = .ok (.aload 7, 2) := by decide +kernel
theorem d_Sa_goThrough_164 : decode c_Sa_goThrough 164 = .ok (.invokevirtual 65, 3) := by decide +kernel
theorem d_Sa_goThrough_167 : decode c_Sa_goThrough 167 = .ok (.ifCond .eq 7, 3) := by decide +kernel
theorem d_Sa_goThrough_170 : decode c_Sa_goThrough 170 = .ok (.iconst 1, 1) := by decide +kernel
theorem d_Sa_goThrough_171 : decode c_Sa_goThrough 171 = .ok (.goto 4, 3) := by decide +kernel
theorem d_Sa_goThrough_174 : decode c_Sa_goThrough 174 = .ok (.iconst 0, 1) := by decide +kernel
theorem d_Sa_goThrough_175 : decode c_Sa_goThrough 175 = .ok (.iadd, 1) := by decide +kernel
theorem d_Sa_goThrough_176 : decode c_Sa_goThrough 176 = .ok (.putfield 62, 3) := by decide +kernel
theorem d_Sa_goThrough_179 : decode c_Sa_goThrough 179 = .ok (.iinc 5 1, 3) := by decide +kernel
theorem d_Sa_goThrough_182 : decode c_Sa_goThrough 182 = .ok (.goto (-174), 3) := by decide +kernel
theorem d_Sa_goThrough_185 : decode c_Sa_goThrough 185 = .ok (.return_, 1) := by decide +kernel
set_option maxHeartbeats 4000000 in
theorem C_Sa_goThrough {M : MM} {n nd r c a m : Nat} {J B : JT} {q : Nat → Int32} (hJ : CJ M n J) (hB : CB M nd B) (hr : SH[r]? = some (0, 5)) (hn : NF r 0 = c) (hc : SH[c]? = some (1, 60)) (ha : a + 2 * m ≤ 60) (hq : ∀ t, t < 2 * m → M c (a + t) = q t) {pb pj : Nat → Nat} (hpb : ∀ p, p < m → pb p < nd ∧ q (2 * p) = i3 (pb p)) (hpj : ∀ p, p < m → pj p < n ∧ q (2 * p + 1) = i3 (pj p)) : AF y_Sa_goThrough c_Sa_goThrough 10 none 4 [vR 16, vR 3, vR r, vI (i3 a), vI (i3 m)] (M) (none) (YM M n nd (yr J B pb pj m)) := by
  have h6 := hJ.1
  have h4 := hB.1
  have hcn : 18 < c := sh_c18 hc
  refine AF.of k_Sa_goThrough (lo := [some (vR 16), some (vR 3), some (vR r), some (vI (i3 a)), some (vI (i3 m)), none, none, none, none, none]) rfl (Nat.le_of_ble_eq_true rfl) (fun X hX hR => ?_)
  refine v_aload_n (pc := 0) hX rfl d_Sa_goThrough_0 ?_
  refine v_aload_n (pc := 1) hX rfl d_Sa_goThrough_1 ?_
  refine f_callV0 (pc := 2) hX k_Sa_begin ki_Sa_begin kv_Sa_begin ml_Sa_46 (C_Sa_begin (pb := pb) (pj := pj) hJ hB) rfl rfl rfl rfl rfl (Nat.le_of_ble_eq_true rfl) (Nat.le_of_ble_eq_true rfl) (Nat.le_of_ble_eq_true rfl) d_Sa_goThrough_2 ?_
  refine v_iconst (pc := 5) (v := 0) hX (by decide) d_Sa_goThrough_5 ?_
  refine v_istore (pc := 6) (lo' := [some (vR _), some (vR _), some (vR _), some (vI _), some (vI _), some (vI _), none, none, none, none]) hX (Nat.le_of_ble_eq_true rfl) rfl d_Sa_goThrough_6 ?_
  refine VW.cast (lo' := [some (vR 16), some (vR 3), some (vR r), some (vI (i3 a)), some (vI (i3 m)), some (vI (i3 0)), none, none, none, none]) (st' := []) (G' := gM (YM M n nd (yr J B pb pj 0))) rfl rfl rfl ?_
  refine v_for (X := X) (head := 8) (m) (fun kk => [some (vR 16), some (vR 3), some (vR r), some (vI (i3 a)), some (vI (i3 m)), some (vI (i3 kk)), none, none, none, none]) (fun kk => YM M n nd (yr J B pb pj kk)) (fun k hk ih8 => ?_) ?_
  · show VW X 8 [some (vR 16), some (vR 3), some (vR r), some (vI (i3 a)), some (vI (i3 m)), some (vI (i3 k)), none, none, none, none] [] (gM (YM M n nd (yr J B pb pj k)))
    obtain ⟨hb1, hb2⟩ := hpb k hk
    obtain ⟨hj1, hj2⟩ := hpj k hk
    have hsj := sh_jar (pj k) (by omega)
    have hsd := sh_dec (pb k) (by omega)
    have hJ1 : CJ (YM M n nd (yr J B pb pj k)) n J := hJ.eq (fun a ha i => YM_ne (by omega))
    have hB1 : CB (YM M n nd (yr J B pb pj k)) nd B := hB.eq (fun a ha i => YM_ne (by omega))
    have hq1 : ∀ t, t < 2 * m → YM M n nd (yr J B pb pj k) c (a + t) = q t := fun t ht => by rw [YM_ne (by omega)]; exact hq t ht
    by_cases hcase : (yr J B pb pj k).2.2 = 0
    · skip
      refine v_iload (pc := 8) hX rfl d_Sa_goThrough_8 ?_
      refine v_iload (pc := 10) hX rfl d_Sa_goThrough_10 ?_
      refine v_icmp_ge (pc := 12) (tgt := 185) hX d_Sa_goThrough_12 rfl (fun h12 => False.elim (i3_ge_abs hk (by omega) h12)) (fun h12 => ?_)
      refine v_aload_n (pc := 15) hX rfl d_Sa_goThrough_15 ?_
      refine g_getI (pc := 16) hX fl_Sa_50 rfl rfl d_Sa_goThrough_16 ?_
      refine v_bipush (pc := 19) (v := (-9)) hX (by decide) d_Sa_goThrough_19 ?_
      refine v_icmp_ne (pc := 21) (tgt := 185) hX d_Sa_goThrough_21 rfl (fun h21 => False.elim (by rw [YM_2, if_pos hcase] at h21; exact h21 rfl)) (fun h21 => ?_)
      refine v_aload_n (pc := 24) hX rfl d_Sa_goThrough_24 ?_
      refine v_aload_n (pc := 25) hX rfl d_Sa_goThrough_25 ?_
      refine v_iload_n (pc := 26) hX rfl d_Sa_goThrough_26 ?_
      refine v_iload (pc := 27) hX rfl d_Sa_goThrough_27 ?_
      refine f_callS (pc := 29) hX k_Sa_buyerOf ks_Sa_buyerOf ml_Sa_22 (C_Sa_buyerOf_in hJ1 hB1 hr hn hc ha hq1 hk hb1 hb2) rfl rfl rfl (Nat.le_of_ble_eq_true rfl) (Nat.le_of_ble_eq_true rfl) (Nat.le_of_ble_eq_true rfl) d_Sa_goThrough_29 ?_
      refine v_astore (pc := 32) (lo' := [some (vR _), some (vR _), some (vR _), some (vI _), some (vI _), some (vI _), some (vR _), none, none, none]) hX (Nat.le_of_ble_eq_true rfl) rfl d_Sa_goThrough_32 ?_
      refine v_aload_n (pc := 34) hX rfl d_Sa_goThrough_34 ?_
      refine v_aload_n (pc := 35) hX rfl d_Sa_goThrough_35 ?_
      refine v_iload_n (pc := 36) hX rfl d_Sa_goThrough_36 ?_
      refine v_iload (pc := 37) hX rfl d_Sa_goThrough_37 ?_
      refine f_callS (pc := 39) hX k_Sa_jarOf ks_Sa_jarOf ml_Sa_26 (C_Sa_jarOf_in hJ1 hB1 hr hn hc ha hq1 hk hj1 hj2) rfl rfl rfl (Nat.le_of_ble_eq_true rfl) (Nat.le_of_ble_eq_true rfl) (Nat.le_of_ble_eq_true rfl) d_Sa_goThrough_39 ?_
      refine v_astore (pc := 42) (lo' := [some (vR _), some (vR _), some (vR _), some (vI _), some (vI _), some (vI _), some (vR _), some (vR _), none, none]) hX (Nat.le_of_ble_eq_true rfl) rfl d_Sa_goThrough_42 ?_
      refine v_aload_n (pc := 44) hX rfl d_Sa_goThrough_44 ?_
      refine v_iload_n (pc := 45) hX rfl d_Sa_goThrough_45 ?_
      refine v_iconst (pc := 46) (v := 2) hX (by decide) d_Sa_goThrough_46 ?_
      refine v_iload (pc := 47) hX rfl d_Sa_goThrough_47 ?_
      refine v_imul (pc := 49) hX d_Sa_goThrough_49 ?_
      refine v_iadd (pc := 50) hX d_Sa_goThrough_50 ?_
      rw [i3_dbl]
      refine f_callV (pc := 51) hX k_Sh_at ki_Sh_at kv_Sh_at ml_Sa_30 (C_Sh_at (j := a + 2 * k) hr hn hc (by omega)) (by assumption) rfl rfl rfl rfl (Nat.le_of_ble_eq_true rfl) (Nat.le_of_ble_eq_true rfl) (Nat.le_of_ble_eq_true rfl) d_Sa_goThrough_51 ?_
      rw [show a + 2 * k = a + (2 * k) by omega, hq1 _ (by omega), hb2]
      refine v_istore (pc := 54) (lo' := [some (vR _), some (vR _), some (vR _), some (vI _), some (vI _), some (vI _), some (vR _), some (vR _), some (vI _), none]) hX (Nat.le_of_ble_eq_true rfl) rfl d_Sa_goThrough_54 ?_
      refine v_aload_n (pc := 56) hX rfl d_Sa_goThrough_56 ?_
      refine v_iload_n (pc := 57) hX rfl d_Sa_goThrough_57 ?_
      refine v_iconst (pc := 58) (v := 2) hX (by decide) d_Sa_goThrough_58 ?_
      refine v_iload (pc := 59) hX rfl d_Sa_goThrough_59 ?_
      refine v_imul (pc := 61) hX d_Sa_goThrough_61 ?_
      refine v_iadd (pc := 62) hX d_Sa_goThrough_62 ?_
      refine v_iconst (pc := 63) (v := 1) hX (by decide) d_Sa_goThrough_63 ?_
      refine v_iadd (pc := 64) hX d_Sa_goThrough_64 ?_
      rw [i3_dbl, ← i3_succ]
      refine f_callV (pc := 65) hX k_Sh_at ki_Sh_at kv_Sh_at ml_Sa_30 (C_Sh_at (j := a + 2 * k + 1) hr hn hc (by omega)) (by assumption) rfl rfl rfl rfl (Nat.le_of_ble_eq_true rfl) (Nat.le_of_ble_eq_true rfl) (Nat.le_of_ble_eq_true rfl) d_Sa_goThrough_65 ?_
      rw [show a + 2 * k + 1 = a + (2 * k + 1) by omega, hq1 _ (by omega), hj2]
      refine v_istore (pc := 68) (lo' := [some (vR _), some (vR _), some (vR _), some (vI _), some (vI _), some (vI _), some (vR _), some (vR _), some (vI _), some (vI _)]) hX (Nat.le_of_ble_eq_true rfl) rfl d_Sa_goThrough_68 ?_
      refine v_aload (pc := 70) hX rfl d_Sa_goThrough_70 ?_
      refine v_ifnull (pc := 72) (tgt := 106) hX d_Sa_goThrough_72 rfl (fun h72 => False.elim (by have := sh_two (by assumption); omega)) (fun h72 => ?_)
      refine v_aload (pc := 75) hX rfl d_Sa_goThrough_75 ?_
      refine v_ifnull (pc := 77) (tgt := 106) hX d_Sa_goThrough_77 rfl (fun h77 => False.elim (by have := sh_two (by assumption); omega)) (fun h77 => ?_)
      refine v_aload_n (pc := 80) hX rfl d_Sa_goThrough_80 ?_
      refine g_getR (pc := 81) hX fl_Sa_9 rfl rfl nf_16_0 d_Sa_goThrough_81 ?_
      refine v_iload (pc := 84) hX rfl d_Sa_goThrough_84 ?_
      refine g_iald (pc := 86) hX rfl (IX.of (n := 6) (by omega) (by decide)) d_Sa_goThrough_86 ?_
      refine v_iconst (pc := 87) (v := 1) hX (by decide) d_Sa_goThrough_87 ?_
      rw [YM_h hj1 h6]
      refine v_icmp_lt (pc := 88) (tgt := 106) hX d_Sa_goThrough_88 rfl (fun h88 => ?_) (fun h88 => ?_)
      · have hcn : ycan J (pb k) (pj k) (yr J B pb pj k) = false := by unfold ycan; rw [decide_eq_false (fun w => by simp only [lt32, q_0, q_1] at *; omega)]; rfl
        refine v_aload_n (pc := 106) hX rfl d_Sa_goThrough_106 ?_
        refine v_iload (pc := 107) hX rfl d_Sa_goThrough_107 ?_
        refine g_putI (pc := 109) hX fl_Sa_50 rfl (finI rfl rfl) rfl rfl rfl d_Sa_goThrough_109 ?_
        rw [YM_wrong (J := J) (B := B) (b := pb k) (j := pj k) hcase hcn]
        refine v_goto (pc := 112) (tgt := 179) hX d_Sa_goThrough_112 rfl ?_
        refine v_iinc (pc := 179) (lo' := [some (vR _), some (vR _), some (vR _), some (vI _), some (vI _), some (vI _), some (vR _), some (vR _), some (vI _), some (vI _)]) hX rfl rfl d_Sa_goThrough_179 ?_
        refine v_goto (pc := 182) (tgt := 8) hX d_Sa_goThrough_182 rfl ?_
        refine VW.fg [true, true, true, true, true, true, false, false, false, false] ?_
        exact VW.cast (by rw [i3_succ]; rfl) rfl rfl ih8
      · refine v_aload (pc := 91) hX rfl d_Sa_goThrough_91 ?_
        refine g_getI (pc := 93) hX fl_Sa_54 rfl (by assumption) d_Sa_goThrough_93 ?_
        refine v_aload_n (pc := 96) hX rfl d_Sa_goThrough_96 ?_
        refine g_getR (pc := 97) hX fl_Sa_15 rfl rfl nf_16_1 d_Sa_goThrough_97 ?_
        refine v_iload (pc := 100) hX rfl d_Sa_goThrough_100 ?_
        refine g_iald (pc := 102) hX rfl (IX.of (n := 4) (by omega) (by decide)) d_Sa_goThrough_102 ?_
        rw [YM_p hb1 h4, hJ1.2.2 _ hj1 4 (by decide)]
        refine v_icmp_le (pc := 103) (tgt := 115) hX d_Sa_goThrough_103 rfl (fun h103 => ?_) (fun h103 => ?_)
        · have hcy : ycan J (pb k) (pj k) (yr J B pb pj k) = true := by unfold ycan; rw [decide_eq_true h103, decide_eq_true (by simp only [lt32, q_0, q_1] at *; omega)]; rfl
          refine v_aload_n (pc := 115) hX rfl d_Sa_goThrough_115 ?_
          refine g_getR (pc := 116) hX fl_Sa_9 rfl rfl nf_16_0 d_Sa_goThrough_116 ?_
          refine v_iload (pc := 119) hX rfl d_Sa_goThrough_119 ?_
          refine v_dup2 (pc := 121) hX rfl rfl d_Sa_goThrough_121 ?_
          refine g_iald (pc := 122) hX rfl (IX.of (n := 6) (by omega) (by decide)) d_Sa_goThrough_122 ?_
          refine v_iconst (pc := 123) (v := 1) hX (by decide) d_Sa_goThrough_123 ?_
          refine v_isub (pc := 124) hX d_Sa_goThrough_124 ?_
          rw [YM_h hj1 h6]
          refine g_iast (pc := 125) hX rfl (IX.of (n := 6) (by omega) (by decide)) d_Sa_goThrough_125 ?_
          refine v_aload_n (pc := 126) hX rfl d_Sa_goThrough_126 ?_
          refine g_getR (pc := 127) hX fl_Sa_15 rfl rfl nf_16_1 d_Sa_goThrough_127 ?_
          refine v_iload (pc := 130) hX rfl d_Sa_goThrough_130 ?_
          refine v_dup2 (pc := 132) hX rfl rfl d_Sa_goThrough_132 ?_
          refine g_iald (pc := 133) hX rfl (IX.of (n := 4) (by omega) (by decide)) d_Sa_goThrough_133 ?_
          rw [upM_ne (by omega), YM_p hb1 h4]
          refine v_aload (pc := 134) hX rfl d_Sa_goThrough_134 ?_
          refine g_getI (pc := 136) hX fl_Sa_54 rfl (by assumption) d_Sa_goThrough_136 ?_
          rw [upM_ne (by omega), hJ1.2.2 _ hj1 4 (by decide)]
          refine v_isub (pc := 139) hX d_Sa_goThrough_139 ?_
          refine g_iast (pc := 140) hX rfl (IX.of (n := 4) (by omega) (by decide)) d_Sa_goThrough_140 ?_
          refine v_aload_n (pc := 141) hX rfl d_Sa_goThrough_141 ?_
          refine v_dup (pc := 142) hX rfl d_Sa_goThrough_142 ?_
          refine g_getI (pc := 143) hX fl_Sa_59 rfl rfl d_Sa_goThrough_143 ?_
          rw [upM_ne (by omega), upM_ne (by omega), YM_4]
          refine v_aload (pc := 146) hX rfl d_Sa_goThrough_146 ?_
          refine g_getI (pc := 148) hX fl_Sa_54 rfl (by assumption) d_Sa_goThrough_148 ?_
          rw [upM_ne (by omega), upM_ne (by omega), hJ1.2.2 _ hj1 4 (by decide)]
          refine v_iadd (pc := 151) hX d_Sa_goThrough_151 ?_
          refine g_putI (pc := 152) hX fl_Sa_59 rfl (finI rfl rfl) rfl rfl rfl d_Sa_goThrough_152 ?_
          refine v_aload_n (pc := 155) hX rfl d_Sa_goThrough_155 ?_
          refine v_dup (pc := 156) hX rfl d_Sa_goThrough_156 ?_
          refine g_getI (pc := 157) hX fl_Sa_62 rfl rfl d_Sa_goThrough_157 ?_
          rw [upM_ne (by omega), upM_ne (by omega), upM_ne (by omega), YM_3]
          refine v_aload (pc := 160) hX rfl d_Sa_goThrough_160 ?_
          refine v_aload (pc := 162) hX rfl d_Sa_goThrough_162 ?_
          refine f_callV (pc := 164) hX k_De_decidesBy ki_De_decidesBy kv_De_decidesBy ml_Sa_65 (C_De_decidesBy (by assumption) (by assumption)) (by assumption) rfl rfl rfl rfl (Nat.le_of_ble_eq_true rfl) (Nat.le_of_ble_eq_true rfl) (Nat.le_of_ble_eq_true rfl) d_Sa_goThrough_164 ?_
          rw [show mkM _ _ _ _ = mk J (pj k) (B (pb k) 1) from by rw [upM3 (by omega) (by omega) (by omega), upM3 (by omega) (by omega) (by omega), upM3 (by omega) (by omega) (by omega), upM3 (by omega) (by omega) (by omega), hJ1.mk hj1, hB1.2.2 _ hb1 1 (by decide)], upM3 (by omega) (by omega) (by omega), hB1.2.2 _ hb1 0 (by decide)]
          refine f_ifeqB (pc := 167) (tgt := 174) hX d_Sa_goThrough_167 rfl (fun h167 => ?_) (fun h167 => ?_)
          · refine v_iconst (pc := 174) (v := 0) hX (by decide) d_Sa_goThrough_174 ?_
            refine v_iadd (pc := 175) hX d_Sa_goThrough_175 ?_
            refine g_putI (pc := 176) hX fl_Sa_62 rfl (finI rfl rfl) rfl rfl rfl d_Sa_goThrough_176 ?_
            rw [YM_take (J := J) (B := B) (p := k) h6 h4 hj1 hb1 hcase hcy (by first | exact bT h167 | exact bF h167)]
            refine v_iinc (pc := 179) (lo' := [some (vR _), some (vR _), some (vR _), some (vI _), some (vI _), some (vI _), some (vR _), some (vR _), some (vI _), some (vI _)]) hX rfl rfl d_Sa_goThrough_179 ?_
            refine v_goto (pc := 182) (tgt := 8) hX d_Sa_goThrough_182 rfl ?_
            refine VW.fg [true, true, true, true, true, true, false, false, false, false] ?_
            exact VW.cast (by rw [i3_succ]; rfl) rfl rfl ih8
          · refine v_iconst (pc := 170) (v := 1) hX (by decide) d_Sa_goThrough_170 ?_
            refine v_goto (pc := 171) (tgt := 175) hX d_Sa_goThrough_171 rfl ?_
            refine v_iadd (pc := 175) hX d_Sa_goThrough_175 ?_
            refine g_putI (pc := 176) hX fl_Sa_62 rfl (finI rfl rfl) rfl rfl rfl d_Sa_goThrough_176 ?_
            rw [YM_take (J := J) (B := B) (p := k) h6 h4 hj1 hb1 hcase hcy (by first | exact bT h167 | exact bF h167)]
            refine v_iinc (pc := 179) (lo' := [some (vR _), some (vR _), some (vR _), some (vI _), some (vI _), some (vI _), some (vR _), some (vR _), some (vI _), some (vI _)]) hX rfl rfl d_Sa_goThrough_179 ?_
            refine v_goto (pc := 182) (tgt := 8) hX d_Sa_goThrough_182 rfl ?_
            refine VW.fg [true, true, true, true, true, true, false, false, false, false] ?_
            exact VW.cast (by rw [i3_succ]; rfl) rfl rfl ih8
        · have hcn : ycan J (pb k) (pj k) (yr J B pb pj k) = false := by unfold ycan; rw [decide_eq_false h103]; simp
          refine v_aload_n (pc := 106) hX rfl d_Sa_goThrough_106 ?_
          refine v_iload (pc := 107) hX rfl d_Sa_goThrough_107 ?_
          refine g_putI (pc := 109) hX fl_Sa_50 rfl (finI rfl rfl) rfl rfl rfl d_Sa_goThrough_109 ?_
          rw [YM_wrong (J := J) (B := B) (b := pb k) (j := pj k) hcase hcn]
          refine v_goto (pc := 112) (tgt := 179) hX d_Sa_goThrough_112 rfl ?_
          refine v_iinc (pc := 179) (lo' := [some (vR _), some (vR _), some (vR _), some (vI _), some (vI _), some (vI _), some (vR _), some (vR _), some (vI _), some (vI _)]) hX rfl rfl d_Sa_goThrough_179 ?_
          refine v_goto (pc := 182) (tgt := 8) hX d_Sa_goThrough_182 rfl ?_
          refine VW.fg [true, true, true, true, true, true, false, false, false, false] ?_
          exact VW.cast (by rw [i3_succ]; rfl) rfl rfl ih8
    · skip
      refine v_iload (pc := 8) hX rfl d_Sa_goThrough_8 ?_
      refine v_iload (pc := 10) hX rfl d_Sa_goThrough_10 ?_
      refine v_icmp_ge (pc := 12) (tgt := 185) hX d_Sa_goThrough_12 rfl (fun h12 => False.elim (i3_ge_abs hk (by omega) h12)) (fun h12 => ?_)
      refine v_aload_n (pc := 15) hX rfl d_Sa_goThrough_15 ?_
      refine g_getI (pc := 16) hX fl_Sa_50 rfl rfl d_Sa_goThrough_16 ?_
      refine v_bipush (pc := 19) (v := (-9)) hX (by decide) d_Sa_goThrough_19 ?_
      refine v_icmp_ne (pc := 21) (tgt := 185) hX d_Sa_goThrough_21 rfl (fun h21 => ?_) (fun h21 => False.elim (by rw [YM_2, if_neg hcase, eq32, i3_int (by have := yr_le J B pb pj k; omega), q_m9] at h21; omega))
      exact f_vret (pc := 185) hX hR (by rw [yr_stay hcase m (by omega)]) d_Sa_goThrough_185
  · show VW X 8 [some (vR 16), some (vR 3), some (vR r), some (vI (i3 a)), some (vI (i3 m)), some (vI (i3 (m))), none, none, none, none] [] (gM (YM M n nd (yr J B pb pj (m))))
    refine v_iload (pc := 8) hX rfl d_Sa_goThrough_8 ?_
    refine v_iload (pc := 10) hX rfl d_Sa_goThrough_10 ?_
    refine v_icmp_ge (pc := 12) (tgt := 185) hX d_Sa_goThrough_12 rfl (fun h12 => ?_) (fun h12 => False.elim (absurd (Int32.le_refl _) h12))
    exact f_vret (pc := 185) hX hR (rfl) d_Sa_goThrough_185
