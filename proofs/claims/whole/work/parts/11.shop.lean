/-! The shop. -/
-- a store: n jars with their parts, nd deciders with theirs
abbrev JT : Type := Nat → Nat → Int32
def CJ (M : MM) (n : Nat) (J : JT) : Prop := n ≤ 6 ∧ M 3 2 = i3 n ∧ ∀ j, j < n → ∀ k, k < 5 → M (6 + j) k = J j k
def CB (M : MM) (n : Nat) (B : JT) : Prop := n ≤ 4 ∧ M 3 3 = i3 n ∧ ∀ j, j < n → ∀ k, k < 4 → M (12 + j) k = B j k
def mk (J : JT) (j : Nat) (t : Int32) : Int32 := mkM (J j 0) (J j 1) (J j 2) t
theorem CJ.mk {M : MM} {n : Nat} {J : JT} (h : CJ M n J) {j : Nat} (hj : j < n) (t : Int32) : mkM (M (6 + j) 0) (M (6 + j) 1) (M (6 + j) 2) t = mk J j t := by
  rw [h.2.2 j hj 0 (by decide), h.2.2 j hj 1 (by decide), h.2.2 j hj 2 (by decide)]; rfl
-- sets of jars as numbers
def bt (s j : Nat) : Nat := (s / 2 ^ j) % 2
theorem pop_s (s k : Nat) : pop (k + 1) s = pop k s + bt s k := rfl
theorem bt_01 (s j : Nat) : bt s j = 0 ∨ bt s j = 1 := by unfold bt; omega
theorem bt_i3 : ∀ s, s < 64 → ∀ j, j < 6 → ((i3 s >>> (i3 j &&& 31)) &&& 1) = i3 (bt s j) := by decide +kernel
theorem shl_i3 : ∀ j, j < 7 → ((1 : Int32) <<< (i3 j &&& 31)) = i3 (2 ^ j) := by decide +kernel
theorem or_i3 : ∀ k, k < 6 → ∀ s, s < 2 ^ k → (i3 s ||| i3 (2 ^ k)) = i3 (s + 2 ^ k) := by decide +kernel
theorem or_0 (x : Int32) : x ||| 0 = x := by
  apply Int32.toBitVec_inj.mp
  simp
def sumB (J : JT) (s : Nat) (t : Int32) : Nat → Int32 := fsum (fun j => if bt s j = 1 then mk J j t else 0)
def blN (J : JT) (n s : Nat) (t : Int32) : Int32 := if pop n s = 0 then 0 else sumB J s t n / i3 (pop n s)
def pcB (J : JT) (s : Nat) : Nat → Int32 := fsum (fun j => if bt s j = 1 then J j 4 else 0)
def stN (J : JT) : Nat → Nat
  | 0 => 0
  | k + 1 => stN J k + (if 0 < J k 3 then 2 ^ k else 0)
theorem stN_lt (J : JT) : ∀ k, stN J k < 2 ^ k
  | 0 => Nat.zero_lt_one
  | k + 1 => by
    have := stN_lt J k
    show stN J k + _ < _
    rw [Nat.pow_succ]
    split <;> omega
def hvS (J : JT) : Nat → Int32 := fsum (fun j => J j 3)
theorem pop_le (s : Nat) : ∀ k, pop k s ≤ k
  | 0 => Nat.le_refl _
  | k + 1 => by have := pop_le s k; have := bt_01 s k; rw [pop_s]; omega
theorem i3_ne0 {k : Nat} (h : k ≠ 0) (hk : k < 1000) : ¬ i3 k = 0 := fun q => by
  have := (i3_inj (a := k) (b := 0) (by omega) (by decide)).mp q
  omega
theorem d_Sp_isMissing_0 : decode c_Sp_isMissing 0 = .ok (.aload_n 0, 1) := by decide +kernel
theorem d_Sp_isMissing_1 : decode c_Sp_isMissing 1 = .ok (.getfield 25, 3) := by decide +kernel
theorem d_Sp_isMissing_4 : decode c_Sp_isMissing 4 = .ok (.ifCond .ne 7, 3) := by decide +kernel
theorem d_Sp_isMissing_7 : decode c_Sp_isMissing 7 = .ok (.iconst 1, 1) := by decide +kernel
theorem d_Sp_isMissing_8 : decode c_Sp_isMissing 8 = .ok (.goto 4, 3) := by decide +kernel
theorem d_Sp_isMissing_11 : decode c_Sp_isMissing 11 = .ok (.iconst 0, 1) := by decide +kernel
theorem d_Sp_isMissing_12 : decode c_Sp_isMissing 12 = .ok (.ireturn, 1) := by decide +kernel
theorem C_Sp_isMissing {M : MM} {n : Nat} {J : JT} (hJ : CJ M n J) : AF y_Sp_isMissing c_Sp_isMissing 1 (some .boolean) 1 [vR 3] (M) (some (vI (bI (decide (n = 0))))) (M) := by
  refine AF.of k_Sp_isMissing (lo := [some (vR 3)]) rfl (Nat.le_of_ble_eq_true rfl) (fun X hX hR => ?_)
  refine v_aload_n (pc := 0) hX rfl d_Sp_isMissing_0 ?_
  refine g_getI (pc := 1) hX fl_Sp_25 rfl rfl d_Sp_isMissing_1 ?_
  refine v_if_ne (pc := 4) (tgt := 11) hX d_Sp_isMissing_4 rfl (fun h4 => ?_) (fun h4 => ?_)
  · refine v_iconst (pc := 11) (v := 0) hX (by decide) d_Sp_isMissing_11 ?_
    exact f_zret (pc := 12) hX hR (by rw [hJ.2.1] at *; first | exact bT (decide_eq_true (by by_cases q : n = 0; exact q; exact absurd (by assumption) (i3_ne0 q (by have := hJ.1; omega)))) | exact bF (decide_eq_false (fun q => by subst q; exact h4 rfl))) (rfl) d_Sp_isMissing_12
  · refine v_iconst (pc := 7) (v := 1) hX (by decide) d_Sp_isMissing_7 ?_
    refine v_goto (pc := 8) (tgt := 12) hX d_Sp_isMissing_8 rfl ?_
    exact f_zret (pc := 12) hX hR (by rw [hJ.2.1] at *; first | exact bT (decide_eq_true (by by_cases q : n = 0; exact q; exact absurd (by assumption) (i3_ne0 q (by have := hJ.1; omega)))) | exact bF (decide_eq_false (fun q => by subst q; exact h4 rfl))) (rfl) d_Sp_isMissing_12
theorem d_Sp_jarAt_0 : decode c_Sp_jarAt 0 = .ok (.iload_n 1, 1) := by decide +kernel
theorem d_Sp_jarAt_1 : decode c_Sp_jarAt 1 = .ok (.aload_n 0, 1) := by decide +kernel
theorem d_Sp_jarAt_2 : decode c_Sp_jarAt 2 = .ok (.getfield 25, 3) := by decide +kernel
theorem d_Sp_jarAt_5 : decode c_Sp_jarAt 5 = .ok (.invokestatic 29, 3) := by decide +kernel
theorem d_Sp_jarAt_8 : decode c_Sp_jarAt 8 = .ok (.ifCond .eq 12, 3) := by decide +kernel
theorem d_Sp_jarAt_11 : decode c_Sp_jarAt 11 = .ok (.aload_n 0, 1) := by decide +kernel
theorem d_Sp_jarAt_12 : decode c_Sp_jarAt 12 = .ok (.getfield 11, 3) := by decide +kernel
theorem d_Sp_jarAt_15 : decode c_Sp_jarAt 15 = .ok (.iload_n 1, 1) := by decide +kernel
theorem d_Sp_jarAt_16 : decode c_Sp_jarAt 16 = .ok (.aaload, 1) := by decide +kernel
theorem d_Sp_jarAt_17 : decode c_Sp_jarAt 17 = .ok (.goto 4, 3) := by decide +kernel
theorem d_Sp_jarAt_20 : decode c_Sp_jarAt 20 = .ok (.aconst_null, 1) := by decide +kernel
theorem d_Sp_jarAt_21 : decode c_Sp_jarAt 21 = .ok (.areturn, 1) := by decide +kernel
theorem C_Sp_jarAt_in {M : MM} {n j : Nat} (hn : n ≤ 6) (hM : M 3 2 = i3 n) (hj : j < n) : AF y_Sp_jarAt c_Sp_jarAt 2 (some (.object "LastJars$Jar")) 2 [vR 3, vI (i3 j)] (M) (some (vR (6 + j))) (M) := by
  refine AF.of k_Sp_jarAt (lo := [some (vR 3), some (vI (i3 j))]) rfl (Nat.le_of_ble_eq_true rfl) (fun X hX hR => ?_)
  refine v_iload_n (pc := 0) hX rfl d_Sp_jarAt_0 ?_
  refine v_aload_n (pc := 1) hX rfl d_Sp_jarAt_1 ?_
  refine g_getI (pc := 2) hX fl_Sp_25 rfl rfl d_Sp_jarAt_2 ?_
  refine f_callN (pc := 5) hX k_LJ_isBelow ks_LJ_isBelow (by decide) (C_LJ_isBelow) rfl rfl rfl (Nat.le_of_ble_eq_true rfl) (Nat.le_of_ble_eq_true rfl) (Nat.le_of_ble_eq_true rfl) d_Sp_jarAt_5 ?_
  refine f_ifeqB (pc := 8) (tgt := 20) hX d_Sp_jarAt_8 rfl (fun h8 => False.elim (absurd h8 (by rw [hM, i3_int (by omega), rg_i3 hj (by omega)]; decide))) (fun h8 => ?_)
  refine v_aload_n (pc := 11) hX rfl d_Sp_jarAt_11 ?_
  refine g_getR (pc := 12) hX fl_Sp_11 rfl rfl nf_3_0 d_Sp_jarAt_12 ?_
  refine v_iload_n (pc := 15) hX rfl d_Sp_jarAt_15 ?_
  refine g_aald (pc := 16) (c := 1) hX (by decide) (by decide) rfl (IX.of (by omega) (by decide)) (nf_jar j (by omega)) d_Sp_jarAt_16 ?_
  refine v_goto (pc := 17) (tgt := 21) hX d_Sp_jarAt_17 rfl ?_
  exact f_aret (pc := 21) hX hR (rfl) (rfl) d_Sp_jarAt_21
theorem C_Sp_jarAt_out {M : MM} {n : Nat} {x : Int32} (hn : n ≤ 6) (hM : M 3 2 = i3 n) (hx : rg x 0 ((n : Int) - 1) = false) : AF y_Sp_jarAt c_Sp_jarAt 2 (some (.object "LastJars$Jar")) 2 [vR 3, vI x] (M) (some (vR 0)) (M) := by
  refine AF.of k_Sp_jarAt (lo := [some (vR 3), some (vI x)]) rfl (Nat.le_of_ble_eq_true rfl) (fun X hX hR => ?_)
  refine v_iload_n (pc := 0) hX rfl d_Sp_jarAt_0 ?_
  refine v_aload_n (pc := 1) hX rfl d_Sp_jarAt_1 ?_
  refine g_getI (pc := 2) hX fl_Sp_25 rfl rfl d_Sp_jarAt_2 ?_
  refine f_callN (pc := 5) hX k_LJ_isBelow ks_LJ_isBelow (by decide) (C_LJ_isBelow) rfl rfl rfl (Nat.le_of_ble_eq_true rfl) (Nat.le_of_ble_eq_true rfl) (Nat.le_of_ble_eq_true rfl) d_Sp_jarAt_5 ?_
  refine f_ifeqB (pc := 8) (tgt := 20) hX d_Sp_jarAt_8 rfl (fun h8 => ?_) (fun h8 => False.elim (absurd h8 (by rw [hM, i3_int (by omega), hx]; decide)))
  refine v_null (pc := 20) hX d_Sp_jarAt_20 ?_
  exact f_aret (pc := 21) hX hR (rfl) (rfl) d_Sp_jarAt_21
theorem d_Sp_deciderAt_0 : decode c_Sp_deciderAt 0 = .ok (.iload_n 1, 1) := by decide +kernel
theorem d_Sp_deciderAt_1 : decode c_Sp_deciderAt 1 = .ok (.aload_n 0, 1) := by decide +kernel
theorem d_Sp_deciderAt_2 : decode c_Sp_deciderAt 2 = .ok (.getfield 33, 3) := by decide +kernel
theorem d_Sp_deciderAt_5 : decode c_Sp_deciderAt 5 = .ok (.invokestatic 29, 3) := by decide +kernel
theorem d_Sp_deciderAt_8 : decode c_Sp_deciderAt 8 = .ok (.ifCond .eq 12, 3) := by decide +kernel
theorem d_Sp_deciderAt_11 : decode c_Sp_deciderAt 11 = .ok (.aload_n 0, 1) := by decide +kernel
theorem d_Sp_deciderAt_12 : decode c_Sp_deciderAt 12 = .ok (.getfield 19, 3) := by decide +kernel
theorem d_Sp_deciderAt_15 : decode c_Sp_deciderAt 15 = .ok (.iload_n 1, 1) := by decide +kernel
theorem d_Sp_deciderAt_16 : decode c_Sp_deciderAt 16 = .ok (.aaload, 1) := by decide +kernel
theorem d_Sp_deciderAt_17 : decode c_Sp_deciderAt 17 = .ok (.goto 4, 3) := by decide +kernel
theorem d_Sp_deciderAt_20 : decode c_Sp_deciderAt 20 = .ok (.aconst_null, 1) := by decide +kernel
theorem d_Sp_deciderAt_21 : decode c_Sp_deciderAt 21 = .ok (.areturn, 1) := by decide +kernel
theorem C_Sp_deciderAt_in {M : MM} {n j : Nat} (hn : n ≤ 4) (hM : M 3 3 = i3 n) (hj : j < n) : AF y_Sp_deciderAt c_Sp_deciderAt 2 (some (.object "LastJars$Decider")) 2 [vR 3, vI (i3 j)] (M) (some (vR (12 + j))) (M) := by
  refine AF.of k_Sp_deciderAt (lo := [some (vR 3), some (vI (i3 j))]) rfl (Nat.le_of_ble_eq_true rfl) (fun X hX hR => ?_)
  refine v_iload_n (pc := 0) hX rfl d_Sp_deciderAt_0 ?_
  refine v_aload_n (pc := 1) hX rfl d_Sp_deciderAt_1 ?_
  refine g_getI (pc := 2) hX fl_Sp_33 rfl rfl d_Sp_deciderAt_2 ?_
  refine f_callN (pc := 5) hX k_LJ_isBelow ks_LJ_isBelow (by decide) (C_LJ_isBelow) rfl rfl rfl (Nat.le_of_ble_eq_true rfl) (Nat.le_of_ble_eq_true rfl) (Nat.le_of_ble_eq_true rfl) d_Sp_deciderAt_5 ?_
  refine f_ifeqB (pc := 8) (tgt := 20) hX d_Sp_deciderAt_8 rfl (fun h8 => False.elim (absurd h8 (by rw [hM, i3_int (by omega), rg_i3 hj (by omega)]; decide))) (fun h8 => ?_)
  refine v_aload_n (pc := 11) hX rfl d_Sp_deciderAt_11 ?_
  refine g_getR (pc := 12) hX fl_Sp_19 rfl rfl nf_3_1 d_Sp_deciderAt_12 ?_
  refine v_iload_n (pc := 15) hX rfl d_Sp_deciderAt_15 ?_
  refine g_aald (pc := 16) (c := 0) hX (by decide) (by decide) rfl (IX.of (by omega) (by decide)) (nf_dec j (by omega)) d_Sp_deciderAt_16 ?_
  refine v_goto (pc := 17) (tgt := 21) hX d_Sp_deciderAt_17 rfl ?_
  exact f_aret (pc := 21) hX hR (rfl) (rfl) d_Sp_deciderAt_21
theorem C_Sp_deciderAt_out {M : MM} {n : Nat} {x : Int32} (hn : n ≤ 4) (hM : M 3 3 = i3 n) (hx : rg x 0 ((n : Int) - 1) = false) : AF y_Sp_deciderAt c_Sp_deciderAt 2 (some (.object "LastJars$Decider")) 2 [vR 3, vI x] (M) (some (vR 0)) (M) := by
  refine AF.of k_Sp_deciderAt (lo := [some (vR 3), some (vI x)]) rfl (Nat.le_of_ble_eq_true rfl) (fun X hX hR => ?_)
  refine v_iload_n (pc := 0) hX rfl d_Sp_deciderAt_0 ?_
  refine v_aload_n (pc := 1) hX rfl d_Sp_deciderAt_1 ?_
  refine g_getI (pc := 2) hX fl_Sp_33 rfl rfl d_Sp_deciderAt_2 ?_
  refine f_callN (pc := 5) hX k_LJ_isBelow ks_LJ_isBelow (by decide) (C_LJ_isBelow) rfl rfl rfl (Nat.le_of_ble_eq_true rfl) (Nat.le_of_ble_eq_true rfl) (Nat.le_of_ble_eq_true rfl) d_Sp_deciderAt_5 ?_
  refine f_ifeqB (pc := 8) (tgt := 20) hX d_Sp_deciderAt_8 rfl (fun h8 => ?_) (fun h8 => False.elim (absurd h8 (by rw [hM, i3_int (by omega), hx]; decide)))
  refine v_null (pc := 20) hX d_Sp_deciderAt_20 ?_
  exact f_aret (pc := 21) hX hR (rfl) (rfl) d_Sp_deciderAt_21
theorem d_Sp_setsEnd_0 : decode c_Sp_setsEnd 0 = .ok (.iconst 1, 1) := by decide +kernel
theorem d_Sp_setsEnd_1 : decode c_Sp_setsEnd 1 = .ok (.aload_n 0, 1) := by decide +kernel
theorem d_Sp_setsEnd_2 : decode c_Sp_setsEnd 2 = .ok (.getfield 25, 3) := by decide +kernel
theorem d_Sp_setsEnd_5 : decode c_Sp_setsEnd 5 = .ok (.ishl, 1) := by decide +kernel
theorem d_Sp_setsEnd_6 : decode c_Sp_setsEnd 6 = .ok (.ireturn, 1) := by decide +kernel
theorem C_Sp_setsEnd {M : MM} {n : Nat} {J : JT} (hJ : CJ M n J) : AF y_Sp_setsEnd c_Sp_setsEnd 1 (some .int) 1 [vR 3] (M) (some (vI (i3 (2 ^ n)))) (M) := by
  refine AF.of k_Sp_setsEnd (lo := [some (vR 3)]) rfl (Nat.le_of_ble_eq_true rfl) (fun X hX hR => ?_)
  refine v_iconst (pc := 0) (v := 1) hX (by decide) d_Sp_setsEnd_0 ?_
  refine v_aload_n (pc := 1) hX rfl d_Sp_setsEnd_1 ?_
  refine g_getI (pc := 2) hX fl_Sp_25 rfl rfl d_Sp_setsEnd_2 ?_
  refine v_ishl (pc := 5) hX d_Sp_setsEnd_5 ?_
  exact f_iret (pc := 6) hX hR (by rw [hJ.2.1]; exact shl_i3 n (by have := hJ.1; omega)) (rfl) d_Sp_setsEnd_6
theorem pow6 {n : Nat} (h : n ≤ 6) : 2 ^ n ≤ 64 := Nat.pow_le_pow_right (n := 2) (by decide) h
theorem d_Sp_isBlend_0 : decode c_Sp_isBlend 0 = .ok (.iload_n 1, 1) := by decide +kernel
theorem d_Sp_isBlend_1 : decode c_Sp_isBlend 1 = .ok (.ifCond .le 15, 3) := by decide +kernel
theorem d_Sp_isBlend_4 : decode c_Sp_isBlend 4 = .ok (.iload_n 1, 1) := by decide +kernel
theorem d_Sp_isBlend_5 : decode c_Sp_isBlend 5 = .ok (.aload_n 0, 1) := by decide +kernel
theorem d_Sp_isBlend_6 : decode c_Sp_isBlend 6 = .ok (.invokevirtual 36, 3) := by decide +kernel
theorem d_Sp_isBlend_9 : decode c_Sp_isBlend 9 = .ok (.if_icmp .ge 7, 3) := by decide +kernel
theorem d_Sp_isBlend_12 : decode c_Sp_isBlend 12 = .ok (.iconst 1, 1) := by decide +kernel
theorem d_Sp_isBlend_13 : decode c_Sp_isBlend 13 = .ok (.goto 4, 3) := by decide +kernel
theorem d_Sp_isBlend_16 : decode c_Sp_isBlend 16 = .ok (.iconst 0, 1) := by decide +kernel
theorem d_Sp_isBlend_17 : decode c_Sp_isBlend 17 = .ok (.ireturn, 1) := by decide +kernel
theorem C_Sp_isBlend {M : MM} {n : Nat} {J : JT} {x : Int32} (hJ : CJ M n J) : AF y_Sp_isBlend c_Sp_isBlend 2 (some .boolean) 2 [vR 3, vI x] (M) (some (vI (bI (rg x 1 ((2 ^ n : Nat) - 1))))) (M) := by
  have hp := pow6 hJ.1
  have hpi := i3_int (k := 2 ^ n) (by omega)
  refine AF.of k_Sp_isBlend (lo := [some (vR 3), some (vI x)]) rfl (Nat.le_of_ble_eq_true rfl) (fun X hX hR => ?_)
  refine v_iload_n (pc := 0) hX rfl d_Sp_isBlend_0 ?_
  refine v_if_le (pc := 1) (tgt := 16) hX d_Sp_isBlend_1 rfl (fun h1 => ?_) (fun h1 => ?_)
  · refine v_iconst (pc := 16) (v := 0) hX (by decide) d_Sp_isBlend_16 ?_
    exact f_zret (pc := 17) hX hR (by first | exact rgF (by simp only [lt32, le32, q_0, hpi] at *; omega) | exact rgT (by simp only [lt32, le32, q_0, hpi] at *; omega)) (rfl) d_Sp_isBlend_17
  · refine v_iload_n (pc := 4) hX rfl d_Sp_isBlend_4 ?_
    refine v_aload_n (pc := 5) hX rfl d_Sp_isBlend_5 ?_
    refine f_callV (pc := 6) hX k_Sp_setsEnd ki_Sp_setsEnd kv_Sp_setsEnd ml_Sp_36 (C_Sp_setsEnd hJ) rfl rfl rfl rfl rfl (Nat.le_of_ble_eq_true rfl) (Nat.le_of_ble_eq_true rfl) (Nat.le_of_ble_eq_true rfl) d_Sp_isBlend_6 ?_
    refine v_icmp_ge (pc := 9) (tgt := 16) hX d_Sp_isBlend_9 rfl (fun h9 => ?_) (fun h9 => ?_)
    · refine v_iconst (pc := 16) (v := 0) hX (by decide) d_Sp_isBlend_16 ?_
      exact f_zret (pc := 17) hX hR (by first | exact rgF (by simp only [lt32, le32, q_0, hpi] at *; omega) | exact rgT (by simp only [lt32, le32, q_0, hpi] at *; omega)) (rfl) d_Sp_isBlend_17
    · refine v_iconst (pc := 12) (v := 1) hX (by decide) d_Sp_isBlend_12 ?_
      refine v_goto (pc := 13) (tgt := 17) hX d_Sp_isBlend_13 rfl ?_
      exact f_zret (pc := 17) hX hR (by first | exact rgF (by simp only [lt32, le32, q_0, hpi] at *; omega) | exact rgT (by simp only [lt32, le32, q_0, hpi] at *; omega)) (rfl) d_Sp_isBlend_17
theorem d_Sp_markOf_0 : decode c_Sp_markOf 0 = .ok (.iconst 0, 1) := by decide +kernel
theorem d_Sp_markOf_1 : decode c_Sp_markOf 1 = .ok (.istore_n 3, 1) := by decide +kernel
theorem d_Sp_markOf_2 : decode c_Sp_markOf 2 = .ok (.iconst 0, 1) := by decide +kernel
theorem d_Sp_markOf_3 : decode c_Sp_markOf 3 = .ok (.istore 4, 2) := by decide +kernel
theorem d_Sp_markOf_5 : decode c_Sp_markOf 5 = .ok (.iconst 0, 1) := by decide +kernel
theorem d_Sp_markOf_6 : decode c_Sp_markOf 6 = .ok (.istore 5, 2) := by decide +kernel
theorem d_Sp_markOf_8 : decode c_Sp_markOf 8 = .ok (.iload 5, 2) := by decide +kernel
theorem d_Sp_markOf_10 : decode c_Sp_markOf 10 = .ok (.aload_n 0, 1) := by decide +kernel
theorem d_Sp_markOf_11 : decode c_Sp_markOf 11 = .ok (.getfield 25, 3) := by decide +kernel
theorem d_Sp_markOf_14 : decode c_Sp_markOf 14 = .ok (.if_icmp .ge 36, 3) := by decide +kernel
theorem d_Sp_markOf_17 : decode c_Sp_markOf 17 = .ok (.iload_n 1, 1) := by decide +kernel
theorem d_Sp_markOf_18 : decode c_Sp_markOf 18 = .ok (.iload 5, 2) := by decide +kernel
theorem d_Sp_markOf_20 : decode c_Sp_markOf 20 = .ok (.ishr, 1) := by decide +kernel
theorem d_Sp_markOf_21 : decode c_Sp_markOf 21 = .ok (.iconst 1, 1) := by decide +kernel
theorem d_Sp_markOf_22 : decode c_Sp_markOf 22 = .ok (.iand, 1) := by decide +kernel
theorem d_Sp_markOf_23 : decode c_Sp_markOf 23 = .ok (.iconst 1, 1) := by decide +kernel
theorem d_Sp_markOf_24 : decode c_Sp_markOf 24 = .ok (.if_icmp .ne 20, 3) := by decide +kernel
theorem d_Sp_markOf_27 : decode c_Sp_markOf 27 = .ok (.iload_n 3, 1) := by decide +kernel
theorem d_Sp_markOf_28 : decode c_Sp_markOf 28 = .ok (.aload_n 0, 1) := by decide +kernel
theorem d_Sp_markOf_29 : decode c_Sp_markOf 29 = .ok (.getfield 11, 3) := by decide +kernel
theorem d_Sp_markOf_32 : decode c_Sp_markOf 32 = .ok (.iload 5, 2) := by decide +kernel
theorem d_Sp_markOf_34 : decode c_Sp_markOf 34 = .ok (.aaload, 1) := by decide +kernel
theorem d_Sp_markOf_35 : decode c_Sp_markOf 35 = .ok (.iload_n 2, 1) := by decide +kernel
theorem d_Sp_markOf_36 : decode c_Sp_markOf 36 = .ok (.invokevirtual 40, 3) := by decide +kernel
theorem d_Sp_markOf_39 : decode c_Sp_markOf 39 = .ok (.iadd, 1) := by decide +kernel
theorem d_Sp_markOf_40 : decode c_Sp_markOf 40 = .ok (.istore_n 3, 1) := by decide +kernel
theorem d_Sp_markOf_41 : decode c_Sp_markOf 41 = .ok (.iinc 4 1, 3) := by decide +kernel
theorem d_Sp_markOf_44 : decode c_Sp_markOf 44 = .ok (.iinc 5 1, 3) := by decide +kernel
theorem d_Sp_markOf_47 : decode c_Sp_markOf 47 = .ok (.goto (-39), 3) := by decide +kernel
theorem d_Sp_markOf_50 : decode c_Sp_markOf 50 = .ok (.iload 4, 2) := by decide +kernel
theorem d_Sp_markOf_52 : decode c_Sp_markOf 52 = .ok (.ifCond .ne 7, 3) := by decide +kernel
theorem d_Sp_markOf_55 : decode c_Sp_markOf 55 = .ok (.iconst 0, 1) := by decide +kernel
theorem d_Sp_markOf_56 : decode c_Sp_markOf 56 = .ok (.goto 7, 3) := by decide +kernel
theorem d_Sp_markOf_59 : decode c_Sp_markOf 59 = .ok (.iload_n 3, 1) := by decide +kernel
theorem d_Sp_markOf_60 : decode c_Sp_markOf 60 = .ok (.iload 4, 2) := by decide +kernel
theorem d_Sp_markOf_62 : decode c_Sp_markOf 62 = .ok (.idiv, 1) := by decide +kernel
theorem d_Sp_markOf_63 : decode c_Sp_markOf 63 = .ok (.ireturn, 1) := by decide +kernel
theorem C_Sp_markOf {M : MM} {n s : Nat} {J : JT} {t : Int32} (hJ : CJ M n J) (hs : s < 64) : AF y_Sp_markOf c_Sp_markOf 6 (some .int) 2 [vR 3, vI (i3 s), vI t] (M) (some (vI (blN J n s t))) (M) := by
  have h6 := hJ.1
  have hM := hJ.2.1
  refine AF.of k_Sp_markOf (lo := [some (vR 3), some (vI (i3 s)), some (vI t), none, none, none]) rfl (Nat.le_of_ble_eq_true rfl) (fun X hX hR => ?_)
  refine v_iconst (pc := 0) (v := 0) hX (by decide) d_Sp_markOf_0 ?_
  refine v_istore_n (pc := 1) (lo' := [some (vR _), some (vI _), some (vI _), some (vI _), none, none]) hX (Nat.le_of_ble_eq_true rfl) rfl d_Sp_markOf_1 ?_
  refine v_iconst (pc := 2) (v := 0) hX (by decide) d_Sp_markOf_2 ?_
  refine v_istore (pc := 3) (lo' := [some (vR _), some (vI _), some (vI _), some (vI _), some (vI _), none]) hX (Nat.le_of_ble_eq_true rfl) rfl d_Sp_markOf_3 ?_
  refine v_iconst (pc := 5) (v := 0) hX (by decide) d_Sp_markOf_5 ?_
  refine v_istore (pc := 6) (lo' := [some (vR _), some (vI _), some (vI _), some (vI _), some (vI _), some (vI _)]) hX (Nat.le_of_ble_eq_true rfl) rfl d_Sp_markOf_6 ?_
  refine VW.cast (lo' := [some (vR 3), some (vI (i3 s)), some (vI t), some (vI (sumB J s t 0)), some (vI (i3 (pop 0 s))), some (vI (i3 0))]) (st' := []) (G' := gM (M)) rfl rfl rfl ?_
  refine v_for (X := X) (head := 8) (n) (fun kk => [some (vR 3), some (vI (i3 s)), some (vI t), some (vI (sumB J s t kk)), some (vI (i3 (pop kk s))), some (vI (i3 kk))]) (fun kk => M) (fun k hk ih8 => ?_) ?_
  · show VW X 8 [some (vR 3), some (vI (i3 s)), some (vI t), some (vI (sumB J s t k)), some (vI (i3 (pop k s))), some (vI (i3 k))] [] (gM (M))
    have hsj := sh_jar k (by omega)
    have hb := bt_i3 s hs k (by omega)
    refine v_iload (pc := 8) hX rfl d_Sp_markOf_8 ?_
    refine v_aload_n (pc := 10) hX rfl d_Sp_markOf_10 ?_
    refine g_getI (pc := 11) hX fl_Sp_25 rfl rfl d_Sp_markOf_11 ?_
    refine v_icmp_ge (pc := 14) (tgt := 50) hX d_Sp_markOf_14 rfl (fun h14 => False.elim (i3_ge_abs hk (by omega) (by rw [← hM]; exact h14))) (fun h14 => ?_)
    refine v_iload_n (pc := 17) hX rfl d_Sp_markOf_17 ?_
    refine v_iload (pc := 18) hX rfl d_Sp_markOf_18 ?_
    refine v_ishr (pc := 20) hX d_Sp_markOf_20 ?_
    refine v_iconst (pc := 21) (v := 1) hX (by decide) d_Sp_markOf_21 ?_
    refine v_iand (pc := 22) hX d_Sp_markOf_22 ?_
    refine v_iconst (pc := 23) (v := 1) hX (by decide) d_Sp_markOf_23 ?_
    refine v_icmp_ne (pc := 24) (tgt := 44) hX d_Sp_markOf_24 rfl (fun h24 => ?_) (fun h24 => ?_)
    · have hb1 : bt s k = 0 := by
        rcases bt_01 s k with h | h
        · exact h
        · rw [hb, h] at h24; exact absurd rfl h24
      refine v_iinc (pc := 44) (lo' := [some (vR _), some (vI _), some (vI _), some (vI _), some (vI _), some (vI _)]) hX rfl rfl d_Sp_markOf_44 ?_
      refine v_goto (pc := 47) (tgt := 8) hX d_Sp_markOf_47 rfl ?_
      exact VW.cast (by first | (rw [i3_succ, pop_s, hb1, i3_succ, hJ.mk hk]; simp only [sumB, fsum, hb1, if_true]; rfl) | (rw [i3_succ, pop_s, hb1]; simp [sumB, fsum, hb1])) rfl rfl ih8
    · have hb1 : bt s k = 1 := by
        rcases bt_01 s k with h | h
        · rw [hb, h] at h24; exact absurd h24 (by decide)
        · exact h
      refine v_iload_n (pc := 27) hX rfl d_Sp_markOf_27 ?_
      refine v_aload_n (pc := 28) hX rfl d_Sp_markOf_28 ?_
      refine g_getR (pc := 29) hX fl_Sp_11 rfl rfl nf_3_0 d_Sp_markOf_29 ?_
      refine v_iload (pc := 32) hX rfl d_Sp_markOf_32 ?_
      refine g_aald (pc := 34) (c := 1) hX (by decide) (by decide) rfl (IX.of (by omega) (by decide)) (nf_jar k (by omega)) d_Sp_markOf_34 ?_
      refine v_iload_n (pc := 35) hX rfl d_Sp_markOf_35 ?_
      refine f_callV (pc := 36) hX k_Ja_markIn ki_Ja_markIn kv_Ja_markIn ml_Sp_40 (C_Ja_markIn (by assumption)) (by assumption) rfl rfl rfl rfl (Nat.le_of_ble_eq_true rfl) (Nat.le_of_ble_eq_true rfl) (Nat.le_of_ble_eq_true rfl) d_Sp_markOf_36 ?_
      refine v_iadd (pc := 39) hX d_Sp_markOf_39 ?_
      refine v_istore_n (pc := 40) (lo' := [some (vR _), some (vI _), some (vI _), some (vI _), some (vI _), some (vI _)]) hX (Nat.le_of_ble_eq_true rfl) rfl d_Sp_markOf_40 ?_
      refine v_iinc (pc := 41) (lo' := [some (vR _), some (vI _), some (vI _), some (vI _), some (vI _), some (vI _)]) hX rfl rfl d_Sp_markOf_41 ?_
      refine v_iinc (pc := 44) (lo' := [some (vR _), some (vI _), some (vI _), some (vI _), some (vI _), some (vI _)]) hX rfl rfl d_Sp_markOf_44 ?_
      refine v_goto (pc := 47) (tgt := 8) hX d_Sp_markOf_47 rfl ?_
      exact VW.cast (by first | (rw [i3_succ, pop_s, hb1, i3_succ, hJ.mk hk]; simp only [sumB, fsum, hb1, if_true]; rfl) | (rw [i3_succ, pop_s, hb1]; simp [sumB, fsum, hb1])) rfl rfl ih8
  · show VW X 8 [some (vR 3), some (vI (i3 s)), some (vI t), some (vI (sumB J s t (n))), some (vI (i3 (pop (n) s))), some (vI (i3 (n)))] [] (gM (M))
    refine v_iload (pc := 8) hX rfl d_Sp_markOf_8 ?_
    refine v_aload_n (pc := 10) hX rfl d_Sp_markOf_10 ?_
    refine g_getI (pc := 11) hX fl_Sp_25 rfl rfl d_Sp_markOf_11 ?_
    refine v_icmp_ge (pc := 14) (tgt := 50) hX d_Sp_markOf_14 rfl (fun h14 => ?_) (fun h14 => False.elim (absurd (by rw [hM]; exact Int32.le_refl _) h14))
    refine v_iload (pc := 50) hX rfl d_Sp_markOf_50 ?_
    refine v_if_ne (pc := 52) (tgt := 59) hX d_Sp_markOf_52 rfl (fun h52 => ?_) (fun h52 => ?_)
    · refine v_iload_n (pc := 59) hX rfl d_Sp_markOf_59 ?_
      refine v_iload (pc := 60) hX rfl d_Sp_markOf_60 ?_
      refine v_idiv (pc := 62) hX h52 d_Sp_markOf_62 ?_
      exact f_iret (pc := 63) hX hR (by rw [blN]; first | (rw [if_neg (fun q => by rw [q] at h52; exact h52 rfl)]) | (rw [if_pos (by by_cases q : pop n s = 0; exact q; exact absurd h52 (i3_ne0 q (by have := pop_le s n; omega)))])) (rfl) d_Sp_markOf_63
    · refine v_iconst (pc := 55) (v := 0) hX (by decide) d_Sp_markOf_55 ?_
      refine v_goto (pc := 56) (tgt := 63) hX d_Sp_markOf_56 rfl ?_
      exact f_iret (pc := 63) hX hR (by rw [blN]; first | (rw [if_neg (fun q => by rw [q] at h52; exact h52 rfl)]) | (rw [if_pos (by by_cases q : pop n s = 0; exact q; exact absurd h52 (i3_ne0 q (by have := pop_le s n; omega)))])) (rfl) d_Sp_markOf_63
theorem bt_mul {s j : Nat} (x : Int32) : i3 (bt s j) * x = if bt s j = 1 then x else 0 := by
  rcases bt_01 s j with h | h <;> rw [h]
  · rw [if_neg (by decide)]; exact Int32.zero_mul
  · rw [if_pos rfl]; exact Int32.one_mul x
theorem d_Sp_penceOf_0 : decode c_Sp_penceOf 0 = .ok (.iconst 0, 1) := by decide +kernel
theorem d_Sp_penceOf_1 : decode c_Sp_penceOf 1 = .ok (.istore_n 2, 1) := by decide +kernel
theorem d_Sp_penceOf_2 : decode c_Sp_penceOf 2 = .ok (.iconst 0, 1) := by decide +kernel
theorem d_Sp_penceOf_3 : decode c_Sp_penceOf 3 = .ok (.istore_n 3, 1) := by decide +kernel
theorem d_Sp_penceOf_4 : decode c_Sp_penceOf 4 = .ok (.iload_n 3, 1) := by decide +kernel
theorem d_Sp_penceOf_5 : decode c_Sp_penceOf 5 = .ok (.aload_n 0, 1) := by decide +kernel
theorem d_Sp_penceOf_6 : decode c_Sp_penceOf 6 = .ok (.getfield 25, 3) := by decide +kernel
theorem d_Sp_penceOf_9 : decode c_Sp_penceOf 9 = .ok (.if_icmp .ge 27, 3) := by decide +kernel
theorem d_Sp_penceOf_12 : decode c_Sp_penceOf 12 = .ok (.iload_n 2, 1) := by decide +kernel
theorem d_Sp_penceOf_13 : decode c_Sp_penceOf 13 = .ok (.iload_n 1, 1) := by decide +kernel
theorem d_Sp_penceOf_14 : decode c_Sp_penceOf 14 = .ok (.iload_n 3, 1) := by decide +kernel
theorem d_Sp_penceOf_15 : decode c_Sp_penceOf 15 = .ok (.ishr, 1) := by decide +kernel
theorem d_Sp_penceOf_16 : decode c_Sp_penceOf 16 = .ok (.iconst 1, 1) := by decide +kernel
theorem d_Sp_penceOf_17 : decode c_Sp_penceOf 17 = .ok (.iand, 1) := by decide +kernel
theorem d_Sp_penceOf_18 : decode c_Sp_penceOf 18 = .ok (.aload_n 0, 1) := by decide +kernel
theorem d_Sp_penceOf_19 : decode c_Sp_penceOf 19 = .ok (.getfield 11, 3) := by decide +kernel
theorem d_Sp_penceOf_22 : decode c_Sp_penceOf 22 = .ok (.iload_n 3, 1) := by decide +kernel
theorem d_Sp_penceOf_23 : decode c_Sp_penceOf 23 = .ok (.aaload, 1) := by decide +kernel
theorem d_Sp_penceOf_24 : decode c_Sp_penceOf 24 = .ok (.getfield 44, 3) := by decide +kernel
theorem d_Sp_penceOf_27 : decode c_Sp_penceOf 27 = .ok (.imul, 1) := by decide +kernel
theorem d_Sp_penceOf_28 : decode c_Sp_penceOf 28 = .ok (.iadd, 1) := by decide +kernel
theorem d_Sp_penceOf_29 : decode c_Sp_penceOf 29 = .ok (.istore_n 2, 1) := by decide +kernel
theorem d_Sp_penceOf_30 : decode c_Sp_penceOf 30 = .ok (.iinc 3 1, 3) := by decide +kernel
theorem d_Sp_penceOf_33 : decode c_Sp_penceOf 33 = .ok (.goto (-29), 3) := by decide +kernel
theorem d_Sp_penceOf_36 : decode c_Sp_penceOf 36 = .ok (.iload_n 2, 1) := by decide +kernel
theorem d_Sp_penceOf_37 : decode c_Sp_penceOf 37 = .ok (.ireturn, 1) := by decide +kernel
theorem C_Sp_penceOf {M : MM} {n s : Nat} {J : JT} (hJ : CJ M n J) (hs : s < 64) : AF y_Sp_penceOf c_Sp_penceOf 4 (some .int) 1 [vR 3, vI (i3 s)] (M) (some (vI (pcB J s n))) (M) := by
  have h6 := hJ.1
  have hM := hJ.2.1
  refine AF.of k_Sp_penceOf (lo := [some (vR 3), some (vI (i3 s)), none, none]) rfl (Nat.le_of_ble_eq_true rfl) (fun X hX hR => ?_)
  refine v_iconst (pc := 0) (v := 0) hX (by decide) d_Sp_penceOf_0 ?_
  refine v_istore_n (pc := 1) (lo' := [some (vR _), some (vI _), some (vI _), none]) hX (Nat.le_of_ble_eq_true rfl) rfl d_Sp_penceOf_1 ?_
  refine v_iconst (pc := 2) (v := 0) hX (by decide) d_Sp_penceOf_2 ?_
  refine v_istore_n (pc := 3) (lo' := [some (vR _), some (vI _), some (vI _), some (vI _)]) hX (Nat.le_of_ble_eq_true rfl) rfl d_Sp_penceOf_3 ?_
  refine VW.cast (lo' := [some (vR 3), some (vI (i3 s)), some (vI (pcB J s 0)), some (vI (i3 0))]) (st' := []) (G' := gM (M)) rfl rfl rfl ?_
  refine v_for (X := X) (head := 4) (n) (fun kk => [some (vR 3), some (vI (i3 s)), some (vI (pcB J s kk)), some (vI (i3 kk))]) (fun kk => M) (fun k hk ih4 => ?_) ?_
  · show VW X 4 [some (vR 3), some (vI (i3 s)), some (vI (pcB J s k)), some (vI (i3 k))] [] (gM (M))
    have hsj := sh_jar k (by omega)
    have hb := bt_i3 s hs k (by omega)
    refine v_iload_n (pc := 4) hX rfl d_Sp_penceOf_4 ?_
    refine v_aload_n (pc := 5) hX rfl d_Sp_penceOf_5 ?_
    refine g_getI (pc := 6) hX fl_Sp_25 rfl rfl d_Sp_penceOf_6 ?_
    refine v_icmp_ge (pc := 9) (tgt := 36) hX d_Sp_penceOf_9 rfl (fun h9 => False.elim (i3_ge_abs hk (by omega) (by rw [← hM]; exact h9))) (fun h9 => ?_)
    refine v_iload_n (pc := 12) hX rfl d_Sp_penceOf_12 ?_
    refine v_iload_n (pc := 13) hX rfl d_Sp_penceOf_13 ?_
    refine v_iload_n (pc := 14) hX rfl d_Sp_penceOf_14 ?_
    refine v_ishr (pc := 15) hX d_Sp_penceOf_15 ?_
    refine v_iconst (pc := 16) (v := 1) hX (by decide) d_Sp_penceOf_16 ?_
    refine v_iand (pc := 17) hX d_Sp_penceOf_17 ?_
    refine v_aload_n (pc := 18) hX rfl d_Sp_penceOf_18 ?_
    refine g_getR (pc := 19) hX fl_Sp_11 rfl rfl nf_3_0 d_Sp_penceOf_19 ?_
    refine v_iload_n (pc := 22) hX rfl d_Sp_penceOf_22 ?_
    refine g_aald (pc := 23) (c := 1) hX (by decide) (by decide) rfl (IX.of (by omega) (by decide)) (nf_jar k (by omega)) d_Sp_penceOf_23 ?_
    refine g_getI (pc := 24) hX fl_Sp_44 rfl (by assumption) d_Sp_penceOf_24 ?_
    refine v_imul (pc := 27) hX d_Sp_penceOf_27 ?_
    refine v_iadd (pc := 28) hX d_Sp_penceOf_28 ?_
    refine v_istore_n (pc := 29) (lo' := [some (vR _), some (vI _), some (vI _), some (vI _)]) hX (Nat.le_of_ble_eq_true rfl) rfl d_Sp_penceOf_29 ?_
    refine v_iinc (pc := 30) (lo' := [some (vR _), some (vI _), some (vI _), some (vI _)]) hX rfl rfl d_Sp_penceOf_30 ?_
    refine v_goto (pc := 33) (tgt := 4) hX d_Sp_penceOf_33 rfl ?_
    exact VW.cast (by rw [i3_succ, hb, bt_mul, hJ.2.2 k hk 4 (by decide)]; rfl) rfl rfl ih4
  · show VW X 4 [some (vR 3), some (vI (i3 s)), some (vI (pcB J s (n))), some (vI (i3 (n)))] [] (gM (M))
    refine v_iload_n (pc := 4) hX rfl d_Sp_penceOf_4 ?_
    refine v_aload_n (pc := 5) hX rfl d_Sp_penceOf_5 ?_
    refine g_getI (pc := 6) hX fl_Sp_25 rfl rfl d_Sp_penceOf_6 ?_
    refine v_icmp_ge (pc := 9) (tgt := 36) hX d_Sp_penceOf_9 rfl (fun h9 => ?_) (fun h9 => False.elim (absurd (by rw [hM]; exact Int32.le_refl _) h9))
    refine v_iload_n (pc := 36) hX rfl d_Sp_penceOf_36 ?_
    exact f_iret (pc := 37) hX hR (rfl) (rfl) d_Sp_penceOf_37
theorem d_Sp_stocked_0 : decode c_Sp_stocked 0 = .ok (.iconst 0, 1) := by decide +kernel
theorem d_Sp_stocked_1 : decode c_Sp_stocked 1 = .ok (.istore_n 1, 1) := by decide +kernel
theorem d_Sp_stocked_2 : decode c_Sp_stocked 2 = .ok (.iconst 0, 1) := by decide +kernel
theorem d_Sp_stocked_3 : decode c_Sp_stocked 3 = .ok (.istore_n 2, 1) := by decide +kernel
theorem d_Sp_stocked_4 : decode c_Sp_stocked 4 = .ok (.iload_n 2, 1) := by decide +kernel
theorem d_Sp_stocked_5 : decode c_Sp_stocked 5 = .ok (.aload_n 0, 1) := by decide +kernel
theorem d_Sp_stocked_6 : decode c_Sp_stocked 6 = .ok (.getfield 25, 3) := by decide +kernel
theorem d_Sp_stocked_9 : decode c_Sp_stocked 9 = .ok (.if_icmp .ge 31, 3) := by decide +kernel
theorem d_Sp_stocked_12 : decode c_Sp_stocked 12 = .ok (.iload_n 1, 1) := by decide +kernel
theorem d_Sp_stocked_13 : decode c_Sp_stocked 13 = .ok (.aload_n 0, 1) := by decide +kernel
theorem d_Sp_stocked_14 : decode c_Sp_stocked 14 = .ok (.getfield 11, 3) := by decide +kernel
theorem d_Sp_stocked_17 : decode c_Sp_stocked 17 = .ok (.iload_n 2, 1) := by decide +kernel
theorem d_Sp_stocked_18 : decode c_Sp_stocked 18 = .ok (.aaload, 1) := by decide +kernel
theorem d_Sp_stocked_19 : decode c_Sp_stocked 19 = .ok (.getfield 47, 3) := by decide +kernel
theorem d_Sp_stocked_22 : decode c_Sp_stocked 22 = .ok (.ifCond .le 9, 3) := by decide +kernel
theorem d_Sp_stocked_25 : decode c_Sp_stocked 25 = .ok (.iconst 1, 1) := by decide +kernel
theorem d_Sp_stocked_26 : decode c_Sp_stocked 26 = .ok (.iload_n 2, 1) := by decide +kernel
theorem d_Sp_stocked_27 : decode c_Sp_stocked 27 = .ok (.ishl, 1) := by decide +kernel
theorem d_Sp_stocked_28 : decode c_Sp_stocked 28 = .ok (.goto 4, 3) := by decide +kernel
theorem d_Sp_stocked_31 : decode c_Sp_stocked 31 = .ok (.iconst 0, 1) := by decide +kernel
theorem d_Sp_stocked_32 : decode c_Sp_stocked 32 = .ok (.ior, 1) := by decide +kernel
theorem d_Sp_stocked_33 : decode c_Sp_stocked 33 = .ok (.istore_n 1, 1) := by decide +kernel
theorem d_Sp_stocked_34 : decode c_Sp_stocked 34 = .ok (.iinc 2 1, 3) := by decide +kernel
theorem d_Sp_stocked_37 : decode c_Sp_stocked 37 = .ok (.goto (-33), 3) := by decide +kernel
theorem d_Sp_stocked_40 : decode c_Sp_stocked 40 = .ok (.iload_n 1, 1) := by decide +kernel
theorem d_Sp_stocked_41 : decode c_Sp_stocked 41 = .ok (.ireturn, 1) := by decide +kernel
theorem C_Sp_stocked {M : MM} {n : Nat} {J : JT} (hJ : CJ M n J) : AF y_Sp_stocked c_Sp_stocked 3 (some .int) 1 [vR 3] (M) (some (vI (i3 (stN J n)))) (M) := by
  have h6 := hJ.1
  have hM := hJ.2.1
  refine AF.of k_Sp_stocked (lo := [some (vR 3), none, none]) rfl (Nat.le_of_ble_eq_true rfl) (fun X hX hR => ?_)
  refine v_iconst (pc := 0) (v := 0) hX (by decide) d_Sp_stocked_0 ?_
  refine v_istore_n (pc := 1) (lo' := [some (vR _), some (vI _), none]) hX (Nat.le_of_ble_eq_true rfl) rfl d_Sp_stocked_1 ?_
  refine v_iconst (pc := 2) (v := 0) hX (by decide) d_Sp_stocked_2 ?_
  refine v_istore_n (pc := 3) (lo' := [some (vR _), some (vI _), some (vI _)]) hX (Nat.le_of_ble_eq_true rfl) rfl d_Sp_stocked_3 ?_
  refine VW.cast (lo' := [some (vR 3), some (vI (i3 (stN J 0))), some (vI (i3 0))]) (st' := []) (G' := gM (M)) rfl rfl rfl ?_
  refine v_for (X := X) (head := 4) (n) (fun kk => [some (vR 3), some (vI (i3 (stN J kk))), some (vI (i3 kk))]) (fun kk => M) (fun k hk ih4 => ?_) ?_
  · show VW X 4 [some (vR 3), some (vI (i3 (stN J k))), some (vI (i3 k))] [] (gM (M))
    have hsj := sh_jar k (by omega)
    have hb := shl_i3 k (by omega)
    have hl := stN_lt J k
    have h3 := hJ.2.2 k hk 3 (by decide)
    refine v_iload_n (pc := 4) hX rfl d_Sp_stocked_4 ?_
    refine v_aload_n (pc := 5) hX rfl d_Sp_stocked_5 ?_
    refine g_getI (pc := 6) hX fl_Sp_25 rfl rfl d_Sp_stocked_6 ?_
    refine v_icmp_ge (pc := 9) (tgt := 40) hX d_Sp_stocked_9 rfl (fun h9 => False.elim (i3_ge_abs hk (by omega) (by rw [← hM]; exact h9))) (fun h9 => ?_)
    refine v_iload_n (pc := 12) hX rfl d_Sp_stocked_12 ?_
    refine v_aload_n (pc := 13) hX rfl d_Sp_stocked_13 ?_
    refine g_getR (pc := 14) hX fl_Sp_11 rfl rfl nf_3_0 d_Sp_stocked_14 ?_
    refine v_iload_n (pc := 17) hX rfl d_Sp_stocked_17 ?_
    refine g_aald (pc := 18) (c := 1) hX (by decide) (by decide) rfl (IX.of (by omega) (by decide)) (nf_jar k (by omega)) d_Sp_stocked_18 ?_
    refine g_getI (pc := 19) hX fl_Sp_47 rfl (by assumption) d_Sp_stocked_19 ?_
    refine v_if_le (pc := 22) (tgt := 31) hX d_Sp_stocked_22 rfl (fun h22 => ?_) (fun h22 => ?_)
    · refine v_iconst (pc := 31) (v := 0) hX (by decide) d_Sp_stocked_31 ?_
      refine v_ior (pc := 32) hX d_Sp_stocked_32 ?_
      refine v_istore_n (pc := 33) (lo' := [some (vR _), some (vI _), some (vI _)]) hX (Nat.le_of_ble_eq_true rfl) rfl d_Sp_stocked_33 ?_
      refine v_iinc (pc := 34) (lo' := [some (vR _), some (vI _), some (vI _)]) hX rfl rfl d_Sp_stocked_34 ?_
      refine v_goto (pc := 37) (tgt := 4) hX d_Sp_stocked_37 rfl ?_
      exact VW.cast (by first | (rw [h3] at h22; rw [i3_succ, hb, or_i3 k (by omega) _ hl, stN, if_pos (by simp only [lt32, le32, q_0] at *; omega)]; rfl) | (rw [h3] at h22; rw [i3_succ, or_0, stN, if_neg (by simp only [lt32, le32, q_0] at *; omega)]; rfl)) rfl rfl ih4
    · refine v_iconst (pc := 25) (v := 1) hX (by decide) d_Sp_stocked_25 ?_
      refine v_iload_n (pc := 26) hX rfl d_Sp_stocked_26 ?_
      refine v_ishl (pc := 27) hX d_Sp_stocked_27 ?_
      refine v_goto (pc := 28) (tgt := 32) hX d_Sp_stocked_28 rfl ?_
      refine v_ior (pc := 32) hX d_Sp_stocked_32 ?_
      refine v_istore_n (pc := 33) (lo' := [some (vR _), some (vI _), some (vI _)]) hX (Nat.le_of_ble_eq_true rfl) rfl d_Sp_stocked_33 ?_
      refine v_iinc (pc := 34) (lo' := [some (vR _), some (vI _), some (vI _)]) hX rfl rfl d_Sp_stocked_34 ?_
      refine v_goto (pc := 37) (tgt := 4) hX d_Sp_stocked_37 rfl ?_
      exact VW.cast (by first | (rw [h3] at h22; rw [i3_succ, hb, or_i3 k (by omega) _ hl, stN, if_pos (by simp only [lt32, le32, q_0] at *; omega)]; rfl) | (rw [h3] at h22; rw [i3_succ, or_0, stN, if_neg (by simp only [lt32, le32, q_0] at *; omega)]; rfl)) rfl rfl ih4
  · show VW X 4 [some (vR 3), some (vI (i3 (stN J (n)))), some (vI (i3 (n)))] [] (gM (M))
    refine v_iload_n (pc := 4) hX rfl d_Sp_stocked_4 ?_
    refine v_aload_n (pc := 5) hX rfl d_Sp_stocked_5 ?_
    refine g_getI (pc := 6) hX fl_Sp_25 rfl rfl d_Sp_stocked_6 ?_
    refine v_icmp_ge (pc := 9) (tgt := 40) hX d_Sp_stocked_9 rfl (fun h9 => ?_) (fun h9 => False.elim (absurd (by rw [hM]; exact Int32.le_refl _) h9))
    refine v_iload_n (pc := 40) hX rfl d_Sp_stocked_40 ?_
    exact f_iret (pc := 41) hX hR (rfl) (rfl) d_Sp_stocked_41
theorem d_Sp_allHalves_0 : decode c_Sp_allHalves 0 = .ok (.iconst 0, 1) := by decide +kernel
theorem d_Sp_allHalves_1 : decode c_Sp_allHalves 1 = .ok (.istore_n 1, 1) := by decide +kernel
theorem d_Sp_allHalves_2 : decode c_Sp_allHalves 2 = .ok (.iconst 0, 1) := by decide +kernel
theorem d_Sp_allHalves_3 : decode c_Sp_allHalves 3 = .ok (.istore_n 2, 1) := by decide +kernel
theorem d_Sp_allHalves_4 : decode c_Sp_allHalves 4 = .ok (.iload_n 2, 1) := by decide +kernel
theorem d_Sp_allHalves_5 : decode c_Sp_allHalves 5 = .ok (.aload_n 0, 1) := by decide +kernel
theorem d_Sp_allHalves_6 : decode c_Sp_allHalves 6 = .ok (.getfield 25, 3) := by decide +kernel
theorem d_Sp_allHalves_9 : decode c_Sp_allHalves 9 = .ok (.if_icmp .ge 21, 3) := by decide +kernel
theorem d_Sp_allHalves_12 : decode c_Sp_allHalves 12 = .ok (.iload_n 1, 1) := by decide +kernel
theorem d_Sp_allHalves_13 : decode c_Sp_allHalves 13 = .ok (.aload_n 0, 1) := by decide +kernel
theorem d_Sp_allHalves_14 : decode c_Sp_allHalves 14 = .ok (.getfield 11, 3) := by decide +kernel
theorem d_Sp_allHalves_17 : decode c_Sp_allHalves 17 = .ok (.iload_n 2, 1) := by decide +kernel
theorem d_Sp_allHalves_18 : decode c_Sp_allHalves 18 = .ok (.aaload, 1) := by decide +kernel
theorem d_Sp_allHalves_19 : decode c_Sp_allHalves 19 = .ok (.getfield 47, 3) := by decide +kernel
theorem d_Sp_allHalves_22 : decode c_Sp_allHalves 22 = .ok (.iadd, 1) := by decide +kernel
theorem d_Sp_allHalves_23 : decode c_Sp_allHalves 23 = .ok (.istore_n 1, 1) := by decide +kernel
theorem d_Sp_allHalves_24 : decode c_Sp_allHalves 24 = .ok (.iinc 2 1, 3) := by decide +kernel
theorem d_Sp_allHalves_27 : decode c_Sp_allHalves 27 = .ok (.goto (-23), 3) := by decide +kernel
theorem d_Sp_allHalves_30 : decode c_Sp_allHalves 30 = .ok (.iload_n 1, 1) := by decide +kernel
theorem d_Sp_allHalves_31 : decode c_Sp_allHalves 31 = .ok (.ireturn, 1) := by decide +kernel
theorem C_Sp_allHalves {M : MM} {n : Nat} {J : JT} (hJ : CJ M n J) : AF y_Sp_allHalves c_Sp_allHalves 3 (some .int) 1 [vR 3] (M) (some (vI (hvS J n))) (M) := by
  have h6 := hJ.1
  have hM := hJ.2.1
  refine AF.of k_Sp_allHalves (lo := [some (vR 3), none, none]) rfl (Nat.le_of_ble_eq_true rfl) (fun X hX hR => ?_)
  refine v_iconst (pc := 0) (v := 0) hX (by decide) d_Sp_allHalves_0 ?_
  refine v_istore_n (pc := 1) (lo' := [some (vR _), some (vI _), none]) hX (Nat.le_of_ble_eq_true rfl) rfl d_Sp_allHalves_1 ?_
  refine v_iconst (pc := 2) (v := 0) hX (by decide) d_Sp_allHalves_2 ?_
  refine v_istore_n (pc := 3) (lo' := [some (vR _), some (vI _), some (vI _)]) hX (Nat.le_of_ble_eq_true rfl) rfl d_Sp_allHalves_3 ?_
  refine VW.cast (lo' := [some (vR 3), some (vI (hvS J 0)), some (vI (i3 0))]) (st' := []) (G' := gM (M)) rfl rfl rfl ?_
  refine v_for (X := X) (head := 4) (n) (fun kk => [some (vR 3), some (vI (hvS J kk)), some (vI (i3 kk))]) (fun kk => M) (fun k hk ih4 => ?_) ?_
  · show VW X 4 [some (vR 3), some (vI (hvS J k)), some (vI (i3 k))] [] (gM (M))
    have hsj := sh_jar k (by omega)
    refine v_iload_n (pc := 4) hX rfl d_Sp_allHalves_4 ?_
    refine v_aload_n (pc := 5) hX rfl d_Sp_allHalves_5 ?_
    refine g_getI (pc := 6) hX fl_Sp_25 rfl rfl d_Sp_allHalves_6 ?_
    refine v_icmp_ge (pc := 9) (tgt := 30) hX d_Sp_allHalves_9 rfl (fun h9 => False.elim (i3_ge_abs hk (by omega) (by rw [← hM]; exact h9))) (fun h9 => ?_)
    refine v_iload_n (pc := 12) hX rfl d_Sp_allHalves_12 ?_
    refine v_aload_n (pc := 13) hX rfl d_Sp_allHalves_13 ?_
    refine g_getR (pc := 14) hX fl_Sp_11 rfl rfl nf_3_0 d_Sp_allHalves_14 ?_
    refine v_iload_n (pc := 17) hX rfl d_Sp_allHalves_17 ?_
    refine g_aald (pc := 18) (c := 1) hX (by decide) (by decide) rfl (IX.of (by omega) (by decide)) (nf_jar k (by omega)) d_Sp_allHalves_18 ?_
    refine g_getI (pc := 19) hX fl_Sp_47 rfl (by assumption) d_Sp_allHalves_19 ?_
    refine v_iadd (pc := 22) hX d_Sp_allHalves_22 ?_
    refine v_istore_n (pc := 23) (lo' := [some (vR _), some (vI _), some (vI _)]) hX (Nat.le_of_ble_eq_true rfl) rfl d_Sp_allHalves_23 ?_
    refine v_iinc (pc := 24) (lo' := [some (vR _), some (vI _), some (vI _)]) hX rfl rfl d_Sp_allHalves_24 ?_
    refine v_goto (pc := 27) (tgt := 4) hX d_Sp_allHalves_27 rfl ?_
    exact VW.cast (by rw [i3_succ, hJ.2.2 k hk 3 (by decide)]; rfl) rfl rfl ih4
  · show VW X 4 [some (vR 3), some (vI (hvS J (n))), some (vI (i3 (n)))] [] (gM (M))
    refine v_iload_n (pc := 4) hX rfl d_Sp_allHalves_4 ?_
    refine v_aload_n (pc := 5) hX rfl d_Sp_allHalves_5 ?_
    refine g_getI (pc := 6) hX fl_Sp_25 rfl rfl d_Sp_allHalves_6 ?_
    refine v_icmp_ge (pc := 9) (tgt := 30) hX d_Sp_allHalves_9 rfl (fun h9 => ?_) (fun h9 => False.elim (absurd (by rw [hM]; exact Int32.le_refl _) h9))
    refine v_iload_n (pc := 30) hX rfl d_Sp_allHalves_30 ?_
    exact f_iret (pc := 31) hX hR (rfl) (rfl) d_Sp_allHalves_31
