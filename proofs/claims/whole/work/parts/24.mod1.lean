/-! The model: marks, blends, sales. -/
-- the model's state
-- kinds are 0, 1, 2; minutes are not below 0
def KD (n : Nat) (J : JT) : Prop := ∀ j, j < n → J j 0 = 0 ∨ J j 0 = 1 ∨ J j 0 = 2
def WD (n : Nat) (B : JT) : Prop := ∀ j, j < n → 0 ≤ B j 1
def MJ (M : MM) (n : Nat) (J : JT) : Prop := n ≤ 6 ∧ M 36 1 = i3 n ∧ (∀ j, j < n → (∀ k, k < 5 → M (37 + k) j = J j k)) ∧ KD n J
def MB (M : MM) (n : Nat) (B : JT) : Prop := n ≤ 4 ∧ M 36 7 = i3 n ∧ (∀ j, j < n → ∀ k, k < 4 → M (42 + k) j = B j k) ∧ WD n B
def MR (M : MM) (n rc : Nat) (rj : Nat → Nat) (rt : JT) : Prop := rc ≤ 8 ∧ M 36 27 = i3 rc ∧ (∀ x, x < rc → rj x < n ∧ M 57 x = i3 (rj x) ∧ M 58 x = rt x 0 ∧ M 59 x = rt x 1) ∧ ∀ x, x < rc → 0 ≤ rt x 0
def MZ (M : MM) (zs : Nat → Nat) (ln : Nat → Int32) (C : JT) : Prop := ∀ k, k < 4 → zs k ≤ 61 ∧ M 60 k = (if zs k = 0 then -1 else i3 (zs k - 1)) ∧ (zs k ≠ 0 → M 61 k = ln k ∧ ∀ i, i < zs k - 1 → M 62 (60 * k + i) = C k i)
def rL (v l h : Int64) : Bool := decide (l.toInt ≤ v.toInt) && decide (v.toInt ≤ h.toInt)
theorem rL_rg {x : Int32} {l h : Int64} {L H : Int} (hl : l.toInt = L) (hh : h.toInt = H) : rL x.toInt64 l h = rg x L H := by
  unfold rL rg
  rw [hl, hh, Int32.toInt_toInt64]
theorem m1_int {k : Nat} (h : k ≤ 1000) : ((i3 k).toInt64 - 1).toInt = (k : Int) - 1 := by
  rw [Int64.toInt_sub, Int32.toInt_toInt64, i3_int (by omega), show (1 : Int64).toInt = 1 from rfl, Int.bmod_def]
  omega
theorem lf_alt (x : Int32) : (if x < 0 then 0 else x) = (if 0 < x then x else 0) := by
  by_cases h : x < 0
  · rw [if_pos h, if_neg (by simp only [lt32, q_0] at *; omega)]
  · rw [if_neg h]
    by_cases h2 : 0 < x
    · rw [if_pos h2]
    · rw [if_neg h2]
      simp only [lt32, eq32, q_0] at *
      omega
theorem i3_nn {k : Nat} (h : k ≤ 1000) : 0 ≤ i3 k := (i3_le (a := 0) (by decide) (by omega)).mpr (Nat.zero_le k)
theorem rg_nn {x : Int32} {H : Int} (h : rg x 0 H = true) : 0 ≤ x := by
  have := rg_true.mp h
  simp only [le32, q_0]; omega
theorem i3_k3 {k : Nat} (h : k < 3) : i3 k = 0 ∨ i3 k = 1 ∨ i3 k = 2 := by
  rcases (show k = 0 ∨ k = 1 ∨ k = 2 by omega) with rfl | rfl | rfl
  · exact Or.inl rfl
  · exact Or.inr (Or.inl rfl)
  · exact Or.inr (Or.inr rfl)
-- what a jar's mark is, as the model tells it
def sooM (su fa t : Int32) : Int32 := if t = 0 then 0 else lfM su fa (t - 1)
theorem soo_W {kd su fa t : Int32} (hk : ¬ kd = 0) (ht : 0 ≤ t) : mkW kd su fa t = sooM su fa t := by
  unfold mkW mkA sooM
  rw [if_neg hk]
  by_cases h : t = 0
  · subst h
    rw [if_pos rfl, if_pos (by decide)]
  · rw [if_neg h, if_neg]
    have e : (t - 1).toInt = t.toInt - 1 := by
      have h1 := t.toInt_lt
      have h2 := t.le_toInt
      simp only [le32, eq32, q_0] at ht h
      rw [Int32.toInt_sub, show (1 : Int32).toInt = 1 from rfl, Int.bmod_def]
      omega
    simp only [le32, lt32, eq32, q_0] at *
    omega
theorem mk_0 {kd su fa t : Int32} (hk : kd = 0) (ht : 0 ≤ t) : mkM kd su fa t = lfM su fa t := by
  subst hk
  unfold mkM mkW mkA
  rw [if_neg (by decide), if_pos rfl, if_neg (Int32.not_lt.mpr ht)]
theorem mk_1 {kd su fa t : Int32} (hk : kd = 1) (ht : 0 ≤ t) : mkM kd su fa t = sooM su fa t := by
  subst hk
  unfold mkM
  rw [if_neg (by decide), soo_W (by decide) ht]
theorem mk_2 {kd su fa t : Int32} (hk : kd = 2) (ht : 0 ≤ t) : mkM kd su fa t = sooM su fa t / 2 := by
  subst hk
  unfold mkM
  rw [if_pos rfl, soo_W (by decide) ht]
theorem and1_i3 : ∀ s, s < 64 → (i3 s &&& 1) = i3 (s % 2) := by decide +kernel
theorem shr1_i3 : ∀ s, s < 64 → (i3 s >>> ((1 : Int32) &&& 31)) = i3 (s / 2) := by decide +kernel
theorem pop_end : ∀ s, s < 64 → ∀ k, k < 7 → s / 2 ^ k = 0 → pop k s = pop 6 s := by decide +kernel
theorem pop_n : ∀ n, n < 7 → ∀ s, s < 64 → s < 2 ^ n → pop n s = pop 6 s := by decide +kernel
theorem pop_pos : ∀ s, s < 64 → s ≠ 0 → pop 6 s ≠ 0 := by decide +kernel
theorem six_end : ∀ s, s < 64 → s / 2 ^ 6 = 0 := by decide +kernel
theorem d_Mo_in_0 : decode c_Mo_in 0 = .ok (.lload_n 0, 1) := by decide +kernel
theorem d_Mo_in_1 : decode c_Mo_in 1 = .ok (.lload_n 2, 1) := by decide +kernel
theorem d_Mo_in_2 : decode c_Mo_in 2 = .ok (.lcmp, 1) := by decide +kernel
theorem d_Mo_in_3 : decode c_Mo_in 3 = .ok (.ifCond .lt 14, 3) := by decide +kernel
theorem d_Mo_in_6 : decode c_Mo_in 6 = .ok (.lload_n 0, 1) := by decide +kernel
theorem d_Mo_in_7 : decode c_Mo_in 7 = .ok (.lload 4, 2) := by decide +kernel
theorem d_Mo_in_9 : decode c_Mo_in 9 = .ok (.lcmp, 1) := by decide +kernel
theorem d_Mo_in_10 : decode c_Mo_in 10 = .ok (.ifCond .gt 7, 3) := by decide +kernel
theorem d_Mo_in_13 : decode c_Mo_in 13 = .ok (.iconst 1, 1) := by decide +kernel
theorem d_Mo_in_14 : decode c_Mo_in 14 = .ok (.goto 4, 3) := by decide +kernel
theorem d_Mo_in_17 : decode c_Mo_in 17 = .ok (.iconst 0, 1) := by decide +kernel
theorem d_Mo_in_18 : decode c_Mo_in 18 = .ok (.ireturn, 1) := by decide +kernel
theorem C_Mo_in {M : MM} {v l h : Int64} : AF y_Mo_in c_Mo_in 6 (some .boolean) 1 [vL v, vL l, vL h] (M) (some (vI (bI (rL v l h)))) (M) := by
  refine AF.of k_Mo_in (lo := [some (vL v), none, some (vL l), none, some (vL h), none]) rfl (Nat.le_of_ble_eq_true rfl) (fun X hX hR => ?_)
  refine v_lload_n (pc := 0) hX rfl d_Mo_in_0 ?_
  refine v_lload_n (pc := 1) hX rfl d_Mo_in_1 ?_
  refine v_lcmp (pc := 2) hX d_Mo_in_2 ?_
  refine v_if_lt (pc := 3) (tgt := 17) hX d_Mo_in_3 rfl (fun h3 => ?_) (fun h3 => ?_)
  · have e1 := Int64.lt_iff_toInt_lt.mp ((lg_cmp_lt v l).mp h3)
    have e : rL v l h = false := by unfold rL; rw [decide_eq_false (by omega)]; rfl
    refine v_iconst (pc := 17) (v := 0) hX (by decide) d_Mo_in_17 ?_
    exact f_zret (pc := 18) hX hR (by first | exact bT e | exact bF e) (rfl) d_Mo_in_18
  · have e1 := fun w => h3 ((lg_cmp_lt v l).mpr (Int64.lt_iff_toInt_lt.mpr w))
    refine v_lload_n (pc := 6) hX rfl d_Mo_in_6 ?_
    refine v_lload (pc := 7) hX rfl d_Mo_in_7 ?_
    refine v_lcmp (pc := 9) hX d_Mo_in_9 ?_
    refine v_if_gt (pc := 10) (tgt := 17) hX d_Mo_in_10 rfl (fun h10 => ?_) (fun h10 => ?_)
    · have e2 := Int64.lt_iff_toInt_lt.mp ((lg_cmp_gt v h).mp h10)
      have e : rL v l h = false := by unfold rL; rw [decide_eq_false (show ¬ v.toInt ≤ h.toInt by omega)]; simp
      refine v_iconst (pc := 17) (v := 0) hX (by decide) d_Mo_in_17 ?_
      exact f_zret (pc := 18) hX hR (by first | exact bT e | exact bF e) (rfl) d_Mo_in_18
    · have e2 := fun w => h10 ((lg_cmp_gt v h).mpr (Int64.lt_iff_toInt_lt.mpr w))
      have e : rL v l h = true := by unfold rL; rw [decide_eq_true (Int.not_lt.mp e1), decide_eq_true (Int.not_lt.mp e2)]; rfl
      refine v_iconst (pc := 13) (v := 1) hX (by decide) d_Mo_in_13 ?_
      refine v_goto (pc := 14) (tgt := 18) hX d_Mo_in_14 rfl ?_
      exact f_zret (pc := 18) hX hR (by first | exact bT e | exact bF e) (rfl) d_Mo_in_18
theorem d_Mo_lost_0 : decode c_Mo_lost 0 = .ok (.ldc2_w 91, 3) := by decide +kernel
theorem d_Mo_lost_3 : decode c_Mo_lost 3 = .ok (.lreturn, 1) := by decide +kernel
theorem C_Mo_lost {M : MM} : AF y_Mo_lost c_Mo_lost 0 (some .long) 1 [] (M) (some (vL (-9223372036854775808))) (M) := by
  refine AF.of k_Mo_lost (lo := []) rfl (Nat.le_of_ble_eq_true rfl) (fun X hX hR => ?_)
  refine v_ldc2_w (pc := 0) hX kl_Mo_91 d_Mo_lost_0 ?_
  exact f_lret (pc := 3) hX hR (rfl) (rfl) d_Mo_lost_3
theorem d_Mo_refused_0 : decode c_Mo_refused 0 = .ok (.aload_n 0, 1) := by decide +kernel
theorem d_Mo_refused_1 : decode c_Mo_refused 1 = .ok (.iconst 0, 1) := by decide +kernel
theorem d_Mo_refused_2 : decode c_Mo_refused 2 = .ok (.putfield 93, 3) := by decide +kernel
theorem d_Mo_refused_5 : decode c_Mo_refused 5 = .ok (.iload_n 1, 1) := by decide +kernel
theorem d_Mo_refused_6 : decode c_Mo_refused 6 = .ok (.ireturn, 1) := by decide +kernel
theorem C_Mo_refused {M : MM} {v : Int32} : AF y_Mo_refused c_Mo_refused 2 (some .int) 1 [vR 36, vI v] (M) (some (vI v)) (upM M 36 0 0) := by
  refine AF.of k_Mo_refused (lo := [some (vR 36), some (vI v)]) rfl (Nat.le_of_ble_eq_true rfl) (fun X hX hR => ?_)
  refine v_aload_n (pc := 0) hX rfl d_Mo_refused_0 ?_
  refine v_iconst (pc := 1) (v := 0) hX (by decide) d_Mo_refused_1 ?_
  refine g_putI (pc := 2) hX fl_Mo_93 rfl (finI rfl rfl) rfl rfl rfl d_Mo_refused_2 ?_
  refine v_iload_n (pc := 5) hX rfl d_Mo_refused_5 ?_
  exact f_iret (pc := 6) hX hR (rfl) (rfl) d_Mo_refused_6
theorem d_Mo_failed_0 : decode c_Mo_failed 0 = .ok (.aload_n 0, 1) := by decide +kernel
theorem d_Mo_failed_1 : decode c_Mo_failed 1 = .ok (.iload_n 1, 1) := by decide +kernel
theorem d_Mo_failed_2 : decode c_Mo_failed 2 = .ok (.putfield 93, 3) := by decide +kernel
theorem d_Mo_failed_5 : decode c_Mo_failed 5 = .ok (.bipush (-10), 2) := by decide +kernel
theorem d_Mo_failed_7 : decode c_Mo_failed 7 = .ok (.iload_n 1, 1) := by decide +kernel
theorem d_Mo_failed_8 : decode c_Mo_failed 8 = .ok (.isub, 1) := by decide +kernel
theorem d_Mo_failed_9 : decode c_Mo_failed 9 = .ok (.ireturn, 1) := by decide +kernel
theorem C_Mo_failed {M : MM} {v : Int32} : AF y_Mo_failed c_Mo_failed 2 (some .int) 1 [vR 36, vI v] (M) (some (vI (-10 - v))) (upM M 36 0 v) := by
  refine AF.of k_Mo_failed (lo := [some (vR 36), some (vI v)]) rfl (Nat.le_of_ble_eq_true rfl) (fun X hX hR => ?_)
  refine v_aload_n (pc := 0) hX rfl d_Mo_failed_0 ?_
  refine v_iload_n (pc := 1) hX rfl d_Mo_failed_1 ?_
  refine g_putI (pc := 2) hX fl_Mo_93 rfl (finI rfl rfl) rfl rfl rfl d_Mo_failed_2 ?_
  refine v_bipush (pc := 5) (v := (-10)) hX (by decide) d_Mo_failed_5 ?_
  refine v_iload_n (pc := 7) hX rfl d_Mo_failed_7 ?_
  refine v_isub (pc := 8) hX d_Mo_failed_8 ?_
  exact f_iret (pc := 9) hX hR (rfl) (rfl) d_Mo_failed_9
theorem d_Mo_failedLong_0 : decode c_Mo_failedLong 0 = .ok (.aload_n 0, 1) := by decide +kernel
theorem d_Mo_failedLong_1 : decode c_Mo_failedLong 1 = .ok (.iload_n 1, 1) := by decide +kernel
theorem d_Mo_failedLong_2 : decode c_Mo_failedLong 2 = .ok (.putfield 93, 3) := by decide +kernel
theorem d_Mo_failedLong_5 : decode c_Mo_failedLong 5 = .ok (.invokestatic 97, 3) := by decide +kernel
theorem d_Mo_failedLong_8 : decode c_Mo_failedLong 8 = .ok (.lreturn, 1) := by decide +kernel
theorem C_Mo_failedLong {M : MM} {v : Int32} : AF y_Mo_failedLong c_Mo_failedLong 2 (some .long) 2 [vR 36, vI v] (M) (some (vL (-9223372036854775808))) (upM M 36 0 v) := by
  refine AF.of k_Mo_failedLong (lo := [some (vR 36), some (vI v)]) rfl (Nat.le_of_ble_eq_true rfl) (fun X hX hR => ?_)
  refine v_aload_n (pc := 0) hX rfl d_Mo_failedLong_0 ?_
  refine v_iload_n (pc := 1) hX rfl d_Mo_failedLong_1 ?_
  refine g_putI (pc := 2) hX fl_Mo_93 rfl (finI rfl rfl) rfl rfl rfl d_Mo_failedLong_2 ?_
  refine f_callS (pc := 5) hX k_Mo_lost ks_Mo_lost ml_Mo_97 (C_Mo_lost) rfl rfl rfl (Nat.le_of_ble_eq_true rfl) (Nat.le_of_ble_eq_true rfl) (Nat.le_of_ble_eq_true rfl) d_Mo_failedLong_5 ?_
  exact f_lret (pc := 8) hX hR (rfl) (rfl) d_Mo_failedLong_8
theorem d_Mo_noJar_0 : decode c_Mo_noJar 0 = .ok (.iload_n 1, 1) := by decide +kernel
theorem d_Mo_noJar_1 : decode c_Mo_noJar 1 = .ok (.i2l, 1) := by decide +kernel
theorem d_Mo_noJar_2 : decode c_Mo_noJar 2 = .ok (.lconst 0, 1) := by decide +kernel
theorem d_Mo_noJar_3 : decode c_Mo_noJar 3 = .ok (.aload_n 0, 1) := by decide +kernel
theorem d_Mo_noJar_4 : decode c_Mo_noJar 4 = .ok (.getfield 101, 3) := by decide +kernel
theorem d_Mo_noJar_7 : decode c_Mo_noJar 7 = .ok (.i2l, 1) := by decide +kernel
theorem d_Mo_noJar_8 : decode c_Mo_noJar 8 = .ok (.lconst 1, 1) := by decide +kernel
theorem d_Mo_noJar_9 : decode c_Mo_noJar 9 = .ok (.lsub, 1) := by decide +kernel
theorem d_Mo_noJar_10 : decode c_Mo_noJar 10 = .ok (.invokestatic 104, 3) := by decide +kernel
theorem d_Mo_noJar_13 : decode c_Mo_noJar 13 = .ok (.ifCond .ne 7, 3) := by decide +kernel
theorem d_Mo_noJar_16 : decode c_Mo_noJar 16 = .ok (.iconst 1, 1) := by decide +kernel
theorem d_Mo_noJar_17 : decode c_Mo_noJar 17 = .ok (.goto 4, 3) := by decide +kernel
theorem d_Mo_noJar_20 : decode c_Mo_noJar 20 = .ok (.iconst 0, 1) := by decide +kernel
theorem d_Mo_noJar_21 : decode c_Mo_noJar 21 = .ok (.ireturn, 1) := by decide +kernel
theorem C_Mo_noJar {M : MM} {n : Nat} {x : Int32} (h6 : n ≤ 6) (hM : M 36 1 = i3 n) : AF y_Mo_noJar c_Mo_noJar 2 (some .boolean) 2 [vR 36, vI x] (M) (some (vI (bI (!rg x 0 ((n : Int) - 1))))) (M) := by
  refine AF.of k_Mo_noJar (lo := [some (vR 36), some (vI x)]) rfl (Nat.le_of_ble_eq_true rfl) (fun X hX hR => ?_)
  refine v_iload_n (pc := 0) hX rfl d_Mo_noJar_0 ?_
  refine v_i2l (pc := 1) hX d_Mo_noJar_1 ?_
  refine v_lconst (pc := 2) (v := 0) hX (by decide) d_Mo_noJar_2 ?_
  refine v_aload_n (pc := 3) hX rfl d_Mo_noJar_3 ?_
  refine g_getI (pc := 4) hX fl_Mo_101 rfl rfl d_Mo_noJar_4 ?_
  rw [hM]
  refine v_i2l (pc := 7) hX d_Mo_noJar_7 ?_
  refine v_lconst (pc := 8) (v := 1) hX (by decide) d_Mo_noJar_8 ?_
  refine v_lsub (pc := 9) hX d_Mo_noJar_9 ?_
  refine f_callS (pc := 10) hX k_Mo_in ks_Mo_in ml_Mo_104 (C_Mo_in) rfl rfl rfl (Nat.le_of_ble_eq_true rfl) (Nat.le_of_ble_eq_true rfl) (Nat.le_of_ble_eq_true rfl) d_Mo_noJar_10 ?_
  rw [rL_rg (L := 0) (H := (n : Int) - 1) rfl (m1_int (by omega))]
  refine f_ifneB (pc := 13) (tgt := 20) hX d_Mo_noJar_13 rfl (fun h13 => ?_) (fun h13 => ?_)
  · have e := h13
    refine v_iconst (pc := 20) (v := 0) hX (by decide) d_Mo_noJar_20 ?_
    exact f_zret (pc := 21) hX hR (by first | exact bT (by rw [e]; rfl) | exact bF (by rw [e]; rfl)) (rfl) d_Mo_noJar_21
  · have e := h13
    refine v_iconst (pc := 16) (v := 1) hX (by decide) d_Mo_noJar_16 ?_
    refine v_goto (pc := 17) (tgt := 21) hX d_Mo_noJar_17 rfl ?_
    exact f_zret (pc := 21) hX hR (by first | exact bT (by rw [e]; rfl) | exact bF (by rw [e]; rfl)) (rfl) d_Mo_noJar_21
theorem d_Mo_noDecider_0 : decode c_Mo_noDecider 0 = .ok (.iload_n 1, 1) := by decide +kernel
theorem d_Mo_noDecider_1 : decode c_Mo_noDecider 1 = .ok (.i2l, 1) := by decide +kernel
theorem d_Mo_noDecider_2 : decode c_Mo_noDecider 2 = .ok (.lconst 0, 1) := by decide +kernel
theorem d_Mo_noDecider_3 : decode c_Mo_noDecider 3 = .ok (.aload_n 0, 1) := by decide +kernel
theorem d_Mo_noDecider_4 : decode c_Mo_noDecider 4 = .ok (.getfield 108, 3) := by decide +kernel
theorem d_Mo_noDecider_7 : decode c_Mo_noDecider 7 = .ok (.i2l, 1) := by decide +kernel
theorem d_Mo_noDecider_8 : decode c_Mo_noDecider 8 = .ok (.lconst 1, 1) := by decide +kernel
theorem d_Mo_noDecider_9 : decode c_Mo_noDecider 9 = .ok (.lsub, 1) := by decide +kernel
theorem d_Mo_noDecider_10 : decode c_Mo_noDecider 10 = .ok (.invokestatic 104, 3) := by decide +kernel
theorem d_Mo_noDecider_13 : decode c_Mo_noDecider 13 = .ok (.ifCond .ne 7, 3) := by decide +kernel
theorem d_Mo_noDecider_16 : decode c_Mo_noDecider 16 = .ok (.iconst 1, 1) := by decide +kernel
theorem d_Mo_noDecider_17 : decode c_Mo_noDecider 17 = .ok (.goto 4, 3) := by decide +kernel
theorem d_Mo_noDecider_20 : decode c_Mo_noDecider 20 = .ok (.iconst 0, 1) := by decide +kernel
theorem d_Mo_noDecider_21 : decode c_Mo_noDecider 21 = .ok (.ireturn, 1) := by decide +kernel
theorem C_Mo_noDecider {M : MM} {n : Nat} {x : Int32} (h6 : n ≤ 4) (hM : M 36 7 = i3 n) : AF y_Mo_noDecider c_Mo_noDecider 2 (some .boolean) 2 [vR 36, vI x] (M) (some (vI (bI (!rg x 0 ((n : Int) - 1))))) (M) := by
  refine AF.of k_Mo_noDecider (lo := [some (vR 36), some (vI x)]) rfl (Nat.le_of_ble_eq_true rfl) (fun X hX hR => ?_)
  refine v_iload_n (pc := 0) hX rfl d_Mo_noDecider_0 ?_
  refine v_i2l (pc := 1) hX d_Mo_noDecider_1 ?_
  refine v_lconst (pc := 2) (v := 0) hX (by decide) d_Mo_noDecider_2 ?_
  refine v_aload_n (pc := 3) hX rfl d_Mo_noDecider_3 ?_
  refine g_getI (pc := 4) hX fl_Mo_108 rfl rfl d_Mo_noDecider_4 ?_
  rw [hM]
  refine v_i2l (pc := 7) hX d_Mo_noDecider_7 ?_
  refine v_lconst (pc := 8) (v := 1) hX (by decide) d_Mo_noDecider_8 ?_
  refine v_lsub (pc := 9) hX d_Mo_noDecider_9 ?_
  refine f_callS (pc := 10) hX k_Mo_in ks_Mo_in ml_Mo_104 (C_Mo_in) rfl rfl rfl (Nat.le_of_ble_eq_true rfl) (Nat.le_of_ble_eq_true rfl) (Nat.le_of_ble_eq_true rfl) d_Mo_noDecider_10 ?_
  rw [rL_rg (L := 0) (H := (n : Int) - 1) rfl (m1_int (by omega))]
  refine f_ifneB (pc := 13) (tgt := 20) hX d_Mo_noDecider_13 rfl (fun h13 => ?_) (fun h13 => ?_)
  · have e := h13
    refine v_iconst (pc := 20) (v := 0) hX (by decide) d_Mo_noDecider_20 ?_
    exact f_zret (pc := 21) hX hR (by first | exact bT (by rw [e]; rfl) | exact bF (by rw [e]; rfl)) (rfl) d_Mo_noDecider_21
  · have e := h13
    refine v_iconst (pc := 16) (v := 1) hX (by decide) d_Mo_noDecider_16 ?_
    refine v_goto (pc := 17) (tgt := 21) hX d_Mo_noDecider_17 rfl ?_
    exact f_zret (pc := 21) hX hR (by first | exact bT (by rw [e]; rfl) | exact bF (by rw [e]; rfl)) (rfl) d_Mo_noDecider_21
theorem d_Mo_noBlend_0 : decode c_Mo_noBlend 0 = .ok (.iload_n 1, 1) := by decide +kernel
theorem d_Mo_noBlend_1 : decode c_Mo_noBlend 1 = .ok (.i2l, 1) := by decide +kernel
theorem d_Mo_noBlend_2 : decode c_Mo_noBlend 2 = .ok (.lconst 1, 1) := by decide +kernel
theorem d_Mo_noBlend_3 : decode c_Mo_noBlend 3 = .ok (.iconst 1, 1) := by decide +kernel
theorem d_Mo_noBlend_4 : decode c_Mo_noBlend 4 = .ok (.aload_n 0, 1) := by decide +kernel
theorem d_Mo_noBlend_5 : decode c_Mo_noBlend 5 = .ok (.getfield 101, 3) := by decide +kernel
theorem d_Mo_noBlend_8 : decode c_Mo_noBlend 8 = .ok (.ishl, 1) := by decide +kernel
theorem d_Mo_noBlend_9 : decode c_Mo_noBlend 9 = .ok (.i2l, 1) := by decide +kernel
theorem d_Mo_noBlend_10 : decode c_Mo_noBlend 10 = .ok (.lconst 1, 1) := by decide +kernel
theorem d_Mo_noBlend_11 : decode c_Mo_noBlend 11 = .ok (.lsub, 1) := by decide +kernel
theorem d_Mo_noBlend_12 : decode c_Mo_noBlend 12 = .ok (.invokestatic 104, 3) := by decide +kernel
theorem d_Mo_noBlend_15 : decode c_Mo_noBlend 15 = .ok (.ifCond .ne 7, 3) := by decide +kernel
theorem d_Mo_noBlend_18 : decode c_Mo_noBlend 18 = .ok (.iconst 1, 1) := by decide +kernel
theorem d_Mo_noBlend_19 : decode c_Mo_noBlend 19 = .ok (.goto 4, 3) := by decide +kernel
theorem d_Mo_noBlend_22 : decode c_Mo_noBlend 22 = .ok (.iconst 0, 1) := by decide +kernel
theorem d_Mo_noBlend_23 : decode c_Mo_noBlend 23 = .ok (.ireturn, 1) := by decide +kernel
theorem C_Mo_noBlend {M : MM} {n : Nat} {x : Int32} (h6 : n ≤ 6) (hM : M 36 1 = i3 n) : AF y_Mo_noBlend c_Mo_noBlend 2 (some .boolean) 2 [vR 36, vI x] (M) (some (vI (bI (!rg x 1 ((2 ^ n : Nat) - 1))))) (M) := by
  have hp := pow6 h6
  refine AF.of k_Mo_noBlend (lo := [some (vR 36), some (vI x)]) rfl (Nat.le_of_ble_eq_true rfl) (fun X hX hR => ?_)
  refine v_iload_n (pc := 0) hX rfl d_Mo_noBlend_0 ?_
  refine v_i2l (pc := 1) hX d_Mo_noBlend_1 ?_
  refine v_lconst (pc := 2) (v := 1) hX (by decide) d_Mo_noBlend_2 ?_
  refine v_iconst (pc := 3) (v := 1) hX (by decide) d_Mo_noBlend_3 ?_
  refine v_aload_n (pc := 4) hX rfl d_Mo_noBlend_4 ?_
  refine g_getI (pc := 5) hX fl_Mo_101 rfl rfl d_Mo_noBlend_5 ?_
  rw [hM]
  refine v_ishl (pc := 8) hX d_Mo_noBlend_8 ?_
  rw [shl_i3 n (by omega)]
  refine v_i2l (pc := 9) hX d_Mo_noBlend_9 ?_
  refine v_lconst (pc := 10) (v := 1) hX (by decide) d_Mo_noBlend_10 ?_
  refine v_lsub (pc := 11) hX d_Mo_noBlend_11 ?_
  refine f_callS (pc := 12) hX k_Mo_in ks_Mo_in ml_Mo_104 (C_Mo_in) rfl rfl rfl (Nat.le_of_ble_eq_true rfl) (Nat.le_of_ble_eq_true rfl) (Nat.le_of_ble_eq_true rfl) d_Mo_noBlend_12 ?_
  rw [rL_rg (L := 1) (H := ((2 ^ n : Nat) : Int) - 1) rfl (m1_int (by omega))]
  refine f_ifneB (pc := 15) (tgt := 22) hX d_Mo_noBlend_15 rfl (fun h15 => ?_) (fun h15 => ?_)
  · have e := h15
    refine v_iconst (pc := 22) (v := 0) hX (by decide) d_Mo_noBlend_22 ?_
    exact f_zret (pc := 23) hX hR (by first | exact bT (by rw [e]; rfl) | exact bF (by rw [e]; rfl)) (rfl) d_Mo_noBlend_23
  · have e := h15
    refine v_iconst (pc := 18) (v := 1) hX (by decide) d_Mo_noBlend_18 ?_
    refine v_goto (pc := 19) (tgt := 23) hX d_Mo_noBlend_19 rfl ?_
    exact f_zret (pc := 23) hX hR (by first | exact bT (by rw [e]; rfl) | exact bF (by rw [e]; rfl)) (rfl) d_Mo_noBlend_23
theorem d_Mo_noSheet_0 : decode c_Mo_noSheet 0 = .ok (.iload_n 0, 1) := by decide +kernel
theorem d_Mo_noSheet_1 : decode c_Mo_noSheet 1 = .ok (.i2l, 1) := by decide +kernel
theorem d_Mo_noSheet_2 : decode c_Mo_noSheet 2 = .ok (.lconst 0, 1) := by decide +kernel
theorem d_Mo_noSheet_3 : decode c_Mo_noSheet 3 = .ok (.ldc2_w 202, 3) := by decide +kernel
theorem d_Mo_noSheet_6 : decode c_Mo_noSheet 6 = .ok (.invokestatic 104, 3) := by decide +kernel
theorem d_Mo_noSheet_9 : decode c_Mo_noSheet 9 = .ok (.ifCond .ne 7, 3) := by decide +kernel
theorem d_Mo_noSheet_12 : decode c_Mo_noSheet 12 = .ok (.iconst 1, 1) := by decide +kernel
theorem d_Mo_noSheet_13 : decode c_Mo_noSheet 13 = .ok (.goto 4, 3) := by decide +kernel
theorem d_Mo_noSheet_16 : decode c_Mo_noSheet 16 = .ok (.iconst 0, 1) := by decide +kernel
theorem d_Mo_noSheet_17 : decode c_Mo_noSheet 17 = .ok (.ireturn, 1) := by decide +kernel
theorem C_Mo_noSheet {M : MM} {x : Int32} : AF y_Mo_noSheet c_Mo_noSheet 1 (some .boolean) 2 [vI x] (M) (some (vI (bI (!rg x 0 3)))) (M) := by
  refine AF.of k_Mo_noSheet (lo := [some (vI x)]) rfl (Nat.le_of_ble_eq_true rfl) (fun X hX hR => ?_)
  refine v_iload_n (pc := 0) hX rfl d_Mo_noSheet_0 ?_
  refine v_i2l (pc := 1) hX d_Mo_noSheet_1 ?_
  refine v_lconst (pc := 2) (v := 0) hX (by decide) d_Mo_noSheet_2 ?_
  refine v_ldc2_w (pc := 3) hX kl_Mo_202 d_Mo_noSheet_3 ?_
  refine f_callS (pc := 6) hX k_Mo_in ks_Mo_in ml_Mo_104 (C_Mo_in) rfl rfl rfl (Nat.le_of_ble_eq_true rfl) (Nat.le_of_ble_eq_true rfl) (Nat.le_of_ble_eq_true rfl) d_Mo_noSheet_6 ?_
  rw [rL_rg (L := 0) (H := 3) rfl rfl]
  refine f_ifneB (pc := 9) (tgt := 16) hX d_Mo_noSheet_9 rfl (fun h9 => ?_) (fun h9 => ?_)
  · have e := h9
    refine v_iconst (pc := 16) (v := 0) hX (by decide) d_Mo_noSheet_16 ?_
    exact f_zret (pc := 17) hX hR (by first | exact bT (by rw [e]; rfl) | exact bF (by rw [e]; rfl)) (rfl) d_Mo_noSheet_17
  · have e := h9
    refine v_iconst (pc := 12) (v := 1) hX (by decide) d_Mo_noSheet_12 ?_
    refine v_goto (pc := 13) (tgt := 17) hX d_Mo_noSheet_13 rfl ?_
    exact f_zret (pc := 17) hX hR (by first | exact bT (by rw [e]; rfl) | exact bF (by rw [e]; rfl)) (rfl) d_Mo_noSheet_17
theorem d_Mo_isIn_0 : decode c_Mo_isIn 0 = .ok (.iload_n 0, 1) := by decide +kernel
theorem d_Mo_isIn_1 : decode c_Mo_isIn 1 = .ok (.iload_n 1, 1) := by decide +kernel
theorem d_Mo_isIn_2 : decode c_Mo_isIn 2 = .ok (.ishr, 1) := by decide +kernel
theorem d_Mo_isIn_3 : decode c_Mo_isIn 3 = .ok (.iconst 1, 1) := by decide +kernel
theorem d_Mo_isIn_4 : decode c_Mo_isIn 4 = .ok (.iand, 1) := by decide +kernel
theorem d_Mo_isIn_5 : decode c_Mo_isIn 5 = .ok (.iconst 1, 1) := by decide +kernel
theorem d_Mo_isIn_6 : decode c_Mo_isIn 6 = .ok (.if_icmp .ne 7, 3) := by decide +kernel
theorem d_Mo_isIn_9 : decode c_Mo_isIn 9 = .ok (.iconst 1, 1) := by decide +kernel
theorem d_Mo_isIn_10 : decode c_Mo_isIn 10 = .ok (.goto 4, 3) := by decide +kernel
theorem d_Mo_isIn_13 : decode c_Mo_isIn 13 = .ok (.iconst 0, 1) := by decide +kernel
theorem d_Mo_isIn_14 : decode c_Mo_isIn 14 = .ok (.ireturn, 1) := by decide +kernel
theorem C_Mo_isIn {M : MM} {s j : Nat} (hs : s < 64) (hj : j < 6) : AF y_Mo_isIn c_Mo_isIn 2 (some .boolean) 1 [vI (i3 s), vI (i3 j)] (M) (some (vI (bI (decide (bt s j = 1))))) (M) := by
  have hb := bt_i3 s hs j hj
  refine AF.of k_Mo_isIn (lo := [some (vI (i3 s)), some (vI (i3 j))]) rfl (Nat.le_of_ble_eq_true rfl) (fun X hX hR => ?_)
  refine v_iload_n (pc := 0) hX rfl d_Mo_isIn_0 ?_
  refine v_iload_n (pc := 1) hX rfl d_Mo_isIn_1 ?_
  refine v_ishr (pc := 2) hX d_Mo_isIn_2 ?_
  refine v_iconst (pc := 3) (v := 1) hX (by decide) d_Mo_isIn_3 ?_
  refine v_iand (pc := 4) hX d_Mo_isIn_4 ?_
  refine v_iconst (pc := 5) (v := 1) hX (by decide) d_Mo_isIn_5 ?_
  refine v_icmp_ne (pc := 6) (tgt := 13) hX d_Mo_isIn_6 rfl (fun h6 => ?_) (fun h6 => ?_)
  · have e : decide (bt s j = 1) = false := decide_eq_false (fun w => h6 (by rw [hb, w]; rfl))
    refine v_iconst (pc := 13) (v := 0) hX (by decide) d_Mo_isIn_13 ?_
    exact f_zret (pc := 14) hX hR (by first | exact bT e | exact bF e) (rfl) d_Mo_isIn_14
  · have e : decide (bt s j = 1) = true := decide_eq_true (by rcases bt_01 s j with h | h; rw [hb, h] at h6; exact absurd h6 (by decide); exact h)
    refine v_iconst (pc := 9) (v := 1) hX (by decide) d_Mo_isIn_9 ?_
    refine v_goto (pc := 10) (tgt := 14) hX d_Mo_isIn_10 rfl ?_
    exact f_zret (pc := 14) hX hR (by first | exact bT e | exact bF e) (rfl) d_Mo_isIn_14
theorem d_Mo_bits_0 : decode c_Mo_bits 0 = .ok (.iconst 0, 1) := by decide +kernel
theorem d_Mo_bits_1 : decode c_Mo_bits 1 = .ok (.istore_n 1, 1) := by decide +kernel
theorem d_Mo_bits_2 : decode c_Mo_bits 2 = .ok (.iload_n 0, 1) := by decide +kernel
theorem d_Mo_bits_3 : decode c_Mo_bits 3 = .ok (.istore_n 2, 1) := by decide +kernel
theorem d_Mo_bits_4 : decode c_Mo_bits 4 = .ok (.iload_n 2, 1) := by decide +kernel
theorem d_Mo_bits_5 : decode c_Mo_bits 5 = .ok (.ifCond .le 16, 3) := by decide +kernel
theorem d_Mo_bits_8 : decode c_Mo_bits 8 = .ok (.iload_n 1, 1) := by decide +kernel
theorem d_Mo_bits_9 : decode c_Mo_bits 9 = .ok (.iload_n 2, 1) := by decide +kernel
theorem d_Mo_bits_10 : decode c_Mo_bits 10 = .ok (.iconst 1, 1) := by decide +kernel
theorem d_Mo_bits_11 : decode c_Mo_bits 11 = .ok (.iand, 1) := by decide +kernel
theorem d_Mo_bits_12 : decode c_Mo_bits 12 = .ok (.iadd, 1) := by decide +kernel
theorem d_Mo_bits_13 : decode c_Mo_bits 13 = .ok (.istore_n 1, 1) := by decide +kernel
theorem d_Mo_bits_14 : decode c_Mo_bits 14 = .ok (.iload_n 2, 1) := by decide +kernel
theorem d_Mo_bits_15 : decode c_Mo_bits 15 = .ok (.iconst 1, 1) := by decide +kernel
theorem d_Mo_bits_16 : decode c_Mo_bits 16 = .ok (.ishr, 1) := by decide +kernel
theorem d_Mo_bits_17 : decode c_Mo_bits 17 = .ok (.istore_n 2, 1) := by decide +kernel
theorem d_Mo_bits_18 : decode c_Mo_bits 18 = .ok (.goto (-14), 3) := by decide +kernel
theorem d_Mo_bits_21 : decode c_Mo_bits 21 = .ok (.iload_n 1, 1) := by decide +kernel
theorem d_Mo_bits_22 : decode c_Mo_bits 22 = .ok (.ireturn, 1) := by decide +kernel
theorem C_Mo_bits {M : MM} {s : Nat} (hs : s < 64) : AF y_Mo_bits c_Mo_bits 3 (some .int) 1 [vI (i3 s)] (M) (some (vI (i3 (pop 6 s)))) (M) := by
  refine AF.of k_Mo_bits (lo := [some (vI (i3 s)), none, none]) rfl (Nat.le_of_ble_eq_true rfl) (fun X hX hR => ?_)
  refine v_iconst (pc := 0) (v := 0) hX (by decide) d_Mo_bits_0 ?_
  refine v_istore_n (pc := 1) (lo' := [some (vI _), some (vI _), none]) hX (Nat.le_of_ble_eq_true rfl) rfl d_Mo_bits_1 ?_
  refine v_iload_n (pc := 2) hX rfl d_Mo_bits_2 ?_
  refine v_istore_n (pc := 3) (lo' := [some (vI _), some (vI _), some (vI _)]) hX (Nat.le_of_ble_eq_true rfl) rfl d_Mo_bits_3 ?_
  refine VW.cast (lo' := [some (vI (i3 s)), some (vI (i3 (pop 0 s))), some (vI (i3 (s / 2 ^ 0)))]) (st' := []) (G' := gM (M)) (by rw [Nat.pow_zero, Nat.div_one]; rfl) rfl rfl ?_
  refine v_for (X := X) (head := 4) (6) (fun kk => [some (vI (i3 s)), some (vI (i3 (pop kk s))), some (vI (i3 (s / 2 ^ kk)))]) (fun kk => M) (fun k hk ih4 => ?_) ?_
  · show VW X 4 [some (vI (i3 s)), some (vI (i3 (pop k s))), some (vI (i3 (s / 2 ^ k)))] [] (gM (M))
    have hd : s / 2 ^ k ≤ s := Nat.div_le_self _ _
    refine v_iload_n (pc := 4) hX rfl d_Mo_bits_4 ?_
    refine v_if_le (pc := 5) (tgt := 21) hX d_Mo_bits_5 rfl (fun h5 => ?_) (fun h5 => ?_)
    · have e : s / 2 ^ k = 0 := Nat.le_zero.mp ((i3_le (a := s / 2 ^ k) (b := 0) (by omega) (by decide)).mp h5)
      refine v_iload_n (pc := 21) hX rfl d_Mo_bits_21 ?_
      exact f_iret (pc := 22) hX hR (by rw [pop_end s hs k (by omega) e]) (rfl) d_Mo_bits_22
    · refine v_iload_n (pc := 8) hX rfl d_Mo_bits_8 ?_
      refine v_iload_n (pc := 9) hX rfl d_Mo_bits_9 ?_
      refine v_iconst (pc := 10) (v := 1) hX (by decide) d_Mo_bits_10 ?_
      refine v_iand (pc := 11) hX d_Mo_bits_11 ?_
      rw [and1_i3 _ (by omega)]
      refine v_iadd (pc := 12) hX d_Mo_bits_12 ?_
      refine v_istore_n (pc := 13) (lo' := [some (vI _), some (vI _), some (vI _)]) hX (Nat.le_of_ble_eq_true rfl) rfl d_Mo_bits_13 ?_
      refine v_iload_n (pc := 14) hX rfl d_Mo_bits_14 ?_
      refine v_iconst (pc := 15) (v := 1) hX (by decide) d_Mo_bits_15 ?_
      refine v_ishr (pc := 16) hX d_Mo_bits_16 ?_
      rw [shr1_i3 _ (by omega)]
      refine v_istore_n (pc := 17) (lo' := [some (vI _), some (vI _), some (vI _)]) hX (Nat.le_of_ble_eq_true rfl) rfl d_Mo_bits_17 ?_
      refine v_goto (pc := 18) (tgt := 4) hX d_Mo_bits_18 rfl ?_
      exact VW.cast (by rw [pop_s, bt, i3_add, Nat.pow_succ, ← Nat.div_div_eq_div_mul]) rfl rfl ih4
  · show VW X 4 [some (vI (i3 s)), some (vI (i3 (pop (6) s))), some (vI (i3 (s / 2 ^ (6))))] [] (gM (M))
    refine v_iload_n (pc := 4) hX rfl d_Mo_bits_4 ?_
    refine v_if_le (pc := 5) (tgt := 21) hX d_Mo_bits_5 rfl (fun h5 => ?_) (fun h5 => False.elim (h5 (by rw [six_end s hs]; exact Int32.le_refl _)))
    refine v_iload_n (pc := 21) hX rfl d_Mo_bits_21 ?_
    exact f_iret (pc := 22) hX hR (rfl) (rfl) d_Mo_bits_22
theorem d_Mo_leafMark_0 : decode c_Mo_leafMark 0 = .ok (.aload_n 0, 1) := by decide +kernel
theorem d_Mo_leafMark_1 : decode c_Mo_leafMark 1 = .ok (.getfield 13, 3) := by decide +kernel
theorem d_Mo_leafMark_4 : decode c_Mo_leafMark 4 = .ok (.iload_n 1, 1) := by decide +kernel
theorem d_Mo_leafMark_5 : decode c_Mo_leafMark 5 = .ok (.iaload, 1) := by decide +kernel
theorem d_Mo_leafMark_6 : decode c_Mo_leafMark 6 = .ok (.aload_n 0, 1) := by decide +kernel
theorem d_Mo_leafMark_7 : decode c_Mo_leafMark 7 = .ok (.getfield 16, 3) := by decide +kernel
theorem d_Mo_leafMark_10 : decode c_Mo_leafMark 10 = .ok (.iload_n 1, 1) := by decide +kernel
theorem d_Mo_leafMark_11 : decode c_Mo_leafMark 11 = .ok (.iaload, 1) := by decide +kernel
theorem d_Mo_leafMark_12 : decode c_Mo_leafMark 12 = .ok (.iload_n 2, 1) := by decide +kernel
theorem d_Mo_leafMark_13 : decode c_Mo_leafMark 13 = .ok (.imul, 1) := by decide +kernel
theorem d_Mo_leafMark_14 : decode c_Mo_leafMark 14 = .ok (.isub, 1) := by decide +kernel
theorem d_Mo_leafMark_15 : decode c_Mo_leafMark 15 = .ok (.istore_n 3, 1) := by decide +kernel
theorem d_Mo_leafMark_16 : decode c_Mo_leafMark 16 = .ok (.iload_n 3, 1) := by decide +kernel
theorem d_Mo_leafMark_17 : decode c_Mo_leafMark 17 = .ok (.ifCond .ge 7, 3) := by decide +kernel
theorem d_Mo_leafMark_20 : decode c_Mo_leafMark 20 = .ok (.iconst 0, 1) := by decide +kernel
theorem d_Mo_leafMark_21 : decode c_Mo_leafMark 21 = .ok (.goto 4, 3) := by decide +kernel
theorem d_Mo_leafMark_24 : decode c_Mo_leafMark 24 = .ok (.iload_n 3, 1) := by decide +kernel
theorem d_Mo_leafMark_25 : decode c_Mo_leafMark 25 = .ok (.ireturn, 1) := by decide +kernel
theorem C_Mo_leafMark {M : MM} {n j : Nat} {J : JT} {t : Int32} (hJ : MJ M n J) (hj : j < n) : AF y_Mo_leafMark c_Mo_leafMark 4 (some .int) 1 [vR 36, vI (i3 j), vI t] (M) (some (vI (lfM (J j 1) (J j 2) t))) (M) := by
  have h6 := hJ.1
  refine AF.of k_Mo_leafMark (lo := [some (vR 36), some (vI (i3 j)), some (vI t), none]) rfl (Nat.le_of_ble_eq_true rfl) (fun X hX hR => ?_)
  refine v_aload_n (pc := 0) hX rfl d_Mo_leafMark_0 ?_
  refine g_getR (pc := 1) hX fl_Mo_13 rfl rfl nf_36_3 d_Mo_leafMark_1 ?_
  refine v_iload_n (pc := 4) hX rfl d_Mo_leafMark_4 ?_
  refine g_iald (pc := 5) hX rfl (IX.of (n := 6) (by omega) (by decide)) d_Mo_leafMark_5 ?_
  rw [show M 38 j = J j 1 from hJ.2.2.1 j hj 1 (by decide)]
  refine v_aload_n (pc := 6) hX rfl d_Mo_leafMark_6 ?_
  refine g_getR (pc := 7) hX fl_Mo_16 rfl rfl nf_36_4 d_Mo_leafMark_7 ?_
  refine v_iload_n (pc := 10) hX rfl d_Mo_leafMark_10 ?_
  refine g_iald (pc := 11) hX rfl (IX.of (n := 6) (by omega) (by decide)) d_Mo_leafMark_11 ?_
  rw [show M 39 j = J j 2 from hJ.2.2.1 j hj 2 (by decide)]
  refine v_iload_n (pc := 12) hX rfl d_Mo_leafMark_12 ?_
  refine v_imul (pc := 13) hX d_Mo_leafMark_13 ?_
  refine v_isub (pc := 14) hX d_Mo_leafMark_14 ?_
  refine v_istore_n (pc := 15) (lo' := [some (vR _), some (vI _), some (vI _), some (vI _)]) hX (Nat.le_of_ble_eq_true rfl) rfl d_Mo_leafMark_15 ?_
  refine v_iload_n (pc := 16) hX rfl d_Mo_leafMark_16 ?_
  refine v_if_ge (pc := 17) (tgt := 24) hX d_Mo_leafMark_17 rfl (fun h17 => ?_) (fun h17 => ?_)
  · refine v_iload_n (pc := 24) hX rfl d_Mo_leafMark_24 ?_
    exact f_iret (pc := 25) hX hR (by unfold lfM; rw [← lf_alt]; first | rw [if_neg (Int32.not_lt.mpr h17)] | rw [if_pos (Int32.not_le.mp h17)]) (rfl) d_Mo_leafMark_25
  · refine v_iconst (pc := 20) (v := 0) hX (by decide) d_Mo_leafMark_20 ?_
    refine v_goto (pc := 21) (tgt := 25) hX d_Mo_leafMark_21 rfl ?_
    exact f_iret (pc := 25) hX hR (by unfold lfM; rw [← lf_alt]; first | rw [if_neg (Int32.not_lt.mpr h17)] | rw [if_pos (Int32.not_le.mp h17)]) (rfl) d_Mo_leafMark_25
theorem kd2 {x : Int32} (h : x = 0 ∨ x = 1 ∨ x = 2) (h0 : ¬ x = 0) (h1 : ¬ x = 1) : x = 2 := by
  rcases h with h | h | h
  · exact absurd h h0
  · exact absurd h h1
  · exact h
theorem d_Mo_markOf_0 : decode c_Mo_markOf 0 = .ok (.iload_n 2, 1) := by decide +kernel
theorem d_Mo_markOf_1 : decode c_Mo_markOf 1 = .ok (.ifCond .ne 7, 3) := by decide +kernel
theorem d_Mo_markOf_4 : decode c_Mo_markOf 4 = .ok (.iconst 0, 1) := by decide +kernel
theorem d_Mo_markOf_5 : decode c_Mo_markOf 5 = .ok (.goto 11, 3) := by decide +kernel
theorem d_Mo_markOf_8 : decode c_Mo_markOf 8 = .ok (.aload_n 0, 1) := by decide +kernel
theorem d_Mo_markOf_9 : decode c_Mo_markOf 9 = .ok (.iload_n 1, 1) := by decide +kernel
theorem d_Mo_markOf_10 : decode c_Mo_markOf 10 = .ok (.iload_n 2, 1) := by decide +kernel
theorem d_Mo_markOf_11 : decode c_Mo_markOf 11 = .ok (.iconst 1, 1) := by decide +kernel
theorem d_Mo_markOf_12 : decode c_Mo_markOf 12 = .ok (.isub, 1) := by decide +kernel
theorem d_Mo_markOf_13 : decode c_Mo_markOf 13 = .ok (.invokevirtual 164, 3) := by decide +kernel
theorem d_Mo_markOf_16 : decode c_Mo_markOf 16 = .ok (.istore_n 3, 1) := by decide +kernel
theorem d_Mo_markOf_17 : decode c_Mo_markOf 17 = .ok (.aload_n 0, 1) := by decide +kernel
theorem d_Mo_markOf_18 : decode c_Mo_markOf 18 = .ok (.getfield 7, 3) := by decide +kernel
theorem d_Mo_markOf_21 : decode c_Mo_markOf 21 = .ok (.iload_n 1, 1) := by decide +kernel
theorem d_Mo_markOf_22 : decode c_Mo_markOf 22 = .ok (.iaload, 1) := by decide +kernel
theorem d_Mo_markOf_23 : decode c_Mo_markOf 23 = .ok (.ifCond .ne 12, 3) := by decide +kernel
theorem d_Mo_markOf_26 : decode c_Mo_markOf 26 = .ok (.aload_n 0, 1) := by decide +kernel
theorem d_Mo_markOf_27 : decode c_Mo_markOf 27 = .ok (.iload_n 1, 1) := by decide +kernel
theorem d_Mo_markOf_28 : decode c_Mo_markOf 28 = .ok (.iload_n 2, 1) := by decide +kernel
theorem d_Mo_markOf_29 : decode c_Mo_markOf 29 = .ok (.invokevirtual 164, 3) := by decide +kernel
theorem d_Mo_markOf_32 : decode c_Mo_markOf 32 = .ok (.goto 20, 3) := by decide +kernel
theorem d_Mo_markOf_35 : decode c_Mo_markOf 35 = .ok (.aload_n 0, 1) := by decide +kernel
theorem d_Mo_markOf_36 : decode c_Mo_markOf 36 = .ok (.getfield 7, 3) := by decide +kernel
theorem d_Mo_markOf_39 : decode c_Mo_markOf 39 = .ok (.iload_n 1, 1) := by decide +kernel
theorem d_Mo_markOf_40 : decode c_Mo_markOf 40 = .ok (.iaload, 1) := by decide +kernel
theorem d_Mo_markOf_41 : decode c_Mo_markOf 41 = .ok (.iconst 1, 1) := by decide +kernel
theorem d_Mo_markOf_42 : decode c_Mo_markOf 42 = .ok (.if_icmp .ne 7, 3) := by decide +kernel
theorem d_Mo_markOf_45 : decode c_Mo_markOf 45 = .ok (.iload_n 3, 1) := by decide +kernel
theorem d_Mo_markOf_46 : decode c_Mo_markOf 46 = .ok (.goto 6, 3) := by decide +kernel
theorem d_Mo_markOf_49 : decode c_Mo_markOf 49 = .ok (.iload_n 3, 1) := by decide +kernel
theorem d_Mo_markOf_50 : decode c_Mo_markOf 50 = .ok (.iconst 2, 1) := by decide +kernel
theorem d_Mo_markOf_51 : decode c_Mo_markOf 51 = .ok (.idiv, 1) := by decide +kernel
theorem d_Mo_markOf_52 : decode c_Mo_markOf 52 = .ok (.ireturn, 1) := by decide +kernel
theorem C_Mo_markOf {M : MM} {n j : Nat} {J : JT} {t : Int32} (hJ : MJ M n J) (hj : j < n) (ht : 0 ≤ t) : AF y_Mo_markOf c_Mo_markOf 4 (some .int) 2 [vR 36, vI (i3 j), vI t] (M) (some (vI (mk J j t))) (M) := by
  have h6 := hJ.1
  refine AF.of k_Mo_markOf (lo := [some (vR 36), some (vI (i3 j)), some (vI t), none]) rfl (Nat.le_of_ble_eq_true rfl) (fun X hX hR => ?_)
  refine v_iload_n (pc := 0) hX rfl d_Mo_markOf_0 ?_
  refine v_if_ne (pc := 1) (tgt := 8) hX d_Mo_markOf_1 rfl (fun h1 => ?_) (fun h1 => ?_)
  · have es : sooM (J j 1) (J j 2) t = lfM (J j 1) (J j 2) (t - 1) := if_neg h1
    refine v_aload_n (pc := 8) hX rfl d_Mo_markOf_8 ?_
    refine v_iload_n (pc := 9) hX rfl d_Mo_markOf_9 ?_
    refine v_iload_n (pc := 10) hX rfl d_Mo_markOf_10 ?_
    refine v_iconst (pc := 11) (v := 1) hX (by decide) d_Mo_markOf_11 ?_
    refine v_isub (pc := 12) hX d_Mo_markOf_12 ?_
    refine f_callV (pc := 13) hX k_Mo_leafMark ki_Mo_leafMark kv_Mo_leafMark ml_Mo_164 (C_Mo_leafMark hJ (by assumption)) rfl rfl rfl rfl rfl (Nat.le_of_ble_eq_true rfl) (Nat.le_of_ble_eq_true rfl) (Nat.le_of_ble_eq_true rfl) d_Mo_markOf_13 ?_
    refine v_istore_n (pc := 16) (lo' := [some (vR _), some (vI _), some (vI _), some (vI _)]) hX (Nat.le_of_ble_eq_true rfl) rfl d_Mo_markOf_16 ?_
    refine v_aload_n (pc := 17) hX rfl d_Mo_markOf_17 ?_
    refine g_getR (pc := 18) hX fl_Mo_7 rfl rfl nf_36_2 d_Mo_markOf_18 ?_
    refine v_iload_n (pc := 21) hX rfl d_Mo_markOf_21 ?_
    refine g_iald (pc := 22) hX rfl (IX.of (n := 6) (by omega) (by decide)) d_Mo_markOf_22 ?_
    rw [show M 37 j = J j 0 from hJ.2.2.1 j hj 0 (by decide)]
    refine v_if_ne (pc := 23) (tgt := 35) hX d_Mo_markOf_23 rfl (fun h23 => ?_) (fun h23 => ?_)
    · refine v_aload_n (pc := 35) hX rfl d_Mo_markOf_35 ?_
      refine g_getR (pc := 36) hX fl_Mo_7 rfl rfl nf_36_2 d_Mo_markOf_36 ?_
      refine v_iload_n (pc := 39) hX rfl d_Mo_markOf_39 ?_
      refine g_iald (pc := 40) hX rfl (IX.of (n := 6) (by omega) (by decide)) d_Mo_markOf_40 ?_
      rw [show M 37 j = J j 0 from hJ.2.2.1 j hj 0 (by decide)]
      refine v_iconst (pc := 41) (v := 1) hX (by decide) d_Mo_markOf_41 ?_
      refine v_icmp_ne (pc := 42) (tgt := 49) hX d_Mo_markOf_42 rfl (fun h42 => ?_) (fun h42 => ?_)
      · refine v_iload_n (pc := 49) hX rfl d_Mo_markOf_49 ?_
        refine v_iconst (pc := 50) (v := 2) hX (by decide) d_Mo_markOf_50 ?_
        refine v_idiv (pc := 51) hX (by decide) d_Mo_markOf_51 ?_
        exact f_iret (pc := 52) hX hR (by first | exact (mk_0 h23 ht).symm | exact es.symm.trans (mk_1 h42 ht).symm | exact (congrArg (fun x : Int32 => x / 2) es).symm.trans (mk_2 (kd2 (hJ.2.2.2 j hj) h23 h42) ht).symm) (rfl) d_Mo_markOf_52
      · refine v_iload_n (pc := 45) hX rfl d_Mo_markOf_45 ?_
        refine v_goto (pc := 46) (tgt := 52) hX d_Mo_markOf_46 rfl ?_
        exact f_iret (pc := 52) hX hR (by first | exact (mk_0 h23 ht).symm | exact es.symm.trans (mk_1 h42 ht).symm | exact (congrArg (fun x : Int32 => x / 2) es).symm.trans (mk_2 (kd2 (hJ.2.2.2 j hj) h23 h42) ht).symm) (rfl) d_Mo_markOf_52
    · refine v_aload_n (pc := 26) hX rfl d_Mo_markOf_26 ?_
      refine v_iload_n (pc := 27) hX rfl d_Mo_markOf_27 ?_
      refine v_iload_n (pc := 28) hX rfl d_Mo_markOf_28 ?_
      refine f_callV (pc := 29) hX k_Mo_leafMark ki_Mo_leafMark kv_Mo_leafMark ml_Mo_164 (C_Mo_leafMark hJ (by assumption)) rfl rfl rfl rfl rfl (Nat.le_of_ble_eq_true rfl) (Nat.le_of_ble_eq_true rfl) (Nat.le_of_ble_eq_true rfl) d_Mo_markOf_29 ?_
      refine v_goto (pc := 32) (tgt := 52) hX d_Mo_markOf_32 rfl ?_
      exact f_iret (pc := 52) hX hR (by first | exact (mk_0 h23 ht).symm | exact es.symm.trans (mk_1 h42 ht).symm | exact (congrArg (fun x : Int32 => x / 2) es).symm.trans (mk_2 (kd2 (hJ.2.2.2 j hj) h23 h42) ht).symm) (rfl) d_Mo_markOf_52
  · have es : sooM (J j 1) (J j 2) t = 0 := if_pos h1
    refine v_iconst (pc := 4) (v := 0) hX (by decide) d_Mo_markOf_4 ?_
    refine v_goto (pc := 5) (tgt := 16) hX d_Mo_markOf_5 rfl ?_
    refine v_istore_n (pc := 16) (lo' := [some (vR _), some (vI _), some (vI _), some (vI _)]) hX (Nat.le_of_ble_eq_true rfl) rfl d_Mo_markOf_16 ?_
    refine v_aload_n (pc := 17) hX rfl d_Mo_markOf_17 ?_
    refine g_getR (pc := 18) hX fl_Mo_7 rfl rfl nf_36_2 d_Mo_markOf_18 ?_
    refine v_iload_n (pc := 21) hX rfl d_Mo_markOf_21 ?_
    refine g_iald (pc := 22) hX rfl (IX.of (n := 6) (by omega) (by decide)) d_Mo_markOf_22 ?_
    rw [show M 37 j = J j 0 from hJ.2.2.1 j hj 0 (by decide)]
    refine v_if_ne (pc := 23) (tgt := 35) hX d_Mo_markOf_23 rfl (fun h23 => ?_) (fun h23 => ?_)
    · refine v_aload_n (pc := 35) hX rfl d_Mo_markOf_35 ?_
      refine g_getR (pc := 36) hX fl_Mo_7 rfl rfl nf_36_2 d_Mo_markOf_36 ?_
      refine v_iload_n (pc := 39) hX rfl d_Mo_markOf_39 ?_
      refine g_iald (pc := 40) hX rfl (IX.of (n := 6) (by omega) (by decide)) d_Mo_markOf_40 ?_
      rw [show M 37 j = J j 0 from hJ.2.2.1 j hj 0 (by decide)]
      refine v_iconst (pc := 41) (v := 1) hX (by decide) d_Mo_markOf_41 ?_
      refine v_icmp_ne (pc := 42) (tgt := 49) hX d_Mo_markOf_42 rfl (fun h42 => ?_) (fun h42 => ?_)
      · refine v_iload_n (pc := 49) hX rfl d_Mo_markOf_49 ?_
        refine v_iconst (pc := 50) (v := 2) hX (by decide) d_Mo_markOf_50 ?_
        refine v_idiv (pc := 51) hX (by decide) d_Mo_markOf_51 ?_
        exact f_iret (pc := 52) hX hR (by first | exact (mk_0 h23 ht).symm | exact es.symm.trans (mk_1 h42 ht).symm | exact (congrArg (fun x : Int32 => x / 2) es).symm.trans (mk_2 (kd2 (hJ.2.2.2 j hj) h23 h42) ht).symm) (rfl) d_Mo_markOf_52
      · refine v_iload_n (pc := 45) hX rfl d_Mo_markOf_45 ?_
        refine v_goto (pc := 46) (tgt := 52) hX d_Mo_markOf_46 rfl ?_
        exact f_iret (pc := 52) hX hR (by first | exact (mk_0 h23 ht).symm | exact es.symm.trans (mk_1 h42 ht).symm | exact (congrArg (fun x : Int32 => x / 2) es).symm.trans (mk_2 (kd2 (hJ.2.2.2 j hj) h23 h42) ht).symm) (rfl) d_Mo_markOf_52
    · refine v_aload_n (pc := 26) hX rfl d_Mo_markOf_26 ?_
      refine v_iload_n (pc := 27) hX rfl d_Mo_markOf_27 ?_
      refine v_iload_n (pc := 28) hX rfl d_Mo_markOf_28 ?_
      refine f_callV (pc := 29) hX k_Mo_leafMark ki_Mo_leafMark kv_Mo_leafMark ml_Mo_164 (C_Mo_leafMark hJ (by assumption)) rfl rfl rfl rfl rfl (Nat.le_of_ble_eq_true rfl) (Nat.le_of_ble_eq_true rfl) (Nat.le_of_ble_eq_true rfl) d_Mo_markOf_29 ?_
      refine v_goto (pc := 32) (tgt := 52) hX d_Mo_markOf_32 rfl ?_
      exact f_iret (pc := 52) hX hR (by first | exact (mk_0 h23 ht).symm | exact es.symm.trans (mk_1 h42 ht).symm | exact (congrArg (fun x : Int32 => x / 2) es).symm.trans (mk_2 (kd2 (hJ.2.2.2 j hj) h23 h42) ht).symm) (rfl) d_Mo_markOf_52
theorem d_Mo_greatestMark_0 : decode c_Mo_greatestMark 0 = .ok (.iconst 0, 1) := by decide +kernel
theorem d_Mo_greatestMark_1 : decode c_Mo_greatestMark 1 = .ok (.istore_n 2, 1) := by decide +kernel
theorem d_Mo_greatestMark_2 : decode c_Mo_greatestMark 2 = .ok (.iconst 0, 1) := by decide +kernel
theorem d_Mo_greatestMark_3 : decode c_Mo_greatestMark 3 = .ok (.istore_n 3, 1) := by decide +kernel
theorem d_Mo_greatestMark_4 : decode c_Mo_greatestMark 4 = .ok (.iload_n 3, 1) := by decide +kernel
theorem d_Mo_greatestMark_5 : decode c_Mo_greatestMark 5 = .ok (.bipush 10, 2) := by decide +kernel
theorem d_Mo_greatestMark_7 : decode c_Mo_greatestMark 7 = .ok (.if_icmp .ge 30, 3) := by decide +kernel
theorem d_Mo_greatestMark_10 : decode c_Mo_greatestMark 10 = .ok (.aload_n 0, 1) := by decide +kernel
theorem d_Mo_greatestMark_11 : decode c_Mo_greatestMark 11 = .ok (.iload_n 1, 1) := by decide +kernel
theorem d_Mo_greatestMark_12 : decode c_Mo_greatestMark 12 = .ok (.iload_n 3, 1) := by decide +kernel
theorem d_Mo_greatestMark_13 : decode c_Mo_greatestMark 13 = .ok (.invokevirtual 167, 3) := by decide +kernel
theorem d_Mo_greatestMark_16 : decode c_Mo_greatestMark 16 = .ok (.iload_n 2, 1) := by decide +kernel
theorem d_Mo_greatestMark_17 : decode c_Mo_greatestMark 17 = .ok (.if_icmp .le 12, 3) := by decide +kernel
theorem d_Mo_greatestMark_20 : decode c_Mo_greatestMark 20 = .ok (.aload_n 0, 1) := by decide +kernel
theorem d_Mo_greatestMark_21 : decode c_Mo_greatestMark 21 = .ok (.iload_n 1, 1) := by decide +kernel
theorem d_Mo_greatestMark_22 : decode c_Mo_greatestMark 22 = .ok (.iload_n 3, 1) := by decide +kernel
theorem d_Mo_greatestMark_23 : decode c_Mo_greatestMark 23 = .ok (.invokevirtual 167, 3) := by decide +kernel
theorem d_Mo_greatestMark_26 : decode c_Mo_greatestMark 26 = .ok (.goto 4, 3) := by decide +kernel
theorem d_Mo_greatestMark_29 : decode c_Mo_greatestMark 29 = .ok (.iload_n 2, 1) := by decide +kernel
theorem d_Mo_greatestMark_30 : decode c_Mo_greatestMark 30 = .ok (.istore_n 2, 1) := by decide +kernel
theorem d_Mo_greatestMark_31 : decode c_Mo_greatestMark 31 = .ok (.iinc 3 1, 3) := by decide +kernel
theorem d_Mo_greatestMark_34 : decode c_Mo_greatestMark 34 = .ok (.goto (-30), 3) := by decide +kernel
theorem d_Mo_greatestMark_37 : decode c_Mo_greatestMark 37 = .ok (.iload_n 2, 1) := by decide +kernel
theorem d_Mo_greatestMark_38 : decode c_Mo_greatestMark 38 = .ok (.ireturn, 1) := by decide +kernel
theorem C_Mo_greatestMark {M : MM} {n j : Nat} {J : JT} (hJ : MJ M n J) (hj : j < n) : AF y_Mo_greatestMark c_Mo_greatestMark 4 (some .int) 3 [vR 36, vI (i3 j)] (M) (some (vI (gtM (J j 0) (J j 1) (J j 2)))) (M) := by
  refine AF.of k_Mo_greatestMark (lo := [some (vR 36), some (vI (i3 j)), none, none]) rfl (Nat.le_of_ble_eq_true rfl) (fun X hX hR => ?_)
  refine v_iconst (pc := 0) (v := 0) hX (by decide) d_Mo_greatestMark_0 ?_
  refine v_istore_n (pc := 1) (lo' := [some (vR _), some (vI _), some (vI _), none]) hX (Nat.le_of_ble_eq_true rfl) rfl d_Mo_greatestMark_1 ?_
  refine v_iconst (pc := 2) (v := 0) hX (by decide) d_Mo_greatestMark_2 ?_
  refine v_istore_n (pc := 3) (lo' := [some (vR _), some (vI _), some (vI _), some (vI _)]) hX (Nat.le_of_ble_eq_true rfl) rfl d_Mo_greatestMark_3 ?_
  refine VW.cast (lo' := [some (vR 36), some (vI (i3 j)), some (vI (fmax (fun k => mkM (J j 0) (J j 1) (J j 2) (i3 k)) 0)), some (vI (i3 0))]) (st' := []) (G' := gM (M)) rfl rfl rfl ?_
  refine v_for (X := X) (head := 4) (10) (fun kk => [some (vR 36), some (vI (i3 j)), some (vI (fmax (fun k => mkM (J j 0) (J j 1) (J j 2) (i3 k)) kk)), some (vI (i3 kk))]) (fun kk => M) (fun k hk ih4 => ?_) ?_
  · show VW X 4 [some (vR 36), some (vI (i3 j)), some (vI (fmax (fun k => mkM (J j 0) (J j 1) (J j 2) (i3 k)) k)), some (vI (i3 k))] [] (gM (M))
    refine v_iload_n (pc := 4) hX rfl d_Mo_greatestMark_4 ?_
    refine v_bipush (pc := 5) (v := 10) hX (by decide) d_Mo_greatestMark_5 ?_
    refine v_icmp_ge (pc := 7) (tgt := 37) hX d_Mo_greatestMark_7 rfl (fun h7 => False.elim (i3_ge_abs hk (by decide) h7)) (fun h7 => ?_)
    refine v_aload_n (pc := 10) hX rfl d_Mo_greatestMark_10 ?_
    refine v_iload_n (pc := 11) hX rfl d_Mo_greatestMark_11 ?_
    refine v_iload_n (pc := 12) hX rfl d_Mo_greatestMark_12 ?_
    refine f_callV (pc := 13) hX k_Mo_markOf ki_Mo_markOf kv_Mo_markOf ml_Mo_167 (C_Mo_markOf hJ (by assumption) (i3_nn (by omega))) rfl rfl rfl rfl rfl (Nat.le_of_ble_eq_true rfl) (Nat.le_of_ble_eq_true rfl) (Nat.le_of_ble_eq_true rfl) d_Mo_greatestMark_13 ?_
    refine v_iload_n (pc := 16) hX rfl d_Mo_greatestMark_16 ?_
    refine v_icmp_le (pc := 17) (tgt := 29) hX d_Mo_greatestMark_17 rfl (fun h17 => ?_) (fun h17 => ?_)
    · have e : fmax (fun k => mkM (J j 0) (J j 1) (J j 2) (i3 k)) (k + 1) = fmax (fun k => mkM (J j 0) (J j 1) (J j 2) (i3 k)) k := if_neg (Int32.not_lt.mpr h17)
      refine v_iload_n (pc := 29) hX rfl d_Mo_greatestMark_29 ?_
      refine v_istore_n (pc := 30) (lo' := [some (vR _), some (vI _), some (vI _), some (vI _)]) hX (Nat.le_of_ble_eq_true rfl) rfl d_Mo_greatestMark_30 ?_
      refine v_iinc (pc := 31) (lo' := [some (vR _), some (vI _), some (vI _), some (vI _)]) hX rfl rfl d_Mo_greatestMark_31 ?_
      refine v_goto (pc := 34) (tgt := 4) hX d_Mo_greatestMark_34 rfl ?_
      exact VW.cast (by rw [e, i3_succ]; rfl) rfl rfl ih4
    · have e : fmax (fun k => mkM (J j 0) (J j 1) (J j 2) (i3 k)) (k + 1) = (fun k => mkM (J j 0) (J j 1) (J j 2) (i3 k)) k := if_pos (Int32.not_le.mp h17)
      refine v_aload_n (pc := 20) hX rfl d_Mo_greatestMark_20 ?_
      refine v_iload_n (pc := 21) hX rfl d_Mo_greatestMark_21 ?_
      refine v_iload_n (pc := 22) hX rfl d_Mo_greatestMark_22 ?_
      refine f_callV (pc := 23) hX k_Mo_markOf ki_Mo_markOf kv_Mo_markOf ml_Mo_167 (C_Mo_markOf hJ (by assumption) (i3_nn (by omega))) rfl rfl rfl rfl rfl (Nat.le_of_ble_eq_true rfl) (Nat.le_of_ble_eq_true rfl) (Nat.le_of_ble_eq_true rfl) d_Mo_greatestMark_23 ?_
      refine v_goto (pc := 26) (tgt := 30) hX d_Mo_greatestMark_26 rfl ?_
      refine v_istore_n (pc := 30) (lo' := [some (vR _), some (vI _), some (vI _), some (vI _)]) hX (Nat.le_of_ble_eq_true rfl) rfl d_Mo_greatestMark_30 ?_
      refine v_iinc (pc := 31) (lo' := [some (vR _), some (vI _), some (vI _), some (vI _)]) hX rfl rfl d_Mo_greatestMark_31 ?_
      refine v_goto (pc := 34) (tgt := 4) hX d_Mo_greatestMark_34 rfl ?_
      exact VW.cast (by rw [e, i3_succ]; rfl) rfl rfl ih4
  · show VW X 4 [some (vR 36), some (vI (i3 j)), some (vI (fmax (fun k => mkM (J j 0) (J j 1) (J j 2) (i3 k)) (10))), some (vI (i3 (10)))] [] (gM (M))
    refine v_iload_n (pc := 4) hX rfl d_Mo_greatestMark_4 ?_
    refine v_bipush (pc := 5) (v := 10) hX (by decide) d_Mo_greatestMark_5 ?_
    refine v_icmp_ge (pc := 7) (tgt := 37) hX d_Mo_greatestMark_7 rfl (fun h7 => ?_) (fun h7 => False.elim (by revert h7; decide))
    refine v_iload_n (pc := 37) hX rfl d_Mo_greatestMark_37 ?_
    exact f_iret (pc := 38) hX hR (rfl) (rfl) d_Mo_greatestMark_38
theorem d_Mo_ofJar_0 : decode c_Mo_ofJar 0 = .ok (.aload_n 0, 1) := by decide +kernel
theorem d_Mo_ofJar_1 : decode c_Mo_ofJar 1 = .ok (.iload_n 1, 1) := by decide +kernel
theorem d_Mo_ofJar_2 : decode c_Mo_ofJar 2 = .ok (.invokevirtual 170, 3) := by decide +kernel
theorem d_Mo_ofJar_5 : decode c_Mo_ofJar 5 = .ok (.ifCond .eq 5, 3) := by decide +kernel
theorem d_Mo_ofJar_8 : decode c_Mo_ofJar 8 = .ok (.iconst (-1), 1) := by decide +kernel
theorem d_Mo_ofJar_9 : decode c_Mo_ofJar 9 = .ok (.ireturn, 1) := by decide +kernel
theorem d_Mo_ofJar_10 : decode c_Mo_ofJar 10 = .ok (.iload_n 2, 1) := by decide +kernel
theorem d_Mo_ofJar_11 : decode c_Mo_ofJar 11 = .ok (.tableswitch 78 0 5 #[37, 44, 51, 58, 65, 72], 37) := by decide +kernel
theorem d_Mo_ofJar_48 : decode c_Mo_ofJar 48 = .ok (.aload_n 0, 1) := by decide +kernel
theorem d_Mo_ofJar_49 : decode c_Mo_ofJar 49 = .ok (.getfield 7, 3) := by decide +kernel
theorem d_Mo_ofJar_52 : decode c_Mo_ofJar 52 = .ok (.iload_n 1, 1) := by decide +kernel
theorem d_Mo_ofJar_53 : decode c_Mo_ofJar 53 = .ok (.iaload, 1) := by decide +kernel
theorem d_Mo_ofJar_54 : decode c_Mo_ofJar 54 = .ok (.ireturn, 1) := by decide +kernel
theorem d_Mo_ofJar_55 : decode c_Mo_ofJar 55 = .ok (.aload_n 0, 1) := by decide +kernel
theorem d_Mo_ofJar_56 : decode c_Mo_ofJar 56 = .ok (.getfield 13, 3) := by decide +kernel
theorem d_Mo_ofJar_59 : decode c_Mo_ofJar 59 = .ok (.iload_n 1, 1) := by decide +kernel
theorem d_Mo_ofJar_60 : decode c_Mo_ofJar 60 = .ok (.iaload, 1) := by decide +kernel
theorem d_Mo_ofJar_61 : decode c_Mo_ofJar 61 = .ok (.ireturn, 1) := by decide +kernel
theorem d_Mo_ofJar_62 : decode c_Mo_ofJar 62 = .ok (.aload_n 0, 1) := by decide +kernel
theorem d_Mo_ofJar_63 : decode c_Mo_ofJar 63 = .ok (.getfield 16, 3) := by decide +kernel
theorem d_Mo_ofJar_66 : decode c_Mo_ofJar 66 = .ok (.iload_n 1, 1) := by decide +kernel
theorem d_Mo_ofJar_67 : decode c_Mo_ofJar 67 = .ok (.iaload, 1) := by decide +kernel
theorem d_Mo_ofJar_68 : decode c_Mo_ofJar 68 = .ok (.ireturn, 1) := by decide +kernel
theorem d_Mo_ofJar_69 : decode c_Mo_ofJar 69 = .ok (.aload_n 0, 1) := by decide +kernel
theorem d_Mo_ofJar_70 : decode c_Mo_ofJar 70 = .ok (.getfield 19, 3) := by decide +kernel
theorem d_Mo_ofJar_73 : decode c_Mo_ofJar 73 = .ok (.iload_n 1, 1) := by decide +kernel
theorem d_Mo_ofJar_74 : decode c_Mo_ofJar 74 = .ok (.iaload, 1) := by decide +kernel
theorem d_Mo_ofJar_75 : decode c_Mo_ofJar 75 = .ok (.ireturn, 1) := by decide +kernel
theorem d_Mo_ofJar_76 : decode c_Mo_ofJar 76 = .ok (.aload_n 0, 1) := by decide +kernel
theorem d_Mo_ofJar_77 : decode c_Mo_ofJar 77 = .ok (.getfield 22, 3) := by decide +kernel
theorem d_Mo_ofJar_80 : decode c_Mo_ofJar 80 = .ok (.iload_n 1, 1) := by decide +kernel
theorem d_Mo_ofJar_81 : decode c_Mo_ofJar 81 = .ok (.iaload, 1) := by decide +kernel
theorem d_Mo_ofJar_82 : decode c_Mo_ofJar 82 = .ok (.ireturn, 1) := by decide +kernel
theorem d_Mo_ofJar_83 : decode c_Mo_ofJar 83 = .ok (.aload_n 0, 1) := by decide +kernel
theorem d_Mo_ofJar_84 : decode c_Mo_ofJar 84 = .ok (.iload_n 1, 1) := by decide +kernel
theorem d_Mo_ofJar_85 : decode c_Mo_ofJar 85 = .ok (.invokevirtual 173, 3) := by decide +kernel
theorem d_Mo_ofJar_88 : decode c_Mo_ofJar 88 = .ok (.ireturn, 1) := by decide +kernel
theorem d_Mo_ofJar_89 : decode c_Mo_ofJar 89 = .ok (.bipush (-2), 2) := by decide +kernel
theorem d_Mo_ofJar_91 : decode c_Mo_ofJar 91 = .ok (.ireturn, 1) := by decide +kernel
theorem C_Mo_ofJar_out {M : MM} {n : Nat} {J : JT} {x : Int32} (hJ : MJ M n J) (hx : rg x 0 ((n : Int) - 1) = false) {u : Int32} : AF y_Mo_ofJar c_Mo_ofJar 3 (some .int) 4 [vR 36, vI x, vI u] (M) (some (vI (-1))) (M) := by
  refine AF.of k_Mo_ofJar (lo := [some (vR 36), some (vI x), some (vI u)]) rfl (Nat.le_of_ble_eq_true rfl) (fun X hX hR => ?_)
  refine v_aload_n (pc := 0) hX rfl d_Mo_ofJar_0 ?_
  refine v_iload_n (pc := 1) hX rfl d_Mo_ofJar_1 ?_
  refine f_callV (pc := 2) hX k_Mo_noJar ki_Mo_noJar kv_Mo_noJar ml_Mo_170 (C_Mo_noJar hJ.1 hJ.2.1) rfl rfl rfl rfl rfl (Nat.le_of_ble_eq_true rfl) (Nat.le_of_ble_eq_true rfl) (Nat.le_of_ble_eq_true rfl) d_Mo_ofJar_2 ?_
  rw [hx]
  refine f_ifeqB (pc := 5) (tgt := 10) hX d_Mo_ofJar_5 rfl (fun h5 => False.elim (absurd h5 (by decide))) (fun h5 => ?_)
  refine v_iconst (pc := 8) (v := (-1)) hX (by decide) d_Mo_ofJar_8 ?_
  exact f_iret (pc := 9) hX hR (rfl) (rfl) d_Mo_ofJar_9
theorem C_Mo_ofJar_in {M : MM} {n j : Nat} {J : JT} (hJ : MJ M n J) (hj : j < n) {u : Int32} : AF y_Mo_ofJar c_Mo_ofJar 3 (some .int) 4 [vR 36, vI (i3 j), vI u] (M) (some (vI (jpart (J j) u))) (M) := by
  have h6 := hJ.1
  refine AF.of k_Mo_ofJar (lo := [some (vR 36), some (vI (i3 j)), some (vI u)]) rfl (Nat.le_of_ble_eq_true rfl) (fun X hX hR => ?_)
  refine v_aload_n (pc := 0) hX rfl d_Mo_ofJar_0 ?_
  refine v_iload_n (pc := 1) hX rfl d_Mo_ofJar_1 ?_
  refine f_callV (pc := 2) hX k_Mo_noJar ki_Mo_noJar kv_Mo_noJar ml_Mo_170 (C_Mo_noJar hJ.1 hJ.2.1) rfl rfl rfl rfl rfl (Nat.le_of_ble_eq_true rfl) (Nat.le_of_ble_eq_true rfl) (Nat.le_of_ble_eq_true rfl) d_Mo_ofJar_2 ?_
  rw [rg_i3 hj (by omega)]
  refine f_ifeqB (pc := 5) (tgt := 10) hX d_Mo_ofJar_5 rfl (fun h5 => ?_) (fun h5 => False.elim (absurd h5 (by decide)))
  refine v_iload_n (pc := 10) hX rfl d_Mo_ofJar_10 ?_
  refine v_top (fun y11 q11 => ?_)
  by_cases e11_0 : y11 = 0
  · refine v_tabIn (pc := 11) (tgt := 48) (off := 37) (y := 0) hX e11_0 d_Mo_ofJar_11 (by decide) (by decide) (by decide) rfl ?_
    refine v_aload_n (pc := 48) hX rfl d_Mo_ofJar_48 ?_
    refine g_getR (pc := 49) hX fl_Mo_7 rfl rfl nf_36_2 d_Mo_ofJar_49 ?_
    refine v_iload_n (pc := 52) hX rfl d_Mo_ofJar_52 ?_
    refine g_iald (pc := 53) hX rfl (IX.of (n := 6) (by omega) (by decide)) d_Mo_ofJar_53 ?_
    rw [show M 37 j = J j 0 from hJ.2.2.1 j hj 0 (by decide)]
    exact f_iret (pc := 54) hX hR (by subst q11; simp [jpart, *]) (rfl) d_Mo_ofJar_54
  by_cases e11_1 : y11 = 1
  · refine v_tabIn (pc := 11) (tgt := 55) (off := 44) (y := 1) hX e11_1 d_Mo_ofJar_11 (by decide) (by decide) (by decide) rfl ?_
    refine v_aload_n (pc := 55) hX rfl d_Mo_ofJar_55 ?_
    refine g_getR (pc := 56) hX fl_Mo_13 rfl rfl nf_36_3 d_Mo_ofJar_56 ?_
    refine v_iload_n (pc := 59) hX rfl d_Mo_ofJar_59 ?_
    refine g_iald (pc := 60) hX rfl (IX.of (n := 6) (by omega) (by decide)) d_Mo_ofJar_60 ?_
    rw [show M 38 j = J j 1 from hJ.2.2.1 j hj 1 (by decide)]
    exact f_iret (pc := 61) hX hR (by subst q11; simp [jpart, *]) (rfl) d_Mo_ofJar_61
  by_cases e11_2 : y11 = 2
  · refine v_tabIn (pc := 11) (tgt := 62) (off := 51) (y := 2) hX e11_2 d_Mo_ofJar_11 (by decide) (by decide) (by decide) rfl ?_
    refine v_aload_n (pc := 62) hX rfl d_Mo_ofJar_62 ?_
    refine g_getR (pc := 63) hX fl_Mo_16 rfl rfl nf_36_4 d_Mo_ofJar_63 ?_
    refine v_iload_n (pc := 66) hX rfl d_Mo_ofJar_66 ?_
    refine g_iald (pc := 67) hX rfl (IX.of (n := 6) (by omega) (by decide)) d_Mo_ofJar_67 ?_
    rw [show M 39 j = J j 2 from hJ.2.2.1 j hj 2 (by decide)]
    exact f_iret (pc := 68) hX hR (by subst q11; simp [jpart, *]) (rfl) d_Mo_ofJar_68
  by_cases e11_3 : y11 = 3
  · refine v_tabIn (pc := 11) (tgt := 69) (off := 58) (y := 3) hX e11_3 d_Mo_ofJar_11 (by decide) (by decide) (by decide) rfl ?_
    refine v_aload_n (pc := 69) hX rfl d_Mo_ofJar_69 ?_
    refine g_getR (pc := 70) hX fl_Mo_19 rfl rfl nf_36_5 d_Mo_ofJar_70 ?_
    refine v_iload_n (pc := 73) hX rfl d_Mo_ofJar_73 ?_
    refine g_iald (pc := 74) hX rfl (IX.of (n := 6) (by omega) (by decide)) d_Mo_ofJar_74 ?_
    rw [show M 40 j = J j 3 from hJ.2.2.1 j hj 3 (by decide)]
    exact f_iret (pc := 75) hX hR (by subst q11; simp [jpart, *]) (rfl) d_Mo_ofJar_75
  by_cases e11_4 : y11 = 4
  · refine v_tabIn (pc := 11) (tgt := 76) (off := 65) (y := 4) hX e11_4 d_Mo_ofJar_11 (by decide) (by decide) (by decide) rfl ?_
    refine v_aload_n (pc := 76) hX rfl d_Mo_ofJar_76 ?_
    refine g_getR (pc := 77) hX fl_Mo_22 rfl rfl nf_36_6 d_Mo_ofJar_77 ?_
    refine v_iload_n (pc := 80) hX rfl d_Mo_ofJar_80 ?_
    refine g_iald (pc := 81) hX rfl (IX.of (n := 6) (by omega) (by decide)) d_Mo_ofJar_81 ?_
    rw [show M 41 j = J j 4 from hJ.2.2.1 j hj 4 (by decide)]
    exact f_iret (pc := 82) hX hR (by subst q11; simp [jpart, *]) (rfl) d_Mo_ofJar_82
  by_cases e11_5 : y11 = 5
  · refine v_tabIn (pc := 11) (tgt := 83) (off := 72) (y := 5) hX e11_5 d_Mo_ofJar_11 (by decide) (by decide) (by decide) rfl ?_
    refine v_aload_n (pc := 83) hX rfl d_Mo_ofJar_83 ?_
    refine v_iload_n (pc := 84) hX rfl d_Mo_ofJar_84 ?_
    refine f_callV (pc := 85) hX k_Mo_greatestMark ki_Mo_greatestMark kv_Mo_greatestMark ml_Mo_173 (C_Mo_greatestMark hJ hj) rfl rfl rfl rfl rfl (Nat.le_of_ble_eq_true rfl) (Nat.le_of_ble_eq_true rfl) (Nat.le_of_ble_eq_true rfl) d_Mo_ofJar_85 ?_
    exact f_iret (pc := 88) hX hR (by subst q11; simp [jpart, *]) (rfl) d_Mo_ofJar_88
  refine v_tabOut (pc := 11) (tgt := 89) hX d_Mo_ofJar_11 (by simp only [eq32, q_0, q_1, q_2, q_3, q_4, q_5, q_6, q_7, q_8, q_9, q_10, q_11, q_12, q_15, q_16, q_20, q_21, q_23, q_24, q_29, q_31, q_44, q_48, q_59, q_60, q_61, q_63, q_99, q_100, q_108, q_112, q_116, q_119, q_240, q_m1, q_m9] at e11_0 e11_1 e11_2 e11_3 e11_4 e11_5; omega) rfl ?_
  refine v_bipush (pc := 89) (v := (-2)) hX (by decide) d_Mo_ofJar_89 ?_
  exact f_iret (pc := 91) hX hR (by subst q11; simp [jpart, *]) (rfl) d_Mo_ofJar_91
theorem d_Mo_ofDecider_0 : decode c_Mo_ofDecider 0 = .ok (.aload_n 0, 1) := by decide +kernel
theorem d_Mo_ofDecider_1 : decode c_Mo_ofDecider 1 = .ok (.iload_n 1, 1) := by decide +kernel
theorem d_Mo_ofDecider_2 : decode c_Mo_ofDecider 2 = .ok (.invokevirtual 176, 3) := by decide +kernel
theorem d_Mo_ofDecider_5 : decode c_Mo_ofDecider 5 = .ok (.ifCond .eq 5, 3) := by decide +kernel
theorem d_Mo_ofDecider_8 : decode c_Mo_ofDecider 8 = .ok (.iconst (-1), 1) := by decide +kernel
theorem d_Mo_ofDecider_9 : decode c_Mo_ofDecider 9 = .ok (.ireturn, 1) := by decide +kernel
theorem d_Mo_ofDecider_10 : decode c_Mo_ofDecider 10 = .ok (.iload_n 2, 1) := by decide +kernel
theorem d_Mo_ofDecider_11 : decode c_Mo_ofDecider 11 = .ok (.ifCond .ne 12, 3) := by decide +kernel
theorem d_Mo_ofDecider_14 : decode c_Mo_ofDecider 14 = .ok (.aload_n 0, 1) := by decide +kernel
theorem d_Mo_ofDecider_15 : decode c_Mo_ofDecider 15 = .ok (.getfield 25, 3) := by decide +kernel
theorem d_Mo_ofDecider_18 : decode c_Mo_ofDecider 18 = .ok (.iload_n 1, 1) := by decide +kernel
theorem d_Mo_ofDecider_19 : decode c_Mo_ofDecider 19 = .ok (.iaload, 1) := by decide +kernel
theorem d_Mo_ofDecider_20 : decode c_Mo_ofDecider 20 = .ok (.goto 47, 3) := by decide +kernel
theorem d_Mo_ofDecider_23 : decode c_Mo_ofDecider 23 = .ok (.iload_n 2, 1) := by decide +kernel
theorem d_Mo_ofDecider_24 : decode c_Mo_ofDecider 24 = .ok (.iconst 1, 1) := by decide +kernel
theorem d_Mo_ofDecider_25 : decode c_Mo_ofDecider 25 = .ok (.if_icmp .ne 12, 3) := by decide +kernel
theorem d_Mo_ofDecider_28 : decode c_Mo_ofDecider 28 = .ok (.aload_n 0, 1) := by decide +kernel
theorem d_Mo_ofDecider_29 : decode c_Mo_ofDecider 29 = .ok (.getfield 28, 3) := by decide +kernel
theorem d_Mo_ofDecider_32 : decode c_Mo_ofDecider 32 = .ok (.iload_n 1, 1) := by decide +kernel
theorem d_Mo_ofDecider_33 : decode c_Mo_ofDecider 33 = .ok (.iaload, 1) := by decide +kernel
theorem d_Mo_ofDecider_34 : decode c_Mo_ofDecider 34 = .ok (.goto 33, 3) := by decide +kernel
theorem d_Mo_ofDecider_37 : decode c_Mo_ofDecider 37 = .ok (.iload_n 2, 1) := by decide +kernel
theorem d_Mo_ofDecider_38 : decode c_Mo_ofDecider 38 = .ok (.iconst 2, 1) := by decide +kernel
theorem d_Mo_ofDecider_39 : decode c_Mo_ofDecider 39 = .ok (.if_icmp .ne 12, 3) := by decide +kernel
theorem d_Mo_ofDecider_42 : decode c_Mo_ofDecider 42 = .ok (.aload_n 0, 1) := by decide +kernel
theorem d_Mo_ofDecider_43 : decode c_Mo_ofDecider 43 = .ok (.getfield 31, 3) := by decide +kernel
theorem d_Mo_ofDecider_46 : decode c_Mo_ofDecider 46 = .ok (.iload_n 1, 1) := by decide +kernel
theorem d_Mo_ofDecider_47 : decode c_Mo_ofDecider 47 = .ok (.iaload, 1) := by decide +kernel
theorem d_Mo_ofDecider_48 : decode c_Mo_ofDecider 48 = .ok (.goto 19, 3) := by decide +kernel
theorem d_Mo_ofDecider_51 : decode c_Mo_ofDecider 51 = .ok (.iload_n 2, 1) := by decide +kernel
theorem d_Mo_ofDecider_52 : decode c_Mo_ofDecider 52 = .ok (.iconst 3, 1) := by decide +kernel
theorem d_Mo_ofDecider_53 : decode c_Mo_ofDecider 53 = .ok (.if_icmp .ne 12, 3) := by decide +kernel
theorem d_Mo_ofDecider_56 : decode c_Mo_ofDecider 56 = .ok (.aload_n 0, 1) := by decide +kernel
theorem d_Mo_ofDecider_57 : decode c_Mo_ofDecider 57 = .ok (.getfield 34, 3) := by decide +kernel
theorem d_Mo_ofDecider_60 : decode c_Mo_ofDecider 60 = .ok (.iload_n 1, 1) := by decide +kernel
theorem d_Mo_ofDecider_61 : decode c_Mo_ofDecider 61 = .ok (.iaload, 1) := by decide +kernel
theorem d_Mo_ofDecider_62 : decode c_Mo_ofDecider 62 = .ok (.goto 5, 3) := by decide +kernel
theorem d_Mo_ofDecider_65 : decode c_Mo_ofDecider 65 = .ok (.bipush (-2), 2) := by decide +kernel
theorem d_Mo_ofDecider_67 : decode c_Mo_ofDecider 67 = .ok (.ireturn, 1) := by decide +kernel
theorem C_Mo_ofDecider_out {M : MM} {n : Nat} {B : JT} {x : Int32} (hB : MB M n B) (hx : rg x 0 ((n : Int) - 1) = false) {u : Int32} : AF y_Mo_ofDecider c_Mo_ofDecider 3 (some .int) 3 [vR 36, vI x, vI u] (M) (some (vI (-1))) (M) := by
  refine AF.of k_Mo_ofDecider (lo := [some (vR 36), some (vI x), some (vI u)]) rfl (Nat.le_of_ble_eq_true rfl) (fun X hX hR => ?_)
  refine v_aload_n (pc := 0) hX rfl d_Mo_ofDecider_0 ?_
  refine v_iload_n (pc := 1) hX rfl d_Mo_ofDecider_1 ?_
  refine f_callV (pc := 2) hX k_Mo_noDecider ki_Mo_noDecider kv_Mo_noDecider ml_Mo_176 (C_Mo_noDecider hB.1 hB.2.1) rfl rfl rfl rfl rfl (Nat.le_of_ble_eq_true rfl) (Nat.le_of_ble_eq_true rfl) (Nat.le_of_ble_eq_true rfl) d_Mo_ofDecider_2 ?_
  rw [hx]
  refine f_ifeqB (pc := 5) (tgt := 10) hX d_Mo_ofDecider_5 rfl (fun h5 => False.elim (absurd h5 (by decide))) (fun h5 => ?_)
  refine v_iconst (pc := 8) (v := (-1)) hX (by decide) d_Mo_ofDecider_8 ?_
  exact f_iret (pc := 9) hX hR (rfl) (rfl) d_Mo_ofDecider_9
theorem C_Mo_ofDecider_in {M : MM} {n j : Nat} {B : JT} (hB : MB M n B) (hj : j < n) {u : Int32} : AF y_Mo_ofDecider c_Mo_ofDecider 3 (some .int) 3 [vR 36, vI (i3 j), vI u] (M) (some (vI (dpart (B j) u))) (M) := by
  have h4 := hB.1
  refine AF.of k_Mo_ofDecider (lo := [some (vR 36), some (vI (i3 j)), some (vI u)]) rfl (Nat.le_of_ble_eq_true rfl) (fun X hX hR => ?_)
  refine v_aload_n (pc := 0) hX rfl d_Mo_ofDecider_0 ?_
  refine v_iload_n (pc := 1) hX rfl d_Mo_ofDecider_1 ?_
  refine f_callV (pc := 2) hX k_Mo_noDecider ki_Mo_noDecider kv_Mo_noDecider ml_Mo_176 (C_Mo_noDecider hB.1 hB.2.1) rfl rfl rfl rfl rfl (Nat.le_of_ble_eq_true rfl) (Nat.le_of_ble_eq_true rfl) (Nat.le_of_ble_eq_true rfl) d_Mo_ofDecider_2 ?_
  rw [rg_i3 hj (by omega)]
  refine f_ifeqB (pc := 5) (tgt := 10) hX d_Mo_ofDecider_5 rfl (fun h5 => ?_) (fun h5 => False.elim (absurd h5 (by decide)))
  refine v_iload_n (pc := 10) hX rfl d_Mo_ofDecider_10 ?_
  refine v_if_ne (pc := 11) (tgt := 23) hX d_Mo_ofDecider_11 rfl (fun h11 => ?_) (fun h11 => ?_)
  · refine v_iload_n (pc := 23) hX rfl d_Mo_ofDecider_23 ?_
    refine v_iconst (pc := 24) (v := 1) hX (by decide) d_Mo_ofDecider_24 ?_
    refine v_icmp_ne (pc := 25) (tgt := 37) hX d_Mo_ofDecider_25 rfl (fun h25 => ?_) (fun h25 => ?_)
    · refine v_iload_n (pc := 37) hX rfl d_Mo_ofDecider_37 ?_
      refine v_iconst (pc := 38) (v := 2) hX (by decide) d_Mo_ofDecider_38 ?_
      refine v_icmp_ne (pc := 39) (tgt := 51) hX d_Mo_ofDecider_39 rfl (fun h39 => ?_) (fun h39 => ?_)
      · refine v_iload_n (pc := 51) hX rfl d_Mo_ofDecider_51 ?_
        refine v_iconst (pc := 52) (v := 3) hX (by decide) d_Mo_ofDecider_52 ?_
        refine v_icmp_ne (pc := 53) (tgt := 65) hX d_Mo_ofDecider_53 rfl (fun h53 => ?_) (fun h53 => ?_)
        · refine v_bipush (pc := 65) (v := (-2)) hX (by decide) d_Mo_ofDecider_65 ?_
          exact f_iret (pc := 67) hX hR (by simp [dpart, *]) (rfl) d_Mo_ofDecider_67
        · refine v_aload_n (pc := 56) hX rfl d_Mo_ofDecider_56 ?_
          refine g_getR (pc := 57) hX fl_Mo_34 rfl rfl nf_36_11 d_Mo_ofDecider_57 ?_
          refine v_iload_n (pc := 60) hX rfl d_Mo_ofDecider_60 ?_
          refine g_iald (pc := 61) hX rfl (IX.of (n := 4) (by omega) (by decide)) d_Mo_ofDecider_61 ?_
          rw [show M 45 j = B j 3 from hB.2.2.1 j hj 3 (by decide)]
          refine v_goto (pc := 62) (tgt := 67) hX d_Mo_ofDecider_62 rfl ?_
          exact f_iret (pc := 67) hX hR (by simp [dpart, *]) (rfl) d_Mo_ofDecider_67
      · refine v_aload_n (pc := 42) hX rfl d_Mo_ofDecider_42 ?_
        refine g_getR (pc := 43) hX fl_Mo_31 rfl rfl nf_36_10 d_Mo_ofDecider_43 ?_
        refine v_iload_n (pc := 46) hX rfl d_Mo_ofDecider_46 ?_
        refine g_iald (pc := 47) hX rfl (IX.of (n := 4) (by omega) (by decide)) d_Mo_ofDecider_47 ?_
        rw [show M 44 j = B j 2 from hB.2.2.1 j hj 2 (by decide)]
        refine v_goto (pc := 48) (tgt := 67) hX d_Mo_ofDecider_48 rfl ?_
        exact f_iret (pc := 67) hX hR (by simp [dpart, *]) (rfl) d_Mo_ofDecider_67
    · refine v_aload_n (pc := 28) hX rfl d_Mo_ofDecider_28 ?_
      refine g_getR (pc := 29) hX fl_Mo_28 rfl rfl nf_36_9 d_Mo_ofDecider_29 ?_
      refine v_iload_n (pc := 32) hX rfl d_Mo_ofDecider_32 ?_
      refine g_iald (pc := 33) hX rfl (IX.of (n := 4) (by omega) (by decide)) d_Mo_ofDecider_33 ?_
      rw [show M 43 j = B j 1 from hB.2.2.1 j hj 1 (by decide)]
      refine v_goto (pc := 34) (tgt := 67) hX d_Mo_ofDecider_34 rfl ?_
      exact f_iret (pc := 67) hX hR (by simp [dpart, *]) (rfl) d_Mo_ofDecider_67
  · refine v_aload_n (pc := 14) hX rfl d_Mo_ofDecider_14 ?_
    refine g_getR (pc := 15) hX fl_Mo_25 rfl rfl nf_36_8 d_Mo_ofDecider_15 ?_
    refine v_iload_n (pc := 18) hX rfl d_Mo_ofDecider_18 ?_
    refine g_iald (pc := 19) hX rfl (IX.of (n := 4) (by omega) (by decide)) d_Mo_ofDecider_19 ?_
    rw [show M 42 j = B j 0 from hB.2.2.1 j hj 0 (by decide)]
    refine v_goto (pc := 20) (tgt := 67) hX d_Mo_ofDecider_20 rfl ?_
    exact f_iret (pc := 67) hX hR (by simp [dpart, *]) (rfl) d_Mo_ofDecider_67
theorem d_Mo_cure_0 : decode c_Mo_cure 0 = .ok (.aload_n 0, 1) := by decide +kernel
theorem d_Mo_cure_1 : decode c_Mo_cure 1 = .ok (.iload_n 1, 1) := by decide +kernel
theorem d_Mo_cure_2 : decode c_Mo_cure 2 = .ok (.invokevirtual 170, 3) := by decide +kernel
theorem d_Mo_cure_5 : decode c_Mo_cure 5 = .ok (.ifCond .eq 5, 3) := by decide +kernel
theorem d_Mo_cure_8 : decode c_Mo_cure 8 = .ok (.iconst (-1), 1) := by decide +kernel
theorem d_Mo_cure_9 : decode c_Mo_cure 9 = .ok (.ireturn, 1) := by decide +kernel
theorem d_Mo_cure_10 : decode c_Mo_cure 10 = .ok (.iload_n 2, 1) := by decide +kernel
theorem d_Mo_cure_11 : decode c_Mo_cure 11 = .ok (.i2l, 1) := by decide +kernel
theorem d_Mo_cure_12 : decode c_Mo_cure 12 = .ok (.lconst 0, 1) := by decide +kernel
theorem d_Mo_cure_13 : decode c_Mo_cure 13 = .ok (.ldc2_w 118, 3) := by decide +kernel
theorem d_Mo_cure_16 : decode c_Mo_cure 16 = .ok (.invokestatic 104, 3) := by decide +kernel
theorem d_Mo_cure_19 : decode c_Mo_cure 19 = .ok (.ifCond .ne 6, 3) := by decide +kernel
theorem d_Mo_cure_22 : decode c_Mo_cure 22 = .ok (.bipush (-2), 2) := by decide +kernel
theorem d_Mo_cure_24 : decode c_Mo_cure 24 = .ok (.ireturn, 1) := by decide +kernel
theorem d_Mo_cure_25 : decode c_Mo_cure 25 = .ok (.aload_n 0, 1) := by decide +kernel
theorem d_Mo_cure_26 : decode c_Mo_cure 26 = .ok (.getfield 13, 3) := by decide +kernel
theorem d_Mo_cure_29 : decode c_Mo_cure 29 = .ok (.iload_n 1, 1) := by decide +kernel
theorem d_Mo_cure_30 : decode c_Mo_cure 30 = .ok (.iaload, 1) := by decide +kernel
theorem d_Mo_cure_31 : decode c_Mo_cure 31 = .ok (.istore_n 3, 1) := by decide +kernel
theorem d_Mo_cure_32 : decode c_Mo_cure 32 = .ok (.aload_n 0, 1) := by decide +kernel
theorem d_Mo_cure_33 : decode c_Mo_cure 33 = .ok (.getfield 13, 3) := by decide +kernel
theorem d_Mo_cure_36 : decode c_Mo_cure 36 = .ok (.iload_n 1, 1) := by decide +kernel
theorem d_Mo_cure_37 : decode c_Mo_cure 37 = .ok (.iload_n 2, 1) := by decide +kernel
theorem d_Mo_cure_38 : decode c_Mo_cure 38 = .ok (.iastore, 1) := by decide +kernel
theorem d_Mo_cure_39 : decode c_Mo_cure 39 = .ok (.iload_n 3, 1) := by decide +kernel
theorem d_Mo_cure_40 : decode c_Mo_cure 40 = .ok (.ireturn, 1) := by decide +kernel
theorem C_Mo_cure_out {M : MM} {n : Nat} {J : JT} {x : Int32} (hJ : MJ M n J) (hx : rg x 0 ((n : Int) - 1) = false) {u : Int32} : AF y_Mo_cure c_Mo_cure 4 (some .int) 3 [vR 36, vI x, vI u] (M) (some (vI (-1))) (M) := by
  refine AF.of k_Mo_cure (lo := [some (vR 36), some (vI x), some (vI u), none]) rfl (Nat.le_of_ble_eq_true rfl) (fun X hX hR => ?_)
  refine v_aload_n (pc := 0) hX rfl d_Mo_cure_0 ?_
  refine v_iload_n (pc := 1) hX rfl d_Mo_cure_1 ?_
  refine f_callV (pc := 2) hX k_Mo_noJar ki_Mo_noJar kv_Mo_noJar ml_Mo_170 (C_Mo_noJar hJ.1 hJ.2.1) rfl rfl rfl rfl rfl (Nat.le_of_ble_eq_true rfl) (Nat.le_of_ble_eq_true rfl) (Nat.le_of_ble_eq_true rfl) d_Mo_cure_2 ?_
  rw [hx]
  refine f_ifeqB (pc := 5) (tgt := 10) hX d_Mo_cure_5 rfl (fun h5 => False.elim (absurd h5 (by decide))) (fun h5 => ?_)
  refine v_iconst (pc := 8) (v := (-1)) hX (by decide) d_Mo_cure_8 ?_
  exact f_iret (pc := 9) hX hR (rfl) (rfl) d_Mo_cure_9
theorem C_Mo_cure_bad {M : MM} {n j : Nat} {J : JT} (hJ : MJ M n J) (hj : j < n) {u : Int32} (hu : rg u 0 9 = false) : AF y_Mo_cure c_Mo_cure 4 (some .int) 3 [vR 36, vI (i3 j), vI u] (M) (some (vI (-2))) (M) := by
  have h6 := hJ.1
  refine AF.of k_Mo_cure (lo := [some (vR 36), some (vI (i3 j)), some (vI u), none]) rfl (Nat.le_of_ble_eq_true rfl) (fun X hX hR => ?_)
  refine v_aload_n (pc := 0) hX rfl d_Mo_cure_0 ?_
  refine v_iload_n (pc := 1) hX rfl d_Mo_cure_1 ?_
  refine f_callV (pc := 2) hX k_Mo_noJar ki_Mo_noJar kv_Mo_noJar ml_Mo_170 (C_Mo_noJar hJ.1 hJ.2.1) rfl rfl rfl rfl rfl (Nat.le_of_ble_eq_true rfl) (Nat.le_of_ble_eq_true rfl) (Nat.le_of_ble_eq_true rfl) d_Mo_cure_2 ?_
  rw [rg_i3 hj (by omega)]
  refine f_ifeqB (pc := 5) (tgt := 10) hX d_Mo_cure_5 rfl (fun h5 => ?_) (fun h5 => False.elim (absurd h5 (by decide)))
  refine v_iload_n (pc := 10) hX rfl d_Mo_cure_10 ?_
  refine v_i2l (pc := 11) hX d_Mo_cure_11 ?_
  refine v_lconst (pc := 12) (v := 0) hX (by decide) d_Mo_cure_12 ?_
  refine v_ldc2_w (pc := 13) hX kl_Mo_118 d_Mo_cure_13 ?_
  refine f_callS (pc := 16) hX k_Mo_in ks_Mo_in ml_Mo_104 (C_Mo_in) rfl rfl rfl (Nat.le_of_ble_eq_true rfl) (Nat.le_of_ble_eq_true rfl) (Nat.le_of_ble_eq_true rfl) d_Mo_cure_16 ?_
  rw [rL_rg (L := 0) (H := 9) rfl rfl]
  refine f_ifneB (pc := 19) (tgt := 25) hX d_Mo_cure_19 rfl (fun h19 => False.elim (by rw [hu] at h19; cases h19)) (fun h19 => ?_)
  refine v_bipush (pc := 22) (v := (-2)) hX (by decide) d_Mo_cure_22 ?_
  exact f_iret (pc := 24) hX hR (rfl) (rfl) d_Mo_cure_24
theorem C_Mo_cure_ok {M : MM} {n j : Nat} {J : JT} (hJ : MJ M n J) (hj : j < n) {u : Int32} (hu : rg u 0 9 = true) : AF y_Mo_cure c_Mo_cure 4 (some .int) 3 [vR 36, vI (i3 j), vI u] (M) (some (vI (J j 1))) (upM M 38 j u) := by
  have h6 := hJ.1
  refine AF.of k_Mo_cure (lo := [some (vR 36), some (vI (i3 j)), some (vI u), none]) rfl (Nat.le_of_ble_eq_true rfl) (fun X hX hR => ?_)
  refine v_aload_n (pc := 0) hX rfl d_Mo_cure_0 ?_
  refine v_iload_n (pc := 1) hX rfl d_Mo_cure_1 ?_
  refine f_callV (pc := 2) hX k_Mo_noJar ki_Mo_noJar kv_Mo_noJar ml_Mo_170 (C_Mo_noJar hJ.1 hJ.2.1) rfl rfl rfl rfl rfl (Nat.le_of_ble_eq_true rfl) (Nat.le_of_ble_eq_true rfl) (Nat.le_of_ble_eq_true rfl) d_Mo_cure_2 ?_
  rw [rg_i3 hj (by omega)]
  refine f_ifeqB (pc := 5) (tgt := 10) hX d_Mo_cure_5 rfl (fun h5 => ?_) (fun h5 => False.elim (absurd h5 (by decide)))
  refine v_iload_n (pc := 10) hX rfl d_Mo_cure_10 ?_
  refine v_i2l (pc := 11) hX d_Mo_cure_11 ?_
  refine v_lconst (pc := 12) (v := 0) hX (by decide) d_Mo_cure_12 ?_
  refine v_ldc2_w (pc := 13) hX kl_Mo_118 d_Mo_cure_13 ?_
  refine f_callS (pc := 16) hX k_Mo_in ks_Mo_in ml_Mo_104 (C_Mo_in) rfl rfl rfl (Nat.le_of_ble_eq_true rfl) (Nat.le_of_ble_eq_true rfl) (Nat.le_of_ble_eq_true rfl) d_Mo_cure_16 ?_
  rw [rL_rg (L := 0) (H := 9) rfl rfl]
  refine f_ifneB (pc := 19) (tgt := 25) hX d_Mo_cure_19 rfl (fun h19 => ?_) (fun h19 => False.elim (by rw [hu] at h19; cases h19))
  refine v_aload_n (pc := 25) hX rfl d_Mo_cure_25 ?_
  refine g_getR (pc := 26) hX fl_Mo_13 rfl rfl nf_36_3 d_Mo_cure_26 ?_
  refine v_iload_n (pc := 29) hX rfl d_Mo_cure_29 ?_
  refine g_iald (pc := 30) hX rfl (IX.of (n := 6) (by omega) (by decide)) d_Mo_cure_30 ?_
  rw [show M 38 j = J j 1 from hJ.2.2.1 j hj 1 (by decide)]
  refine v_istore_n (pc := 31) (lo' := [some (vR _), some (vI _), some (vI _), some (vI _)]) hX (Nat.le_of_ble_eq_true rfl) rfl d_Mo_cure_31 ?_
  refine v_aload_n (pc := 32) hX rfl d_Mo_cure_32 ?_
  refine g_getR (pc := 33) hX fl_Mo_13 rfl rfl nf_36_3 d_Mo_cure_33 ?_
  refine v_iload_n (pc := 36) hX rfl d_Mo_cure_36 ?_
  refine v_iload_n (pc := 37) hX rfl d_Mo_cure_37 ?_
  refine g_iast (pc := 38) hX rfl (IX.of (n := 6) (by omega) (by decide)) d_Mo_cure_38 ?_
  refine v_iload_n (pc := 39) hX rfl d_Mo_cure_39 ?_
  exact f_iret (pc := 40) hX hR (rfl) (rfl) d_Mo_cure_40
theorem d_Mo_fetch_0 : decode c_Mo_fetch 0 = .ok (.aload_n 0, 1) := by decide +kernel
theorem d_Mo_fetch_1 : decode c_Mo_fetch 1 = .ok (.iload_n 1, 1) := by decide +kernel
theorem d_Mo_fetch_2 : decode c_Mo_fetch 2 = .ok (.invokevirtual 170, 3) := by decide +kernel
theorem d_Mo_fetch_5 : decode c_Mo_fetch 5 = .ok (.ifCond .eq 5, 3) := by decide +kernel
theorem d_Mo_fetch_8 : decode c_Mo_fetch 8 = .ok (.iconst (-1), 1) := by decide +kernel
theorem d_Mo_fetch_9 : decode c_Mo_fetch 9 = .ok (.ireturn, 1) := by decide +kernel
theorem d_Mo_fetch_10 : decode c_Mo_fetch 10 = .ok (.iload_n 2, 1) := by decide +kernel
theorem d_Mo_fetch_11 : decode c_Mo_fetch 11 = .ok (.i2l, 1) := by decide +kernel
theorem d_Mo_fetch_12 : decode c_Mo_fetch 12 = .ok (.lconst 0, 1) := by decide +kernel
theorem d_Mo_fetch_13 : decode c_Mo_fetch 13 = .ok (.ldc2_w 118, 3) := by decide +kernel
theorem d_Mo_fetch_16 : decode c_Mo_fetch 16 = .ok (.invokestatic 104, 3) := by decide +kernel
theorem d_Mo_fetch_19 : decode c_Mo_fetch 19 = .ok (.ifCond .ne 6, 3) := by decide +kernel
theorem d_Mo_fetch_22 : decode c_Mo_fetch 22 = .ok (.bipush (-2), 2) := by decide +kernel
theorem d_Mo_fetch_24 : decode c_Mo_fetch 24 = .ok (.ireturn, 1) := by decide +kernel
theorem d_Mo_fetch_25 : decode c_Mo_fetch 25 = .ok (.aload_n 0, 1) := by decide +kernel
theorem d_Mo_fetch_26 : decode c_Mo_fetch 26 = .ok (.getfield 19, 3) := by decide +kernel
theorem d_Mo_fetch_29 : decode c_Mo_fetch 29 = .ok (.iload_n 1, 1) := by decide +kernel
theorem d_Mo_fetch_30 : decode c_Mo_fetch 30 = .ok (.iaload, 1) := by decide +kernel
theorem d_Mo_fetch_31 : decode c_Mo_fetch 31 = .ok (.istore_n 3, 1) := by decide +kernel
theorem d_Mo_fetch_32 : decode c_Mo_fetch 32 = .ok (.aload_n 0, 1) := by decide +kernel
theorem d_Mo_fetch_33 : decode c_Mo_fetch 33 = .ok (.getfield 19, 3) := by decide +kernel
theorem d_Mo_fetch_36 : decode c_Mo_fetch 36 = .ok (.iload_n 1, 1) := by decide +kernel
theorem d_Mo_fetch_37 : decode c_Mo_fetch 37 = .ok (.iload_n 2, 1) := by decide +kernel
theorem d_Mo_fetch_38 : decode c_Mo_fetch 38 = .ok (.iastore, 1) := by decide +kernel
theorem d_Mo_fetch_39 : decode c_Mo_fetch 39 = .ok (.iload_n 3, 1) := by decide +kernel
theorem d_Mo_fetch_40 : decode c_Mo_fetch 40 = .ok (.ireturn, 1) := by decide +kernel
theorem C_Mo_fetch_out {M : MM} {n : Nat} {J : JT} {x : Int32} (hJ : MJ M n J) (hx : rg x 0 ((n : Int) - 1) = false) {u : Int32} : AF y_Mo_fetch c_Mo_fetch 4 (some .int) 3 [vR 36, vI x, vI u] (M) (some (vI (-1))) (M) := by
  refine AF.of k_Mo_fetch (lo := [some (vR 36), some (vI x), some (vI u), none]) rfl (Nat.le_of_ble_eq_true rfl) (fun X hX hR => ?_)
  refine v_aload_n (pc := 0) hX rfl d_Mo_fetch_0 ?_
  refine v_iload_n (pc := 1) hX rfl d_Mo_fetch_1 ?_
  refine f_callV (pc := 2) hX k_Mo_noJar ki_Mo_noJar kv_Mo_noJar ml_Mo_170 (C_Mo_noJar hJ.1 hJ.2.1) rfl rfl rfl rfl rfl (Nat.le_of_ble_eq_true rfl) (Nat.le_of_ble_eq_true rfl) (Nat.le_of_ble_eq_true rfl) d_Mo_fetch_2 ?_
  rw [hx]
  refine f_ifeqB (pc := 5) (tgt := 10) hX d_Mo_fetch_5 rfl (fun h5 => False.elim (absurd h5 (by decide))) (fun h5 => ?_)
  refine v_iconst (pc := 8) (v := (-1)) hX (by decide) d_Mo_fetch_8 ?_
  exact f_iret (pc := 9) hX hR (rfl) (rfl) d_Mo_fetch_9
theorem C_Mo_fetch_bad {M : MM} {n j : Nat} {J : JT} (hJ : MJ M n J) (hj : j < n) {u : Int32} (hu : rg u 0 9 = false) : AF y_Mo_fetch c_Mo_fetch 4 (some .int) 3 [vR 36, vI (i3 j), vI u] (M) (some (vI (-2))) (M) := by
  have h6 := hJ.1
  refine AF.of k_Mo_fetch (lo := [some (vR 36), some (vI (i3 j)), some (vI u), none]) rfl (Nat.le_of_ble_eq_true rfl) (fun X hX hR => ?_)
  refine v_aload_n (pc := 0) hX rfl d_Mo_fetch_0 ?_
  refine v_iload_n (pc := 1) hX rfl d_Mo_fetch_1 ?_
  refine f_callV (pc := 2) hX k_Mo_noJar ki_Mo_noJar kv_Mo_noJar ml_Mo_170 (C_Mo_noJar hJ.1 hJ.2.1) rfl rfl rfl rfl rfl (Nat.le_of_ble_eq_true rfl) (Nat.le_of_ble_eq_true rfl) (Nat.le_of_ble_eq_true rfl) d_Mo_fetch_2 ?_
  rw [rg_i3 hj (by omega)]
  refine f_ifeqB (pc := 5) (tgt := 10) hX d_Mo_fetch_5 rfl (fun h5 => ?_) (fun h5 => False.elim (absurd h5 (by decide)))
  refine v_iload_n (pc := 10) hX rfl d_Mo_fetch_10 ?_
  refine v_i2l (pc := 11) hX d_Mo_fetch_11 ?_
  refine v_lconst (pc := 12) (v := 0) hX (by decide) d_Mo_fetch_12 ?_
  refine v_ldc2_w (pc := 13) hX kl_Mo_118 d_Mo_fetch_13 ?_
  refine f_callS (pc := 16) hX k_Mo_in ks_Mo_in ml_Mo_104 (C_Mo_in) rfl rfl rfl (Nat.le_of_ble_eq_true rfl) (Nat.le_of_ble_eq_true rfl) (Nat.le_of_ble_eq_true rfl) d_Mo_fetch_16 ?_
  rw [rL_rg (L := 0) (H := 9) rfl rfl]
  refine f_ifneB (pc := 19) (tgt := 25) hX d_Mo_fetch_19 rfl (fun h19 => False.elim (by rw [hu] at h19; cases h19)) (fun h19 => ?_)
  refine v_bipush (pc := 22) (v := (-2)) hX (by decide) d_Mo_fetch_22 ?_
  exact f_iret (pc := 24) hX hR (rfl) (rfl) d_Mo_fetch_24
theorem C_Mo_fetch_ok {M : MM} {n j : Nat} {J : JT} (hJ : MJ M n J) (hj : j < n) {u : Int32} (hu : rg u 0 9 = true) : AF y_Mo_fetch c_Mo_fetch 4 (some .int) 3 [vR 36, vI (i3 j), vI u] (M) (some (vI (J j 3))) (upM M 40 j u) := by
  have h6 := hJ.1
  refine AF.of k_Mo_fetch (lo := [some (vR 36), some (vI (i3 j)), some (vI u), none]) rfl (Nat.le_of_ble_eq_true rfl) (fun X hX hR => ?_)
  refine v_aload_n (pc := 0) hX rfl d_Mo_fetch_0 ?_
  refine v_iload_n (pc := 1) hX rfl d_Mo_fetch_1 ?_
  refine f_callV (pc := 2) hX k_Mo_noJar ki_Mo_noJar kv_Mo_noJar ml_Mo_170 (C_Mo_noJar hJ.1 hJ.2.1) rfl rfl rfl rfl rfl (Nat.le_of_ble_eq_true rfl) (Nat.le_of_ble_eq_true rfl) (Nat.le_of_ble_eq_true rfl) d_Mo_fetch_2 ?_
  rw [rg_i3 hj (by omega)]
  refine f_ifeqB (pc := 5) (tgt := 10) hX d_Mo_fetch_5 rfl (fun h5 => ?_) (fun h5 => False.elim (absurd h5 (by decide)))
  refine v_iload_n (pc := 10) hX rfl d_Mo_fetch_10 ?_
  refine v_i2l (pc := 11) hX d_Mo_fetch_11 ?_
  refine v_lconst (pc := 12) (v := 0) hX (by decide) d_Mo_fetch_12 ?_
  refine v_ldc2_w (pc := 13) hX kl_Mo_118 d_Mo_fetch_13 ?_
  refine f_callS (pc := 16) hX k_Mo_in ks_Mo_in ml_Mo_104 (C_Mo_in) rfl rfl rfl (Nat.le_of_ble_eq_true rfl) (Nat.le_of_ble_eq_true rfl) (Nat.le_of_ble_eq_true rfl) d_Mo_fetch_16 ?_
  rw [rL_rg (L := 0) (H := 9) rfl rfl]
  refine f_ifneB (pc := 19) (tgt := 25) hX d_Mo_fetch_19 rfl (fun h19 => ?_) (fun h19 => False.elim (by rw [hu] at h19; cases h19))
  refine v_aload_n (pc := 25) hX rfl d_Mo_fetch_25 ?_
  refine g_getR (pc := 26) hX fl_Mo_19 rfl rfl nf_36_5 d_Mo_fetch_26 ?_
  refine v_iload_n (pc := 29) hX rfl d_Mo_fetch_29 ?_
  refine g_iald (pc := 30) hX rfl (IX.of (n := 6) (by omega) (by decide)) d_Mo_fetch_30 ?_
  rw [show M 40 j = J j 3 from hJ.2.2.1 j hj 3 (by decide)]
  refine v_istore_n (pc := 31) (lo' := [some (vR _), some (vI _), some (vI _), some (vI _)]) hX (Nat.le_of_ble_eq_true rfl) rfl d_Mo_fetch_31 ?_
  refine v_aload_n (pc := 32) hX rfl d_Mo_fetch_32 ?_
  refine g_getR (pc := 33) hX fl_Mo_19 rfl rfl nf_36_5 d_Mo_fetch_33 ?_
  refine v_iload_n (pc := 36) hX rfl d_Mo_fetch_36 ?_
  refine v_iload_n (pc := 37) hX rfl d_Mo_fetch_37 ?_
  refine g_iast (pc := 38) hX rfl (IX.of (n := 6) (by omega) (by decide)) d_Mo_fetch_38 ?_
  refine v_iload_n (pc := 39) hX rfl d_Mo_fetch_39 ?_
  exact f_iret (pc := 40) hX hR (rfl) (rfl) d_Mo_fetch_40
theorem d_Mo_price_0 : decode c_Mo_price 0 = .ok (.aload_n 0, 1) := by decide +kernel
theorem d_Mo_price_1 : decode c_Mo_price 1 = .ok (.iload_n 1, 1) := by decide +kernel
theorem d_Mo_price_2 : decode c_Mo_price 2 = .ok (.invokevirtual 170, 3) := by decide +kernel
theorem d_Mo_price_5 : decode c_Mo_price 5 = .ok (.ifCond .eq 5, 3) := by decide +kernel
theorem d_Mo_price_8 : decode c_Mo_price 8 = .ok (.iconst (-1), 1) := by decide +kernel
theorem d_Mo_price_9 : decode c_Mo_price 9 = .ok (.ireturn, 1) := by decide +kernel
theorem d_Mo_price_10 : decode c_Mo_price 10 = .ok (.iload_n 2, 1) := by decide +kernel
theorem d_Mo_price_11 : decode c_Mo_price 11 = .ok (.i2l, 1) := by decide +kernel
theorem d_Mo_price_12 : decode c_Mo_price 12 = .ok (.lconst 0, 1) := by decide +kernel
theorem d_Mo_price_13 : decode c_Mo_price 13 = .ok (.ldc2_w 118, 3) := by decide +kernel
theorem d_Mo_price_16 : decode c_Mo_price 16 = .ok (.invokestatic 104, 3) := by decide +kernel
theorem d_Mo_price_19 : decode c_Mo_price 19 = .ok (.ifCond .ne 6, 3) := by decide +kernel
theorem d_Mo_price_22 : decode c_Mo_price 22 = .ok (.bipush (-2), 2) := by decide +kernel
theorem d_Mo_price_24 : decode c_Mo_price 24 = .ok (.ireturn, 1) := by decide +kernel
theorem d_Mo_price_25 : decode c_Mo_price 25 = .ok (.aload_n 0, 1) := by decide +kernel
theorem d_Mo_price_26 : decode c_Mo_price 26 = .ok (.getfield 22, 3) := by decide +kernel
theorem d_Mo_price_29 : decode c_Mo_price 29 = .ok (.iload_n 1, 1) := by decide +kernel
theorem d_Mo_price_30 : decode c_Mo_price 30 = .ok (.iaload, 1) := by decide +kernel
theorem d_Mo_price_31 : decode c_Mo_price 31 = .ok (.istore_n 3, 1) := by decide +kernel
theorem d_Mo_price_32 : decode c_Mo_price 32 = .ok (.aload_n 0, 1) := by decide +kernel
theorem d_Mo_price_33 : decode c_Mo_price 33 = .ok (.getfield 22, 3) := by decide +kernel
theorem d_Mo_price_36 : decode c_Mo_price 36 = .ok (.iload_n 1, 1) := by decide +kernel
theorem d_Mo_price_37 : decode c_Mo_price 37 = .ok (.iload_n 2, 1) := by decide +kernel
theorem d_Mo_price_38 : decode c_Mo_price 38 = .ok (.iastore, 1) := by decide +kernel
theorem d_Mo_price_39 : decode c_Mo_price 39 = .ok (.iload_n 3, 1) := by decide +kernel
theorem d_Mo_price_40 : decode c_Mo_price 40 = .ok (.ireturn, 1) := by decide +kernel
theorem C_Mo_price_out {M : MM} {n : Nat} {J : JT} {x : Int32} (hJ : MJ M n J) (hx : rg x 0 ((n : Int) - 1) = false) {u : Int32} : AF y_Mo_price c_Mo_price 4 (some .int) 3 [vR 36, vI x, vI u] (M) (some (vI (-1))) (M) := by
  refine AF.of k_Mo_price (lo := [some (vR 36), some (vI x), some (vI u), none]) rfl (Nat.le_of_ble_eq_true rfl) (fun X hX hR => ?_)
  refine v_aload_n (pc := 0) hX rfl d_Mo_price_0 ?_
  refine v_iload_n (pc := 1) hX rfl d_Mo_price_1 ?_
  refine f_callV (pc := 2) hX k_Mo_noJar ki_Mo_noJar kv_Mo_noJar ml_Mo_170 (C_Mo_noJar hJ.1 hJ.2.1) rfl rfl rfl rfl rfl (Nat.le_of_ble_eq_true rfl) (Nat.le_of_ble_eq_true rfl) (Nat.le_of_ble_eq_true rfl) d_Mo_price_2 ?_
  rw [hx]
  refine f_ifeqB (pc := 5) (tgt := 10) hX d_Mo_price_5 rfl (fun h5 => False.elim (absurd h5 (by decide))) (fun h5 => ?_)
  refine v_iconst (pc := 8) (v := (-1)) hX (by decide) d_Mo_price_8 ?_
  exact f_iret (pc := 9) hX hR (rfl) (rfl) d_Mo_price_9
theorem C_Mo_price_bad {M : MM} {n j : Nat} {J : JT} (hJ : MJ M n J) (hj : j < n) {u : Int32} (hu : rg u 0 9 = false) : AF y_Mo_price c_Mo_price 4 (some .int) 3 [vR 36, vI (i3 j), vI u] (M) (some (vI (-2))) (M) := by
  have h6 := hJ.1
  refine AF.of k_Mo_price (lo := [some (vR 36), some (vI (i3 j)), some (vI u), none]) rfl (Nat.le_of_ble_eq_true rfl) (fun X hX hR => ?_)
  refine v_aload_n (pc := 0) hX rfl d_Mo_price_0 ?_
  refine v_iload_n (pc := 1) hX rfl d_Mo_price_1 ?_
  refine f_callV (pc := 2) hX k_Mo_noJar ki_Mo_noJar kv_Mo_noJar ml_Mo_170 (C_Mo_noJar hJ.1 hJ.2.1) rfl rfl rfl rfl rfl (Nat.le_of_ble_eq_true rfl) (Nat.le_of_ble_eq_true rfl) (Nat.le_of_ble_eq_true rfl) d_Mo_price_2 ?_
  rw [rg_i3 hj (by omega)]
  refine f_ifeqB (pc := 5) (tgt := 10) hX d_Mo_price_5 rfl (fun h5 => ?_) (fun h5 => False.elim (absurd h5 (by decide)))
  refine v_iload_n (pc := 10) hX rfl d_Mo_price_10 ?_
  refine v_i2l (pc := 11) hX d_Mo_price_11 ?_
  refine v_lconst (pc := 12) (v := 0) hX (by decide) d_Mo_price_12 ?_
  refine v_ldc2_w (pc := 13) hX kl_Mo_118 d_Mo_price_13 ?_
  refine f_callS (pc := 16) hX k_Mo_in ks_Mo_in ml_Mo_104 (C_Mo_in) rfl rfl rfl (Nat.le_of_ble_eq_true rfl) (Nat.le_of_ble_eq_true rfl) (Nat.le_of_ble_eq_true rfl) d_Mo_price_16 ?_
  rw [rL_rg (L := 0) (H := 9) rfl rfl]
  refine f_ifneB (pc := 19) (tgt := 25) hX d_Mo_price_19 rfl (fun h19 => False.elim (by rw [hu] at h19; cases h19)) (fun h19 => ?_)
  refine v_bipush (pc := 22) (v := (-2)) hX (by decide) d_Mo_price_22 ?_
  exact f_iret (pc := 24) hX hR (rfl) (rfl) d_Mo_price_24
theorem C_Mo_price_ok {M : MM} {n j : Nat} {J : JT} (hJ : MJ M n J) (hj : j < n) {u : Int32} (hu : rg u 0 9 = true) : AF y_Mo_price c_Mo_price 4 (some .int) 3 [vR 36, vI (i3 j), vI u] (M) (some (vI (J j 4))) (upM M 41 j u) := by
  have h6 := hJ.1
  refine AF.of k_Mo_price (lo := [some (vR 36), some (vI (i3 j)), some (vI u), none]) rfl (Nat.le_of_ble_eq_true rfl) (fun X hX hR => ?_)
  refine v_aload_n (pc := 0) hX rfl d_Mo_price_0 ?_
  refine v_iload_n (pc := 1) hX rfl d_Mo_price_1 ?_
  refine f_callV (pc := 2) hX k_Mo_noJar ki_Mo_noJar kv_Mo_noJar ml_Mo_170 (C_Mo_noJar hJ.1 hJ.2.1) rfl rfl rfl rfl rfl (Nat.le_of_ble_eq_true rfl) (Nat.le_of_ble_eq_true rfl) (Nat.le_of_ble_eq_true rfl) d_Mo_price_2 ?_
  rw [rg_i3 hj (by omega)]
  refine f_ifeqB (pc := 5) (tgt := 10) hX d_Mo_price_5 rfl (fun h5 => ?_) (fun h5 => False.elim (absurd h5 (by decide)))
  refine v_iload_n (pc := 10) hX rfl d_Mo_price_10 ?_
  refine v_i2l (pc := 11) hX d_Mo_price_11 ?_
  refine v_lconst (pc := 12) (v := 0) hX (by decide) d_Mo_price_12 ?_
  refine v_ldc2_w (pc := 13) hX kl_Mo_118 d_Mo_price_13 ?_
  refine f_callS (pc := 16) hX k_Mo_in ks_Mo_in ml_Mo_104 (C_Mo_in) rfl rfl rfl (Nat.le_of_ble_eq_true rfl) (Nat.le_of_ble_eq_true rfl) (Nat.le_of_ble_eq_true rfl) d_Mo_price_16 ?_
  rw [rL_rg (L := 0) (H := 9) rfl rfl]
  refine f_ifneB (pc := 19) (tgt := 25) hX d_Mo_price_19 rfl (fun h19 => ?_) (fun h19 => False.elim (by rw [hu] at h19; cases h19))
  refine v_aload_n (pc := 25) hX rfl d_Mo_price_25 ?_
  refine g_getR (pc := 26) hX fl_Mo_22 rfl rfl nf_36_6 d_Mo_price_26 ?_
  refine v_iload_n (pc := 29) hX rfl d_Mo_price_29 ?_
  refine g_iald (pc := 30) hX rfl (IX.of (n := 6) (by omega) (by decide)) d_Mo_price_30 ?_
  rw [show M 41 j = J j 4 from hJ.2.2.1 j hj 4 (by decide)]
  refine v_istore_n (pc := 31) (lo' := [some (vR _), some (vI _), some (vI _), some (vI _)]) hX (Nat.le_of_ble_eq_true rfl) rfl d_Mo_price_31 ?_
  refine v_aload_n (pc := 32) hX rfl d_Mo_price_32 ?_
  refine g_getR (pc := 33) hX fl_Mo_22 rfl rfl nf_36_6 d_Mo_price_33 ?_
  refine v_iload_n (pc := 36) hX rfl d_Mo_price_36 ?_
  refine v_iload_n (pc := 37) hX rfl d_Mo_price_37 ?_
  refine g_iast (pc := 38) hX rfl (IX.of (n := 6) (by omega) (by decide)) d_Mo_price_38 ?_
  refine v_iload_n (pc := 39) hX rfl d_Mo_price_39 ?_
  exact f_iret (pc := 40) hX hR (rfl) (rfl) d_Mo_price_40
theorem d_Mo_dread_0 : decode c_Mo_dread 0 = .ok (.aload_n 0, 1) := by decide +kernel
theorem d_Mo_dread_1 : decode c_Mo_dread 1 = .ok (.iload_n 1, 1) := by decide +kernel
theorem d_Mo_dread_2 : decode c_Mo_dread 2 = .ok (.invokevirtual 176, 3) := by decide +kernel
theorem d_Mo_dread_5 : decode c_Mo_dread 5 = .ok (.ifCond .eq 5, 3) := by decide +kernel
theorem d_Mo_dread_8 : decode c_Mo_dread 8 = .ok (.iconst (-1), 1) := by decide +kernel
theorem d_Mo_dread_9 : decode c_Mo_dread 9 = .ok (.ireturn, 1) := by decide +kernel
theorem d_Mo_dread_10 : decode c_Mo_dread 10 = .ok (.iload_n 2, 1) := by decide +kernel
theorem d_Mo_dread_11 : decode c_Mo_dread 11 = .ok (.i2l, 1) := by decide +kernel
theorem d_Mo_dread_12 : decode c_Mo_dread 12 = .ok (.lconst 0, 1) := by decide +kernel
theorem d_Mo_dread_13 : decode c_Mo_dread 13 = .ok (.ldc2_w 118, 3) := by decide +kernel
theorem d_Mo_dread_16 : decode c_Mo_dread 16 = .ok (.invokestatic 104, 3) := by decide +kernel
theorem d_Mo_dread_19 : decode c_Mo_dread 19 = .ok (.ifCond .ne 6, 3) := by decide +kernel
theorem d_Mo_dread_22 : decode c_Mo_dread 22 = .ok (.bipush (-2), 2) := by decide +kernel
theorem d_Mo_dread_24 : decode c_Mo_dread 24 = .ok (.ireturn, 1) := by decide +kernel
theorem d_Mo_dread_25 : decode c_Mo_dread 25 = .ok (.aload_n 0, 1) := by decide +kernel
theorem d_Mo_dread_26 : decode c_Mo_dread 26 = .ok (.getfield 25, 3) := by decide +kernel
theorem d_Mo_dread_29 : decode c_Mo_dread 29 = .ok (.iload_n 1, 1) := by decide +kernel
theorem d_Mo_dread_30 : decode c_Mo_dread 30 = .ok (.iaload, 1) := by decide +kernel
theorem d_Mo_dread_31 : decode c_Mo_dread 31 = .ok (.istore_n 3, 1) := by decide +kernel
theorem d_Mo_dread_32 : decode c_Mo_dread 32 = .ok (.aload_n 0, 1) := by decide +kernel
theorem d_Mo_dread_33 : decode c_Mo_dread 33 = .ok (.getfield 25, 3) := by decide +kernel
theorem d_Mo_dread_36 : decode c_Mo_dread 36 = .ok (.iload_n 1, 1) := by decide +kernel
theorem d_Mo_dread_37 : decode c_Mo_dread 37 = .ok (.iload_n 2, 1) := by decide +kernel
theorem d_Mo_dread_38 : decode c_Mo_dread 38 = .ok (.iastore, 1) := by decide +kernel
theorem d_Mo_dread_39 : decode c_Mo_dread 39 = .ok (.iload_n 3, 1) := by decide +kernel
theorem d_Mo_dread_40 : decode c_Mo_dread 40 = .ok (.ireturn, 1) := by decide +kernel
theorem C_Mo_dread_out {M : MM} {n : Nat} {B : JT} {x : Int32} (hB : MB M n B) (hx : rg x 0 ((n : Int) - 1) = false) {u : Int32} : AF y_Mo_dread c_Mo_dread 4 (some .int) 3 [vR 36, vI x, vI u] (M) (some (vI (-1))) (M) := by
  refine AF.of k_Mo_dread (lo := [some (vR 36), some (vI x), some (vI u), none]) rfl (Nat.le_of_ble_eq_true rfl) (fun X hX hR => ?_)
  refine v_aload_n (pc := 0) hX rfl d_Mo_dread_0 ?_
  refine v_iload_n (pc := 1) hX rfl d_Mo_dread_1 ?_
  refine f_callV (pc := 2) hX k_Mo_noDecider ki_Mo_noDecider kv_Mo_noDecider ml_Mo_176 (C_Mo_noDecider hB.1 hB.2.1) rfl rfl rfl rfl rfl (Nat.le_of_ble_eq_true rfl) (Nat.le_of_ble_eq_true rfl) (Nat.le_of_ble_eq_true rfl) d_Mo_dread_2 ?_
  rw [hx]
  refine f_ifeqB (pc := 5) (tgt := 10) hX d_Mo_dread_5 rfl (fun h5 => False.elim (absurd h5 (by decide))) (fun h5 => ?_)
  refine v_iconst (pc := 8) (v := (-1)) hX (by decide) d_Mo_dread_8 ?_
  exact f_iret (pc := 9) hX hR (rfl) (rfl) d_Mo_dread_9
theorem C_Mo_dread_bad {M : MM} {n j : Nat} {B : JT} (hB : MB M n B) (hj : j < n) {u : Int32} (hu : rg u 0 9 = false) : AF y_Mo_dread c_Mo_dread 4 (some .int) 3 [vR 36, vI (i3 j), vI u] (M) (some (vI (-2))) (M) := by
  have h4 := hB.1
  refine AF.of k_Mo_dread (lo := [some (vR 36), some (vI (i3 j)), some (vI u), none]) rfl (Nat.le_of_ble_eq_true rfl) (fun X hX hR => ?_)
  refine v_aload_n (pc := 0) hX rfl d_Mo_dread_0 ?_
  refine v_iload_n (pc := 1) hX rfl d_Mo_dread_1 ?_
  refine f_callV (pc := 2) hX k_Mo_noDecider ki_Mo_noDecider kv_Mo_noDecider ml_Mo_176 (C_Mo_noDecider hB.1 hB.2.1) rfl rfl rfl rfl rfl (Nat.le_of_ble_eq_true rfl) (Nat.le_of_ble_eq_true rfl) (Nat.le_of_ble_eq_true rfl) d_Mo_dread_2 ?_
  rw [rg_i3 hj (by omega)]
  refine f_ifeqB (pc := 5) (tgt := 10) hX d_Mo_dread_5 rfl (fun h5 => ?_) (fun h5 => False.elim (absurd h5 (by decide)))
  refine v_iload_n (pc := 10) hX rfl d_Mo_dread_10 ?_
  refine v_i2l (pc := 11) hX d_Mo_dread_11 ?_
  refine v_lconst (pc := 12) (v := 0) hX (by decide) d_Mo_dread_12 ?_
  refine v_ldc2_w (pc := 13) hX kl_Mo_118 d_Mo_dread_13 ?_
  refine f_callS (pc := 16) hX k_Mo_in ks_Mo_in ml_Mo_104 (C_Mo_in) rfl rfl rfl (Nat.le_of_ble_eq_true rfl) (Nat.le_of_ble_eq_true rfl) (Nat.le_of_ble_eq_true rfl) d_Mo_dread_16 ?_
  rw [rL_rg (L := 0) (H := 9) rfl rfl]
  refine f_ifneB (pc := 19) (tgt := 25) hX d_Mo_dread_19 rfl (fun h19 => False.elim (by rw [hu] at h19; cases h19)) (fun h19 => ?_)
  refine v_bipush (pc := 22) (v := (-2)) hX (by decide) d_Mo_dread_22 ?_
  exact f_iret (pc := 24) hX hR (rfl) (rfl) d_Mo_dread_24
theorem C_Mo_dread_ok {M : MM} {n j : Nat} {B : JT} (hB : MB M n B) (hj : j < n) {u : Int32} (hu : rg u 0 9 = true) : AF y_Mo_dread c_Mo_dread 4 (some .int) 3 [vR 36, vI (i3 j), vI u] (M) (some (vI (B j 0))) (upM M 42 j u) := by
  have h4 := hB.1
  refine AF.of k_Mo_dread (lo := [some (vR 36), some (vI (i3 j)), some (vI u), none]) rfl (Nat.le_of_ble_eq_true rfl) (fun X hX hR => ?_)
  refine v_aload_n (pc := 0) hX rfl d_Mo_dread_0 ?_
  refine v_iload_n (pc := 1) hX rfl d_Mo_dread_1 ?_
  refine f_callV (pc := 2) hX k_Mo_noDecider ki_Mo_noDecider kv_Mo_noDecider ml_Mo_176 (C_Mo_noDecider hB.1 hB.2.1) rfl rfl rfl rfl rfl (Nat.le_of_ble_eq_true rfl) (Nat.le_of_ble_eq_true rfl) (Nat.le_of_ble_eq_true rfl) d_Mo_dread_2 ?_
  rw [rg_i3 hj (by omega)]
  refine f_ifeqB (pc := 5) (tgt := 10) hX d_Mo_dread_5 rfl (fun h5 => ?_) (fun h5 => False.elim (absurd h5 (by decide)))
  refine v_iload_n (pc := 10) hX rfl d_Mo_dread_10 ?_
  refine v_i2l (pc := 11) hX d_Mo_dread_11 ?_
  refine v_lconst (pc := 12) (v := 0) hX (by decide) d_Mo_dread_12 ?_
  refine v_ldc2_w (pc := 13) hX kl_Mo_118 d_Mo_dread_13 ?_
  refine f_callS (pc := 16) hX k_Mo_in ks_Mo_in ml_Mo_104 (C_Mo_in) rfl rfl rfl (Nat.le_of_ble_eq_true rfl) (Nat.le_of_ble_eq_true rfl) (Nat.le_of_ble_eq_true rfl) d_Mo_dread_16 ?_
  rw [rL_rg (L := 0) (H := 9) rfl rfl]
  refine f_ifneB (pc := 19) (tgt := 25) hX d_Mo_dread_19 rfl (fun h19 => ?_) (fun h19 => False.elim (by rw [hu] at h19; cases h19))
  refine v_aload_n (pc := 25) hX rfl d_Mo_dread_25 ?_
  refine g_getR (pc := 26) hX fl_Mo_25 rfl rfl nf_36_8 d_Mo_dread_26 ?_
  refine v_iload_n (pc := 29) hX rfl d_Mo_dread_29 ?_
  refine g_iald (pc := 30) hX rfl (IX.of (n := 4) (by omega) (by decide)) d_Mo_dread_30 ?_
  rw [show M 42 j = B j 0 from hB.2.2.1 j hj 0 (by decide)]
  refine v_istore_n (pc := 31) (lo' := [some (vR _), some (vI _), some (vI _), some (vI _)]) hX (Nat.le_of_ble_eq_true rfl) rfl d_Mo_dread_31 ?_
  refine v_aload_n (pc := 32) hX rfl d_Mo_dread_32 ?_
  refine g_getR (pc := 33) hX fl_Mo_25 rfl rfl nf_36_8 d_Mo_dread_33 ?_
  refine v_iload_n (pc := 36) hX rfl d_Mo_dread_36 ?_
  refine v_iload_n (pc := 37) hX rfl d_Mo_dread_37 ?_
  refine g_iast (pc := 38) hX rfl (IX.of (n := 4) (by omega) (by decide)) d_Mo_dread_38 ?_
  refine v_iload_n (pc := 39) hX rfl d_Mo_dread_39 ?_
  exact f_iret (pc := 40) hX hR (rfl) (rfl) d_Mo_dread_40
theorem d_Mo_pay_0 : decode c_Mo_pay 0 = .ok (.aload_n 0, 1) := by decide +kernel
theorem d_Mo_pay_1 : decode c_Mo_pay 1 = .ok (.iload_n 1, 1) := by decide +kernel
theorem d_Mo_pay_2 : decode c_Mo_pay 2 = .ok (.invokevirtual 176, 3) := by decide +kernel
theorem d_Mo_pay_5 : decode c_Mo_pay 5 = .ok (.ifCond .eq 5, 3) := by decide +kernel
theorem d_Mo_pay_8 : decode c_Mo_pay 8 = .ok (.iconst (-1), 1) := by decide +kernel
theorem d_Mo_pay_9 : decode c_Mo_pay 9 = .ok (.ireturn, 1) := by decide +kernel
theorem d_Mo_pay_10 : decode c_Mo_pay 10 = .ok (.iload_n 2, 1) := by decide +kernel
theorem d_Mo_pay_11 : decode c_Mo_pay 11 = .ok (.i2l, 1) := by decide +kernel
theorem d_Mo_pay_12 : decode c_Mo_pay 12 = .ok (.lconst 0, 1) := by decide +kernel
theorem d_Mo_pay_13 : decode c_Mo_pay 13 = .ok (.ldc2_w 179, 3) := by decide +kernel
theorem d_Mo_pay_16 : decode c_Mo_pay 16 = .ok (.invokestatic 104, 3) := by decide +kernel
theorem d_Mo_pay_19 : decode c_Mo_pay 19 = .ok (.ifCond .ne 6, 3) := by decide +kernel
theorem d_Mo_pay_22 : decode c_Mo_pay 22 = .ok (.bipush (-2), 2) := by decide +kernel
theorem d_Mo_pay_24 : decode c_Mo_pay 24 = .ok (.ireturn, 1) := by decide +kernel
theorem d_Mo_pay_25 : decode c_Mo_pay 25 = .ok (.aload_n 0, 1) := by decide +kernel
theorem d_Mo_pay_26 : decode c_Mo_pay 26 = .ok (.getfield 31, 3) := by decide +kernel
theorem d_Mo_pay_29 : decode c_Mo_pay 29 = .ok (.iload_n 1, 1) := by decide +kernel
theorem d_Mo_pay_30 : decode c_Mo_pay 30 = .ok (.iaload, 1) := by decide +kernel
theorem d_Mo_pay_31 : decode c_Mo_pay 31 = .ok (.istore_n 3, 1) := by decide +kernel
theorem d_Mo_pay_32 : decode c_Mo_pay 32 = .ok (.aload_n 0, 1) := by decide +kernel
theorem d_Mo_pay_33 : decode c_Mo_pay 33 = .ok (.getfield 31, 3) := by decide +kernel
theorem d_Mo_pay_36 : decode c_Mo_pay 36 = .ok (.iload_n 1, 1) := by decide +kernel
theorem d_Mo_pay_37 : decode c_Mo_pay 37 = .ok (.iload_n 2, 1) := by decide +kernel
theorem d_Mo_pay_38 : decode c_Mo_pay 38 = .ok (.iastore, 1) := by decide +kernel
theorem d_Mo_pay_39 : decode c_Mo_pay 39 = .ok (.iload_n 3, 1) := by decide +kernel
theorem d_Mo_pay_40 : decode c_Mo_pay 40 = .ok (.ireturn, 1) := by decide +kernel
theorem C_Mo_pay_out {M : MM} {n : Nat} {B : JT} {x : Int32} (hB : MB M n B) (hx : rg x 0 ((n : Int) - 1) = false) {u : Int32} : AF y_Mo_pay c_Mo_pay 4 (some .int) 3 [vR 36, vI x, vI u] (M) (some (vI (-1))) (M) := by
  refine AF.of k_Mo_pay (lo := [some (vR 36), some (vI x), some (vI u), none]) rfl (Nat.le_of_ble_eq_true rfl) (fun X hX hR => ?_)
  refine v_aload_n (pc := 0) hX rfl d_Mo_pay_0 ?_
  refine v_iload_n (pc := 1) hX rfl d_Mo_pay_1 ?_
  refine f_callV (pc := 2) hX k_Mo_noDecider ki_Mo_noDecider kv_Mo_noDecider ml_Mo_176 (C_Mo_noDecider hB.1 hB.2.1) rfl rfl rfl rfl rfl (Nat.le_of_ble_eq_true rfl) (Nat.le_of_ble_eq_true rfl) (Nat.le_of_ble_eq_true rfl) d_Mo_pay_2 ?_
  rw [hx]
  refine f_ifeqB (pc := 5) (tgt := 10) hX d_Mo_pay_5 rfl (fun h5 => False.elim (absurd h5 (by decide))) (fun h5 => ?_)
  refine v_iconst (pc := 8) (v := (-1)) hX (by decide) d_Mo_pay_8 ?_
  exact f_iret (pc := 9) hX hR (rfl) (rfl) d_Mo_pay_9
theorem C_Mo_pay_bad {M : MM} {n j : Nat} {B : JT} (hB : MB M n B) (hj : j < n) {u : Int32} (hu : rg u 0 99 = false) : AF y_Mo_pay c_Mo_pay 4 (some .int) 3 [vR 36, vI (i3 j), vI u] (M) (some (vI (-2))) (M) := by
  have h4 := hB.1
  refine AF.of k_Mo_pay (lo := [some (vR 36), some (vI (i3 j)), some (vI u), none]) rfl (Nat.le_of_ble_eq_true rfl) (fun X hX hR => ?_)
  refine v_aload_n (pc := 0) hX rfl d_Mo_pay_0 ?_
  refine v_iload_n (pc := 1) hX rfl d_Mo_pay_1 ?_
  refine f_callV (pc := 2) hX k_Mo_noDecider ki_Mo_noDecider kv_Mo_noDecider ml_Mo_176 (C_Mo_noDecider hB.1 hB.2.1) rfl rfl rfl rfl rfl (Nat.le_of_ble_eq_true rfl) (Nat.le_of_ble_eq_true rfl) (Nat.le_of_ble_eq_true rfl) d_Mo_pay_2 ?_
  rw [rg_i3 hj (by omega)]
  refine f_ifeqB (pc := 5) (tgt := 10) hX d_Mo_pay_5 rfl (fun h5 => ?_) (fun h5 => False.elim (absurd h5 (by decide)))
  refine v_iload_n (pc := 10) hX rfl d_Mo_pay_10 ?_
  refine v_i2l (pc := 11) hX d_Mo_pay_11 ?_
  refine v_lconst (pc := 12) (v := 0) hX (by decide) d_Mo_pay_12 ?_
  refine v_ldc2_w (pc := 13) hX kl_Mo_179 d_Mo_pay_13 ?_
  refine f_callS (pc := 16) hX k_Mo_in ks_Mo_in ml_Mo_104 (C_Mo_in) rfl rfl rfl (Nat.le_of_ble_eq_true rfl) (Nat.le_of_ble_eq_true rfl) (Nat.le_of_ble_eq_true rfl) d_Mo_pay_16 ?_
  rw [rL_rg (L := 0) (H := 99) rfl rfl]
  refine f_ifneB (pc := 19) (tgt := 25) hX d_Mo_pay_19 rfl (fun h19 => False.elim (by rw [hu] at h19; cases h19)) (fun h19 => ?_)
  refine v_bipush (pc := 22) (v := (-2)) hX (by decide) d_Mo_pay_22 ?_
  exact f_iret (pc := 24) hX hR (rfl) (rfl) d_Mo_pay_24
theorem C_Mo_pay_ok {M : MM} {n j : Nat} {B : JT} (hB : MB M n B) (hj : j < n) {u : Int32} (hu : rg u 0 99 = true) : AF y_Mo_pay c_Mo_pay 4 (some .int) 3 [vR 36, vI (i3 j), vI u] (M) (some (vI (B j 2))) (upM M 44 j u) := by
  have h4 := hB.1
  refine AF.of k_Mo_pay (lo := [some (vR 36), some (vI (i3 j)), some (vI u), none]) rfl (Nat.le_of_ble_eq_true rfl) (fun X hX hR => ?_)
  refine v_aload_n (pc := 0) hX rfl d_Mo_pay_0 ?_
  refine v_iload_n (pc := 1) hX rfl d_Mo_pay_1 ?_
  refine f_callV (pc := 2) hX k_Mo_noDecider ki_Mo_noDecider kv_Mo_noDecider ml_Mo_176 (C_Mo_noDecider hB.1 hB.2.1) rfl rfl rfl rfl rfl (Nat.le_of_ble_eq_true rfl) (Nat.le_of_ble_eq_true rfl) (Nat.le_of_ble_eq_true rfl) d_Mo_pay_2 ?_
  rw [rg_i3 hj (by omega)]
  refine f_ifeqB (pc := 5) (tgt := 10) hX d_Mo_pay_5 rfl (fun h5 => ?_) (fun h5 => False.elim (absurd h5 (by decide)))
  refine v_iload_n (pc := 10) hX rfl d_Mo_pay_10 ?_
  refine v_i2l (pc := 11) hX d_Mo_pay_11 ?_
  refine v_lconst (pc := 12) (v := 0) hX (by decide) d_Mo_pay_12 ?_
  refine v_ldc2_w (pc := 13) hX kl_Mo_179 d_Mo_pay_13 ?_
  refine f_callS (pc := 16) hX k_Mo_in ks_Mo_in ml_Mo_104 (C_Mo_in) rfl rfl rfl (Nat.le_of_ble_eq_true rfl) (Nat.le_of_ble_eq_true rfl) (Nat.le_of_ble_eq_true rfl) d_Mo_pay_16 ?_
  rw [rL_rg (L := 0) (H := 99) rfl rfl]
  refine f_ifneB (pc := 19) (tgt := 25) hX d_Mo_pay_19 rfl (fun h19 => ?_) (fun h19 => False.elim (by rw [hu] at h19; cases h19))
  refine v_aload_n (pc := 25) hX rfl d_Mo_pay_25 ?_
  refine g_getR (pc := 26) hX fl_Mo_31 rfl rfl nf_36_10 d_Mo_pay_26 ?_
  refine v_iload_n (pc := 29) hX rfl d_Mo_pay_29 ?_
  refine g_iald (pc := 30) hX rfl (IX.of (n := 4) (by omega) (by decide)) d_Mo_pay_30 ?_
  rw [show M 44 j = B j 2 from hB.2.2.1 j hj 2 (by decide)]
  refine v_istore_n (pc := 31) (lo' := [some (vR _), some (vI _), some (vI _), some (vI _)]) hX (Nat.le_of_ble_eq_true rfl) rfl d_Mo_pay_31 ?_
  refine v_aload_n (pc := 32) hX rfl d_Mo_pay_32 ?_
  refine g_getR (pc := 33) hX fl_Mo_31 rfl rfl nf_36_10 d_Mo_pay_33 ?_
  refine v_iload_n (pc := 36) hX rfl d_Mo_pay_36 ?_
  refine v_iload_n (pc := 37) hX rfl d_Mo_pay_37 ?_
  refine g_iast (pc := 38) hX rfl (IX.of (n := 4) (by omega) (by decide)) d_Mo_pay_38 ?_
  refine v_iload_n (pc := 39) hX rfl d_Mo_pay_39 ?_
  exact f_iret (pc := 40) hX hR (rfl) (rfl) d_Mo_pay_40
theorem d_Mo_mark_0 : decode c_Mo_mark 0 = .ok (.aload_n 0, 1) := by decide +kernel
theorem d_Mo_mark_1 : decode c_Mo_mark 1 = .ok (.iload_n 1, 1) := by decide +kernel
theorem d_Mo_mark_2 : decode c_Mo_mark 2 = .ok (.invokevirtual 170, 3) := by decide +kernel
theorem d_Mo_mark_5 : decode c_Mo_mark 5 = .ok (.ifCond .eq 5, 3) := by decide +kernel
theorem d_Mo_mark_8 : decode c_Mo_mark 8 = .ok (.iconst (-1), 1) := by decide +kernel
theorem d_Mo_mark_9 : decode c_Mo_mark 9 = .ok (.ireturn, 1) := by decide +kernel
theorem d_Mo_mark_10 : decode c_Mo_mark 10 = .ok (.iload_n 2, 1) := by decide +kernel
theorem d_Mo_mark_11 : decode c_Mo_mark 11 = .ok (.i2l, 1) := by decide +kernel
theorem d_Mo_mark_12 : decode c_Mo_mark 12 = .ok (.lconst 0, 1) := by decide +kernel
theorem d_Mo_mark_13 : decode c_Mo_mark 13 = .ok (.ldc2_w 118, 3) := by decide +kernel
theorem d_Mo_mark_16 : decode c_Mo_mark 16 = .ok (.invokestatic 104, 3) := by decide +kernel
theorem d_Mo_mark_19 : decode c_Mo_mark 19 = .ok (.ifCond .eq 12, 3) := by decide +kernel
theorem d_Mo_mark_22 : decode c_Mo_mark 22 = .ok (.aload_n 0, 1) := by decide +kernel
theorem d_Mo_mark_23 : decode c_Mo_mark 23 = .ok (.iload_n 1, 1) := by decide +kernel
theorem d_Mo_mark_24 : decode c_Mo_mark 24 = .ok (.iload_n 2, 1) := by decide +kernel
theorem d_Mo_mark_25 : decode c_Mo_mark 25 = .ok (.invokevirtual 167, 3) := by decide +kernel
theorem d_Mo_mark_28 : decode c_Mo_mark 28 = .ok (.goto 5, 3) := by decide +kernel
theorem d_Mo_mark_31 : decode c_Mo_mark 31 = .ok (.bipush (-2), 2) := by decide +kernel
theorem d_Mo_mark_33 : decode c_Mo_mark 33 = .ok (.ireturn, 1) := by decide +kernel
theorem C_Mo_mark_out {M : MM} {n : Nat} {J : JT} {x : Int32} (hJ : MJ M n J) (hx : rg x 0 ((n : Int) - 1) = false) {u : Int32} : AF y_Mo_mark c_Mo_mark 3 (some .int) 3 [vR 36, vI x, vI u] (M) (some (vI (-1))) (M) := by
  refine AF.of k_Mo_mark (lo := [some (vR 36), some (vI x), some (vI u)]) rfl (Nat.le_of_ble_eq_true rfl) (fun X hX hR => ?_)
  refine v_aload_n (pc := 0) hX rfl d_Mo_mark_0 ?_
  refine v_iload_n (pc := 1) hX rfl d_Mo_mark_1 ?_
  refine f_callV (pc := 2) hX k_Mo_noJar ki_Mo_noJar kv_Mo_noJar ml_Mo_170 (C_Mo_noJar hJ.1 hJ.2.1) rfl rfl rfl rfl rfl (Nat.le_of_ble_eq_true rfl) (Nat.le_of_ble_eq_true rfl) (Nat.le_of_ble_eq_true rfl) d_Mo_mark_2 ?_
  rw [hx]
  refine f_ifeqB (pc := 5) (tgt := 10) hX d_Mo_mark_5 rfl (fun h5 => False.elim (absurd h5 (by decide))) (fun h5 => ?_)
  refine v_iconst (pc := 8) (v := (-1)) hX (by decide) d_Mo_mark_8 ?_
  exact f_iret (pc := 9) hX hR (rfl) (rfl) d_Mo_mark_9
theorem C_Mo_mark_bad {M : MM} {n j : Nat} {J : JT} (hJ : MJ M n J) (hj : j < n) {u : Int32} (hu : rg u 0 9 = false) : AF y_Mo_mark c_Mo_mark 3 (some .int) 3 [vR 36, vI (i3 j), vI u] (M) (some (vI (-2))) (M) := by
  have h6 := hJ.1
  refine AF.of k_Mo_mark (lo := [some (vR 36), some (vI (i3 j)), some (vI u)]) rfl (Nat.le_of_ble_eq_true rfl) (fun X hX hR => ?_)
  refine v_aload_n (pc := 0) hX rfl d_Mo_mark_0 ?_
  refine v_iload_n (pc := 1) hX rfl d_Mo_mark_1 ?_
  refine f_callV (pc := 2) hX k_Mo_noJar ki_Mo_noJar kv_Mo_noJar ml_Mo_170 (C_Mo_noJar hJ.1 hJ.2.1) rfl rfl rfl rfl rfl (Nat.le_of_ble_eq_true rfl) (Nat.le_of_ble_eq_true rfl) (Nat.le_of_ble_eq_true rfl) d_Mo_mark_2 ?_
  rw [rg_i3 hj (by omega)]
  refine f_ifeqB (pc := 5) (tgt := 10) hX d_Mo_mark_5 rfl (fun h5 => ?_) (fun h5 => False.elim (absurd h5 (by decide)))
  refine v_iload_n (pc := 10) hX rfl d_Mo_mark_10 ?_
  refine v_i2l (pc := 11) hX d_Mo_mark_11 ?_
  refine v_lconst (pc := 12) (v := 0) hX (by decide) d_Mo_mark_12 ?_
  refine v_ldc2_w (pc := 13) hX kl_Mo_118 d_Mo_mark_13 ?_
  refine f_callS (pc := 16) hX k_Mo_in ks_Mo_in ml_Mo_104 (C_Mo_in) rfl rfl rfl (Nat.le_of_ble_eq_true rfl) (Nat.le_of_ble_eq_true rfl) (Nat.le_of_ble_eq_true rfl) d_Mo_mark_16 ?_
  rw [rL_rg (L := 0) (H := 9) rfl rfl]
  refine f_ifeqB (pc := 19) (tgt := 31) hX d_Mo_mark_19 rfl (fun h19 => ?_) (fun h19 => False.elim (by rw [hu] at h19; cases h19))
  refine v_bipush (pc := 31) (v := (-2)) hX (by decide) d_Mo_mark_31 ?_
  exact f_iret (pc := 33) hX hR (rfl) (rfl) d_Mo_mark_33
theorem C_Mo_mark_ok {M : MM} {n j : Nat} {J : JT} (hJ : MJ M n J) (hj : j < n) {u : Int32} (hu : rg u 0 9 = true) : AF y_Mo_mark c_Mo_mark 3 (some .int) 3 [vR 36, vI (i3 j), vI u] (M) (some (vI (mk J j u))) (M) := by
  have h6 := hJ.1
  refine AF.of k_Mo_mark (lo := [some (vR 36), some (vI (i3 j)), some (vI u)]) rfl (Nat.le_of_ble_eq_true rfl) (fun X hX hR => ?_)
  refine v_aload_n (pc := 0) hX rfl d_Mo_mark_0 ?_
  refine v_iload_n (pc := 1) hX rfl d_Mo_mark_1 ?_
  refine f_callV (pc := 2) hX k_Mo_noJar ki_Mo_noJar kv_Mo_noJar ml_Mo_170 (C_Mo_noJar hJ.1 hJ.2.1) rfl rfl rfl rfl rfl (Nat.le_of_ble_eq_true rfl) (Nat.le_of_ble_eq_true rfl) (Nat.le_of_ble_eq_true rfl) d_Mo_mark_2 ?_
  rw [rg_i3 hj (by omega)]
  refine f_ifeqB (pc := 5) (tgt := 10) hX d_Mo_mark_5 rfl (fun h5 => ?_) (fun h5 => False.elim (absurd h5 (by decide)))
  refine v_iload_n (pc := 10) hX rfl d_Mo_mark_10 ?_
  refine v_i2l (pc := 11) hX d_Mo_mark_11 ?_
  refine v_lconst (pc := 12) (v := 0) hX (by decide) d_Mo_mark_12 ?_
  refine v_ldc2_w (pc := 13) hX kl_Mo_118 d_Mo_mark_13 ?_
  refine f_callS (pc := 16) hX k_Mo_in ks_Mo_in ml_Mo_104 (C_Mo_in) rfl rfl rfl (Nat.le_of_ble_eq_true rfl) (Nat.le_of_ble_eq_true rfl) (Nat.le_of_ble_eq_true rfl) d_Mo_mark_16 ?_
  rw [rL_rg (L := 0) (H := 9) rfl rfl]
  refine f_ifeqB (pc := 19) (tgt := 31) hX d_Mo_mark_19 rfl (fun h19 => False.elim (by rw [hu] at h19; cases h19)) (fun h19 => ?_)
  refine v_aload_n (pc := 22) hX rfl d_Mo_mark_22 ?_
  refine v_iload_n (pc := 23) hX rfl d_Mo_mark_23 ?_
  refine v_iload_n (pc := 24) hX rfl d_Mo_mark_24 ?_
  refine f_callV (pc := 25) hX k_Mo_markOf ki_Mo_markOf kv_Mo_markOf ml_Mo_167 (C_Mo_markOf hJ hj (rg_nn hu)) rfl rfl rfl rfl rfl (Nat.le_of_ble_eq_true rfl) (Nat.le_of_ble_eq_true rfl) (Nat.le_of_ble_eq_true rfl) d_Mo_mark_25 ?_
  refine v_goto (pc := 28) (tgt := 33) hX d_Mo_mark_28 rfl ?_
  exact f_iret (pc := 33) hX hR (rfl) (rfl) d_Mo_mark_33
theorem d_Mo_blendOf_0 : decode c_Mo_blendOf 0 = .ok (.iconst 0, 1) := by decide +kernel
theorem d_Mo_blendOf_1 : decode c_Mo_blendOf 1 = .ok (.istore_n 3, 1) := by decide +kernel
theorem d_Mo_blendOf_2 : decode c_Mo_blendOf 2 = .ok (.iconst 0, 1) := by decide +kernel
theorem d_Mo_blendOf_3 : decode c_Mo_blendOf 3 = .ok (.istore 4, 2) := by decide +kernel
theorem d_Mo_blendOf_5 : decode c_Mo_blendOf 5 = .ok (.iload 4, 2) := by decide +kernel
theorem d_Mo_blendOf_7 : decode c_Mo_blendOf 7 = .ok (.aload_n 0, 1) := by decide +kernel
theorem d_Mo_blendOf_8 : decode c_Mo_blendOf 8 = .ok (.getfield 101, 3) := by decide +kernel
theorem d_Mo_blendOf_11 : decode c_Mo_blendOf 11 = .ok (.if_icmp .ge 32, 3) := by decide +kernel
theorem d_Mo_blendOf_14 : decode c_Mo_blendOf 14 = .ok (.iload_n 3, 1) := by decide +kernel
theorem d_Mo_blendOf_15 : decode c_Mo_blendOf 15 = .ok (.iload_n 1, 1) := by decide +kernel
theorem d_Mo_blendOf_16 : decode c_Mo_blendOf 16 = .ok (.iload 4, 2) := by decide +kernel
theorem d_Mo_blendOf_18 : decode c_Mo_blendOf 18 = .ok (.invokestatic 181, 3) := by decide +kernel
theorem d_Mo_blendOf_21 : decode c_Mo_blendOf 21 = .ok (.ifCond .eq 13, 3) := by decide +kernel
theorem d_Mo_blendOf_24 : decode c_Mo_blendOf 24 = .ok (.aload_n 0, 1) := by decide +kernel
theorem d_Mo_blendOf_25 : decode c_Mo_blendOf 25 = .ok (.iload 4, 2) := by decide +kernel
theorem d_Mo_blendOf_27 : decode c_Mo_blendOf 27 = .ok (.iload_n 2, 1) := by decide +kernel
theorem d_Mo_blendOf_28 : decode c_Mo_blendOf 28 = .ok (.invokevirtual 167, 3) := by decide +kernel
theorem d_Mo_blendOf_31 : decode c_Mo_blendOf 31 = .ok (.goto 4, 3) := by decide +kernel
theorem d_Mo_blendOf_34 : decode c_Mo_blendOf 34 = .ok (.iconst 0, 1) := by decide +kernel
theorem d_Mo_blendOf_35 : decode c_Mo_blendOf 35 = .ok (.iadd, 1) := by decide +kernel
theorem d_Mo_blendOf_36 : decode c_Mo_blendOf 36 = .ok (.istore_n 3, 1) := by decide +kernel
theorem d_Mo_blendOf_37 : decode c_Mo_blendOf 37 = .ok (.iinc 4 1, 3) := by decide +kernel
theorem d_Mo_blendOf_40 : decode c_Mo_blendOf 40 = .ok (.goto (-35), 3) := by decide +kernel
theorem d_Mo_blendOf_43 : decode c_Mo_blendOf 43 = .ok (.iload_n 3, 1) := by decide +kernel
theorem d_Mo_blendOf_44 : decode c_Mo_blendOf 44 = .ok (.iload_n 1, 1) := by decide +kernel
theorem d_Mo_blendOf_45 : decode c_Mo_blendOf 45 = .ok (.invokestatic 184, 3) := by decide +kernel
theorem d_Mo_blendOf_48 : decode c_Mo_blendOf 48 = .ok (.idiv, 1) := by decide +kernel
theorem d_Mo_blendOf_49 : decode c_Mo_blendOf 49 = .ok (.ireturn, 1) := by decide +kernel
theorem C_Mo_blendOf {M : MM} {n s : Nat} {J : JT} {t : Int32} (hJ : MJ M n J) (hs0 : 0 < s) (hs : s < 2 ^ n) (ht : 0 ≤ t) : AF y_Mo_blendOf c_Mo_blendOf 5 (some .int) 3 [vR 36, vI (i3 s), vI t] (M) (some (vI (blN J n s t))) (M) := by
  have h6 := hJ.1
  have hM := hJ.2.1
  have hp := pow6 h6
  have hs6 : s < 64 := by omega
  have hpn := pop_n n (by omega) s hs6 hs
  have hpp := pop_pos s hs6 (by omega)
  refine AF.of k_Mo_blendOf (lo := [some (vR 36), some (vI (i3 s)), some (vI t), none, none]) rfl (Nat.le_of_ble_eq_true rfl) (fun X hX hR => ?_)
  refine v_iconst (pc := 0) (v := 0) hX (by decide) d_Mo_blendOf_0 ?_
  refine v_istore_n (pc := 1) (lo' := [some (vR _), some (vI _), some (vI _), some (vI _), none]) hX (Nat.le_of_ble_eq_true rfl) rfl d_Mo_blendOf_1 ?_
  refine v_iconst (pc := 2) (v := 0) hX (by decide) d_Mo_blendOf_2 ?_
  refine v_istore (pc := 3) (lo' := [some (vR _), some (vI _), some (vI _), some (vI _), some (vI _)]) hX (Nat.le_of_ble_eq_true rfl) rfl d_Mo_blendOf_3 ?_
  refine VW.cast (lo' := [some (vR 36), some (vI (i3 s)), some (vI t), some (vI (sumB J s t 0)), some (vI (i3 0))]) (st' := []) (G' := gM (M)) rfl rfl rfl ?_
  refine v_for (X := X) (head := 5) (n) (fun kk => [some (vR 36), some (vI (i3 s)), some (vI t), some (vI (sumB J s t kk)), some (vI (i3 kk))]) (fun kk => M) (fun k hk ih5 => ?_) ?_
  · show VW X 5 [some (vR 36), some (vI (i3 s)), some (vI t), some (vI (sumB J s t k)), some (vI (i3 k))] [] (gM (M))
    refine v_iload (pc := 5) hX rfl d_Mo_blendOf_5 ?_
    refine v_aload_n (pc := 7) hX rfl d_Mo_blendOf_7 ?_
    refine g_getI (pc := 8) hX fl_Mo_101 rfl rfl d_Mo_blendOf_8 ?_
    refine v_icmp_ge (pc := 11) (tgt := 43) hX d_Mo_blendOf_11 rfl (fun h11 => False.elim (i3_ge_abs hk (by omega) (by rw [← hM]; exact h11))) (fun h11 => ?_)
    refine v_iload_n (pc := 14) hX rfl d_Mo_blendOf_14 ?_
    refine v_iload_n (pc := 15) hX rfl d_Mo_blendOf_15 ?_
    refine v_iload (pc := 16) hX rfl d_Mo_blendOf_16 ?_
    refine f_callS (pc := 18) hX k_Mo_isIn ks_Mo_isIn ml_Mo_181 (C_Mo_isIn (by omega) (by omega)) rfl rfl rfl (Nat.le_of_ble_eq_true rfl) (Nat.le_of_ble_eq_true rfl) (Nat.le_of_ble_eq_true rfl) d_Mo_blendOf_18 ?_
    refine f_ifeqB (pc := 21) (tgt := 34) hX d_Mo_blendOf_21 rfl (fun h21 => ?_) (fun h21 => ?_)
    · have e : sumB J s t (k + 1) = sumB J s t k := by simp [sumB, fsum, of_decide_eq_false h21]
      refine v_iconst (pc := 34) (v := 0) hX (by decide) d_Mo_blendOf_34 ?_
      refine v_iadd (pc := 35) hX d_Mo_blendOf_35 ?_
      refine v_istore_n (pc := 36) (lo' := [some (vR _), some (vI _), some (vI _), some (vI _), some (vI _)]) hX (Nat.le_of_ble_eq_true rfl) rfl d_Mo_blendOf_36 ?_
      refine v_iinc (pc := 37) (lo' := [some (vR _), some (vI _), some (vI _), some (vI _), some (vI _)]) hX rfl rfl d_Mo_blendOf_37 ?_
      refine v_goto (pc := 40) (tgt := 5) hX d_Mo_blendOf_40 rfl ?_
      exact VW.cast (by first | (rw [e, i3_succ, Int32.add_zero]; rfl) | (rw [e, i3_succ]; rfl)) rfl rfl ih5
    · have e : sumB J s t (k + 1) = sumB J s t k + mk J k t := by simp [sumB, fsum, of_decide_eq_true h21]
      refine v_aload_n (pc := 24) hX rfl d_Mo_blendOf_24 ?_
      refine v_iload (pc := 25) hX rfl d_Mo_blendOf_25 ?_
      refine v_iload_n (pc := 27) hX rfl d_Mo_blendOf_27 ?_
      refine f_callV (pc := 28) hX k_Mo_markOf ki_Mo_markOf kv_Mo_markOf ml_Mo_167 (C_Mo_markOf hJ (by assumption) ht) rfl rfl rfl rfl rfl (Nat.le_of_ble_eq_true rfl) (Nat.le_of_ble_eq_true rfl) (Nat.le_of_ble_eq_true rfl) d_Mo_blendOf_28 ?_
      refine v_goto (pc := 31) (tgt := 35) hX d_Mo_blendOf_31 rfl ?_
      refine v_iadd (pc := 35) hX d_Mo_blendOf_35 ?_
      refine v_istore_n (pc := 36) (lo' := [some (vR _), some (vI _), some (vI _), some (vI _), some (vI _)]) hX (Nat.le_of_ble_eq_true rfl) rfl d_Mo_blendOf_36 ?_
      refine v_iinc (pc := 37) (lo' := [some (vR _), some (vI _), some (vI _), some (vI _), some (vI _)]) hX rfl rfl d_Mo_blendOf_37 ?_
      refine v_goto (pc := 40) (tgt := 5) hX d_Mo_blendOf_40 rfl ?_
      exact VW.cast (by first | (rw [e, i3_succ, Int32.add_zero]; rfl) | (rw [e, i3_succ]; rfl)) rfl rfl ih5
  · show VW X 5 [some (vR 36), some (vI (i3 s)), some (vI t), some (vI (sumB J s t (n))), some (vI (i3 (n)))] [] (gM (M))
    refine v_iload (pc := 5) hX rfl d_Mo_blendOf_5 ?_
    refine v_aload_n (pc := 7) hX rfl d_Mo_blendOf_7 ?_
    refine g_getI (pc := 8) hX fl_Mo_101 rfl rfl d_Mo_blendOf_8 ?_
    refine v_icmp_ge (pc := 11) (tgt := 43) hX d_Mo_blendOf_11 rfl (fun h11 => ?_) (fun h11 => False.elim (absurd (by rw [hM]; exact Int32.le_refl _) h11))
    refine v_iload_n (pc := 43) hX rfl d_Mo_blendOf_43 ?_
    refine v_iload_n (pc := 44) hX rfl d_Mo_blendOf_44 ?_
    refine f_callS (pc := 45) hX k_Mo_bits ks_Mo_bits ml_Mo_184 (C_Mo_bits (by omega)) rfl rfl rfl (Nat.le_of_ble_eq_true rfl) (Nat.le_of_ble_eq_true rfl) (Nat.le_of_ble_eq_true rfl) d_Mo_blendOf_45 ?_
    refine v_idiv (pc := 48) hX (i3_ne0 hpp (by have := pop_le s 6; omega)) d_Mo_blendOf_48 ?_
    exact f_iret (pc := 49) hX hR (by unfold blN; rw [hpn, if_neg hpp]) (rfl) d_Mo_blendOf_49
theorem d_Mo_blend_0 : decode c_Mo_blend 0 = .ok (.aload_n 0, 1) := by decide +kernel
theorem d_Mo_blend_1 : decode c_Mo_blend 1 = .ok (.getfield 101, 3) := by decide +kernel
theorem d_Mo_blend_4 : decode c_Mo_blend 4 = .ok (.ifCond .ne 6, 3) := by decide +kernel
theorem d_Mo_blend_7 : decode c_Mo_blend 7 = .ok (.bipush (-3), 2) := by decide +kernel
theorem d_Mo_blend_9 : decode c_Mo_blend 9 = .ok (.ireturn, 1) := by decide +kernel
theorem d_Mo_blend_10 : decode c_Mo_blend 10 = .ok (.aload_n 0, 1) := by decide +kernel
theorem d_Mo_blend_11 : decode c_Mo_blend 11 = .ok (.iload_n 1, 1) := by decide +kernel
theorem d_Mo_blend_12 : decode c_Mo_blend 12 = .ok (.invokevirtual 187, 3) := by decide +kernel
theorem d_Mo_blend_15 : decode c_Mo_blend 15 = .ok (.ifCond .ne 15, 3) := by decide +kernel
theorem d_Mo_blend_18 : decode c_Mo_blend 18 = .ok (.iload_n 2, 1) := by decide +kernel
theorem d_Mo_blend_19 : decode c_Mo_blend 19 = .ok (.i2l, 1) := by decide +kernel
theorem d_Mo_blend_20 : decode c_Mo_blend 20 = .ok (.lconst 0, 1) := by decide +kernel
theorem d_Mo_blend_21 : decode c_Mo_blend 21 = .ok (.ldc2_w 118, 3) := by decide +kernel
theorem d_Mo_blend_24 : decode c_Mo_blend 24 = .ok (.invokestatic 104, 3) := by decide +kernel
theorem d_Mo_blend_27 : decode c_Mo_blend 27 = .ok (.ifCond .ne 8, 3) := by decide +kernel
theorem d_Mo_blend_30 : decode c_Mo_blend 30 = .ok (.bipush (-2), 2) := by decide +kernel
theorem d_Mo_blend_32 : decode c_Mo_blend 32 = .ok (.goto 9, 3) := by decide +kernel
theorem d_Mo_blend_35 : decode c_Mo_blend 35 = .ok (.aload_n 0, 1) := by decide +kernel
theorem d_Mo_blend_36 : decode c_Mo_blend 36 = .ok (.iload_n 1, 1) := by decide +kernel
theorem d_Mo_blend_37 : decode c_Mo_blend 37 = .ok (.iload_n 2, 1) := by decide +kernel
theorem d_Mo_blend_38 : decode c_Mo_blend 38 = .ok (.invokevirtual 190, 3) := by decide +kernel
theorem d_Mo_blend_41 : decode c_Mo_blend 41 = .ok (.ireturn, 1) := by decide +kernel
theorem C_Mo_blend_no {M : MM} {n : Nat} {J : JT} (hJ : MJ M n J) {x u : Int32} (h0 : n = 0) : AF y_Mo_blend c_Mo_blend 3 (some .int) 4 [vR 36, vI x, vI u] (M) (some (vI (-3))) (M) := by
  have h6 := hJ.1
  have hM := hJ.2.1
  refine AF.of k_Mo_blend (lo := [some (vR 36), some (vI x), some (vI u)]) rfl (Nat.le_of_ble_eq_true rfl) (fun X hX hR => ?_)
  refine v_aload_n (pc := 0) hX rfl d_Mo_blend_0 ?_
  refine g_getI (pc := 1) hX fl_Mo_101 rfl rfl d_Mo_blend_1 ?_
  rw [hM]
  refine v_if_ne (pc := 4) (tgt := 10) hX d_Mo_blend_4 rfl (fun h4 => False.elim (h4 (by rw [h0]; rfl))) (fun h4 => ?_)
  refine v_bipush (pc := 7) (v := (-3)) hX (by decide) d_Mo_blend_7 ?_
  exact f_iret (pc := 9) hX hR (rfl) (rfl) d_Mo_blend_9
theorem C_Mo_blend_bad {M : MM} {n : Nat} {J : JT} (hJ : MJ M n J) {x u : Int32} (h0 : ¬ n = 0) (hb : (rg x 1 ((2 ^ n : Nat) - 1) && rg u 0 9) = false) : AF y_Mo_blend c_Mo_blend 3 (some .int) 4 [vR 36, vI x, vI u] (M) (some (vI (-2))) (M) := by
  have h6 := hJ.1
  have hM := hJ.2.1
  refine AF.of k_Mo_blend (lo := [some (vR 36), some (vI x), some (vI u)]) rfl (Nat.le_of_ble_eq_true rfl) (fun X hX hR => ?_)
  refine v_aload_n (pc := 0) hX rfl d_Mo_blend_0 ?_
  refine g_getI (pc := 1) hX fl_Mo_101 rfl rfl d_Mo_blend_1 ?_
  rw [hM]
  refine v_if_ne (pc := 4) (tgt := 10) hX d_Mo_blend_4 rfl (fun h4 => ?_) (fun h4 => False.elim (i3_ne0 h0 (by omega) h4))
  refine v_aload_n (pc := 10) hX rfl d_Mo_blend_10 ?_
  refine v_iload_n (pc := 11) hX rfl d_Mo_blend_11 ?_
  refine f_callV (pc := 12) hX k_Mo_noBlend ki_Mo_noBlend kv_Mo_noBlend ml_Mo_187 (C_Mo_noBlend hJ.1 hJ.2.1) rfl rfl rfl rfl rfl (Nat.le_of_ble_eq_true rfl) (Nat.le_of_ble_eq_true rfl) (Nat.le_of_ble_eq_true rfl) d_Mo_blend_12 ?_
  refine f_ifneB (pc := 15) (tgt := 30) hX d_Mo_blend_15 rfl (fun h15 => ?_) (fun h15 => ?_)
  · refine v_bipush (pc := 30) (v := (-2)) hX (by decide) d_Mo_blend_30 ?_
    refine v_goto (pc := 32) (tgt := 41) hX d_Mo_blend_32 rfl ?_
    exact f_iret (pc := 41) hX hR (rfl) (rfl) d_Mo_blend_41
  · refine v_iload_n (pc := 18) hX rfl d_Mo_blend_18 ?_
    refine v_i2l (pc := 19) hX d_Mo_blend_19 ?_
    refine v_lconst (pc := 20) (v := 0) hX (by decide) d_Mo_blend_20 ?_
    refine v_ldc2_w (pc := 21) hX kl_Mo_118 d_Mo_blend_21 ?_
    refine f_callS (pc := 24) hX k_Mo_in ks_Mo_in ml_Mo_104 (C_Mo_in) rfl rfl rfl (Nat.le_of_ble_eq_true rfl) (Nat.le_of_ble_eq_true rfl) (Nat.le_of_ble_eq_true rfl) d_Mo_blend_24 ?_
    rw [rL_rg (L := 0) (H := 9) rfl rfl]
    refine f_ifneB (pc := 27) (tgt := 35) hX d_Mo_blend_27 rfl (fun h27 => False.elim (by rw [show rg x 1 ((2 ^ n : Nat) - 1) = true from by simpa using h15, h27] at hb; cases hb)) (fun h27 => ?_)
    refine v_bipush (pc := 30) (v := (-2)) hX (by decide) d_Mo_blend_30 ?_
    refine v_goto (pc := 32) (tgt := 41) hX d_Mo_blend_32 rfl ?_
    exact f_iret (pc := 41) hX hR (rfl) (rfl) d_Mo_blend_41
theorem C_Mo_blend_ok {M : MM} {n : Nat} {J : JT} (hJ : MJ M n J) {s : Nat} {u : Int32} (h0 : ¬ n = 0) (hs0 : 0 < s) (hs : s < 2 ^ n) (hu : rg u 0 9 = true) : AF y_Mo_blend c_Mo_blend 3 (some .int) 4 [vR 36, vI (i3 s), vI u] (M) (some (vI (blN J n s u))) (M) := by
  have h6 := hJ.1
  have hM := hJ.2.1
  have hp := pow6 h6
  have hrg : rg (i3 s) 1 ((2 ^ n : Nat) - 1) = true := rg_true.mpr (by rw [i3_int (by omega)]; omega)
  refine AF.of k_Mo_blend (lo := [some (vR 36), some (vI (i3 s)), some (vI u)]) rfl (Nat.le_of_ble_eq_true rfl) (fun X hX hR => ?_)
  refine v_aload_n (pc := 0) hX rfl d_Mo_blend_0 ?_
  refine g_getI (pc := 1) hX fl_Mo_101 rfl rfl d_Mo_blend_1 ?_
  rw [hM]
  refine v_if_ne (pc := 4) (tgt := 10) hX d_Mo_blend_4 rfl (fun h4 => ?_) (fun h4 => False.elim (i3_ne0 h0 (by omega) h4))
  refine v_aload_n (pc := 10) hX rfl d_Mo_blend_10 ?_
  refine v_iload_n (pc := 11) hX rfl d_Mo_blend_11 ?_
  refine f_callV (pc := 12) hX k_Mo_noBlend ki_Mo_noBlend kv_Mo_noBlend ml_Mo_187 (C_Mo_noBlend hJ.1 hJ.2.1) rfl rfl rfl rfl rfl (Nat.le_of_ble_eq_true rfl) (Nat.le_of_ble_eq_true rfl) (Nat.le_of_ble_eq_true rfl) d_Mo_blend_12 ?_
  rw [hrg]
  refine f_ifneB (pc := 15) (tgt := 30) hX d_Mo_blend_15 rfl (fun h15 => False.elim (absurd h15 (by decide))) (fun h15 => ?_)
  refine v_iload_n (pc := 18) hX rfl d_Mo_blend_18 ?_
  refine v_i2l (pc := 19) hX d_Mo_blend_19 ?_
  refine v_lconst (pc := 20) (v := 0) hX (by decide) d_Mo_blend_20 ?_
  refine v_ldc2_w (pc := 21) hX kl_Mo_118 d_Mo_blend_21 ?_
  refine f_callS (pc := 24) hX k_Mo_in ks_Mo_in ml_Mo_104 (C_Mo_in) rfl rfl rfl (Nat.le_of_ble_eq_true rfl) (Nat.le_of_ble_eq_true rfl) (Nat.le_of_ble_eq_true rfl) d_Mo_blend_24 ?_
  rw [rL_rg (L := 0) (H := 9) rfl rfl]
  refine f_ifneB (pc := 27) (tgt := 35) hX d_Mo_blend_27 rfl (fun h27 => ?_) (fun h27 => False.elim (by rw [hu] at h27; cases h27))
  refine v_aload_n (pc := 35) hX rfl d_Mo_blend_35 ?_
  refine v_iload_n (pc := 36) hX rfl d_Mo_blend_36 ?_
  refine v_iload_n (pc := 37) hX rfl d_Mo_blend_37 ?_
  refine f_callV (pc := 38) hX k_Mo_blendOf ki_Mo_blendOf kv_Mo_blendOf ml_Mo_190 (C_Mo_blendOf hJ (by omega) (by omega) (rg_nn hu)) rfl rfl rfl rfl rfl (Nat.le_of_ble_eq_true rfl) (Nat.le_of_ble_eq_true rfl) (Nat.le_of_ble_eq_true rfl) d_Mo_blend_38 ?_
  exact f_iret (pc := 41) hX hR (rfl) (rfl) d_Mo_blend_41
theorem d_Mo_hold_0 : decode c_Mo_hold 0 = .ok (.aload_n 0, 1) := by decide +kernel
theorem d_Mo_hold_1 : decode c_Mo_hold 1 = .ok (.getfield 101, 3) := by decide +kernel
theorem d_Mo_hold_4 : decode c_Mo_hold 4 = .ok (.ifCond .ne 6, 3) := by decide +kernel
theorem d_Mo_hold_7 : decode c_Mo_hold 7 = .ok (.bipush (-3), 2) := by decide +kernel
theorem d_Mo_hold_9 : decode c_Mo_hold 9 = .ok (.ireturn, 1) := by decide +kernel
theorem d_Mo_hold_10 : decode c_Mo_hold 10 = .ok (.aload_n 0, 1) := by decide +kernel
theorem d_Mo_hold_11 : decode c_Mo_hold 11 = .ok (.iload_n 1, 1) := by decide +kernel
theorem d_Mo_hold_12 : decode c_Mo_hold 12 = .ok (.invokevirtual 187, 3) := by decide +kernel
theorem d_Mo_hold_15 : decode c_Mo_hold 15 = .ok (.ifCond .ne 15, 3) := by decide +kernel
theorem d_Mo_hold_18 : decode c_Mo_hold 18 = .ok (.iload_n 2, 1) := by decide +kernel
theorem d_Mo_hold_19 : decode c_Mo_hold 19 = .ok (.i2l, 1) := by decide +kernel
theorem d_Mo_hold_20 : decode c_Mo_hold 20 = .ok (.lconst 0, 1) := by decide +kernel
theorem d_Mo_hold_21 : decode c_Mo_hold 21 = .ok (.ldc2_w 118, 3) := by decide +kernel
theorem d_Mo_hold_24 : decode c_Mo_hold 24 = .ok (.invokestatic 104, 3) := by decide +kernel
theorem d_Mo_hold_27 : decode c_Mo_hold 27 = .ok (.ifCond .ne 6, 3) := by decide +kernel
theorem d_Mo_hold_30 : decode c_Mo_hold 30 = .ok (.bipush (-2), 2) := by decide +kernel
theorem d_Mo_hold_32 : decode c_Mo_hold 32 = .ok (.ireturn, 1) := by decide +kernel
theorem d_Mo_hold_33 : decode c_Mo_hold 33 = .ok (.iconst 0, 1) := by decide +kernel
theorem d_Mo_hold_34 : decode c_Mo_hold 34 = .ok (.istore_n 3, 1) := by decide +kernel
theorem d_Mo_hold_35 : decode c_Mo_hold 35 = .ok (.iconst 0, 1) := by decide +kernel
theorem d_Mo_hold_36 : decode c_Mo_hold 36 = .ok (.istore 4, 2) := by decide +kernel
theorem d_Mo_hold_38 : decode c_Mo_hold 38 = .ok (.iconst 0, 1) := by decide +kernel
theorem d_Mo_hold_39 : decode c_Mo_hold 39 = .ok (.istore 5, 2) := by decide +kernel
theorem d_Mo_hold_41 : decode c_Mo_hold 41 = .ok (.iload 5, 2) := by decide +kernel
theorem d_Mo_hold_43 : decode c_Mo_hold 43 = .ok (.bipush 10, 2) := by decide +kernel
theorem d_Mo_hold_45 : decode c_Mo_hold 45 = .ok (.if_icmp .ge 42, 3) := by decide +kernel
theorem d_Mo_hold_48 : decode c_Mo_hold 48 = .ok (.aload_n 0, 1) := by decide +kernel
theorem d_Mo_hold_49 : decode c_Mo_hold 49 = .ok (.iload_n 1, 1) := by decide +kernel
theorem d_Mo_hold_50 : decode c_Mo_hold 50 = .ok (.iload 5, 2) := by decide +kernel
theorem d_Mo_hold_52 : decode c_Mo_hold 52 = .ok (.invokevirtual 190, 3) := by decide +kernel
theorem d_Mo_hold_55 : decode c_Mo_hold 55 = .ok (.iload_n 2, 1) := by decide +kernel
theorem d_Mo_hold_56 : decode c_Mo_hold 56 = .ok (.if_icmp .lt 9, 3) := by decide +kernel
theorem d_Mo_hold_59 : decode c_Mo_hold 59 = .ok (.iload_n 3, 1) := by decide +kernel
theorem d_Mo_hold_60 : decode c_Mo_hold 60 = .ok (.iconst 1, 1) := by decide +kernel
theorem d_Mo_hold_61 : decode c_Mo_hold 61 = .ok (.iadd, 1) := by decide +kernel
theorem d_Mo_hold_62 : decode c_Mo_hold 62 = .ok (.goto 4, 3) := by decide +kernel
theorem d_Mo_hold_65 : decode c_Mo_hold 65 = .ok (.iconst 0, 1) := by decide +kernel
theorem d_Mo_hold_66 : decode c_Mo_hold 66 = .ok (.istore_n 3, 1) := by decide +kernel
theorem d_Mo_hold_67 : decode c_Mo_hold 67 = .ok (.iload_n 3, 1) := by decide +kernel
theorem d_Mo_hold_68 : decode c_Mo_hold 68 = .ok (.iload 4, 2) := by decide +kernel
theorem d_Mo_hold_70 : decode c_Mo_hold 70 = .ok (.if_icmp .le 7, 3) := by decide +kernel
theorem d_Mo_hold_73 : decode c_Mo_hold 73 = .ok (.iload_n 3, 1) := by decide +kernel
theorem d_Mo_hold_74 : decode c_Mo_hold 74 = .ok (.goto 5, 3) := by decide +kernel
theorem d_Mo_hold_77 : decode c_Mo_hold 77 = .ok (.iload 4, 2) := by decide +kernel
theorem d_Mo_hold_79 : decode c_Mo_hold 79 = .ok (.istore 4, 2) := by decide +kernel
theorem d_Mo_hold_81 : decode c_Mo_hold 81 = .ok (.iinc 5 1, 3) := by decide +kernel
theorem d_Mo_hold_84 : decode c_Mo_hold 84 = .ok (.goto (-43), 3) := by decide +kernel
theorem d_Mo_hold_87 : decode c_Mo_hold 87 = .ok (.iload 4, 2) := by decide +kernel
theorem d_Mo_hold_89 : decode c_Mo_hold 89 = .ok (.ireturn, 1) := by decide +kernel
theorem C_Mo_hold_no {M : MM} {n : Nat} {J : JT} (hJ : MJ M n J) {x u : Int32} (h0 : n = 0) : AF y_Mo_hold c_Mo_hold 6 (some .int) 4 [vR 36, vI x, vI u] (M) (some (vI (-3))) (M) := by
  have h6 := hJ.1
  have hM := hJ.2.1
  refine AF.of k_Mo_hold (lo := [some (vR 36), some (vI x), some (vI u), none, none, none]) rfl (Nat.le_of_ble_eq_true rfl) (fun X hX hR => ?_)
  refine v_aload_n (pc := 0) hX rfl d_Mo_hold_0 ?_
  refine g_getI (pc := 1) hX fl_Mo_101 rfl rfl d_Mo_hold_1 ?_
  rw [hM]
  refine v_if_ne (pc := 4) (tgt := 10) hX d_Mo_hold_4 rfl (fun h4 => False.elim (h4 (by rw [h0]; rfl))) (fun h4 => ?_)
  refine v_bipush (pc := 7) (v := (-3)) hX (by decide) d_Mo_hold_7 ?_
  exact f_iret (pc := 9) hX hR (rfl) (rfl) d_Mo_hold_9
theorem C_Mo_hold_bad {M : MM} {n : Nat} {J : JT} (hJ : MJ M n J) {x u : Int32} (h0 : ¬ n = 0) (hb : (rg x 1 ((2 ^ n : Nat) - 1) && rg u 0 9) = false) : AF y_Mo_hold c_Mo_hold 6 (some .int) 4 [vR 36, vI x, vI u] (M) (some (vI (-2))) (M) := by
  have h6 := hJ.1
  have hM := hJ.2.1
  refine AF.of k_Mo_hold (lo := [some (vR 36), some (vI x), some (vI u), none, none, none]) rfl (Nat.le_of_ble_eq_true rfl) (fun X hX hR => ?_)
  refine v_aload_n (pc := 0) hX rfl d_Mo_hold_0 ?_
  refine g_getI (pc := 1) hX fl_Mo_101 rfl rfl d_Mo_hold_1 ?_
  rw [hM]
  refine v_if_ne (pc := 4) (tgt := 10) hX d_Mo_hold_4 rfl (fun h4 => ?_) (fun h4 => False.elim (i3_ne0 h0 (by omega) h4))
  refine v_aload_n (pc := 10) hX rfl d_Mo_hold_10 ?_
  refine v_iload_n (pc := 11) hX rfl d_Mo_hold_11 ?_
  refine f_callV (pc := 12) hX k_Mo_noBlend ki_Mo_noBlend kv_Mo_noBlend ml_Mo_187 (C_Mo_noBlend hJ.1 hJ.2.1) rfl rfl rfl rfl rfl (Nat.le_of_ble_eq_true rfl) (Nat.le_of_ble_eq_true rfl) (Nat.le_of_ble_eq_true rfl) d_Mo_hold_12 ?_
  refine f_ifneB (pc := 15) (tgt := 30) hX d_Mo_hold_15 rfl (fun h15 => ?_) (fun h15 => ?_)
  · refine v_bipush (pc := 30) (v := (-2)) hX (by decide) d_Mo_hold_30 ?_
    exact f_iret (pc := 32) hX hR (rfl) (rfl) d_Mo_hold_32
  · refine v_iload_n (pc := 18) hX rfl d_Mo_hold_18 ?_
    refine v_i2l (pc := 19) hX d_Mo_hold_19 ?_
    refine v_lconst (pc := 20) (v := 0) hX (by decide) d_Mo_hold_20 ?_
    refine v_ldc2_w (pc := 21) hX kl_Mo_118 d_Mo_hold_21 ?_
    refine f_callS (pc := 24) hX k_Mo_in ks_Mo_in ml_Mo_104 (C_Mo_in) rfl rfl rfl (Nat.le_of_ble_eq_true rfl) (Nat.le_of_ble_eq_true rfl) (Nat.le_of_ble_eq_true rfl) d_Mo_hold_24 ?_
    rw [rL_rg (L := 0) (H := 9) rfl rfl]
    refine f_ifneB (pc := 27) (tgt := 33) hX d_Mo_hold_27 rfl (fun h27 => False.elim (by rw [show rg x 1 ((2 ^ n : Nat) - 1) = true from by simpa using h15, h27] at hb; cases hb)) (fun h27 => ?_)
    refine v_bipush (pc := 30) (v := (-2)) hX (by decide) d_Mo_hold_30 ?_
    exact f_iret (pc := 32) hX hR (rfl) (rfl) d_Mo_hold_32
theorem C_Mo_hold_ok {M : MM} {n : Nat} {J : JT} (hJ : MJ M n J) {s : Nat} {u : Int32} (h0 : ¬ n = 0) (hs0 : 0 < s) (hs : s < 2 ^ n) (hu : rg u 0 9 = true) : AF y_Mo_hold c_Mo_hold 6 (some .int) 4 [vR 36, vI (i3 s), vI u] (M) (some (vI (hmost (fun t => blN J n s (i3 t)) u 10))) (M) := by
  have h6 := hJ.1
  have hM := hJ.2.1
  have hp := pow6 h6
  have hrg : rg (i3 s) 1 ((2 ^ n : Nat) - 1) = true := rg_true.mpr (by rw [i3_int (by omega)]; omega)
  refine AF.of k_Mo_hold (lo := [some (vR 36), some (vI (i3 s)), some (vI u), none, none, none]) rfl (Nat.le_of_ble_eq_true rfl) (fun X hX hR => ?_)
  refine v_aload_n (pc := 0) hX rfl d_Mo_hold_0 ?_
  refine g_getI (pc := 1) hX fl_Mo_101 rfl rfl d_Mo_hold_1 ?_
  rw [hM]
  refine v_if_ne (pc := 4) (tgt := 10) hX d_Mo_hold_4 rfl (fun h4 => ?_) (fun h4 => False.elim (i3_ne0 h0 (by omega) h4))
  refine v_aload_n (pc := 10) hX rfl d_Mo_hold_10 ?_
  refine v_iload_n (pc := 11) hX rfl d_Mo_hold_11 ?_
  refine f_callV (pc := 12) hX k_Mo_noBlend ki_Mo_noBlend kv_Mo_noBlend ml_Mo_187 (C_Mo_noBlend hJ.1 hJ.2.1) rfl rfl rfl rfl rfl (Nat.le_of_ble_eq_true rfl) (Nat.le_of_ble_eq_true rfl) (Nat.le_of_ble_eq_true rfl) d_Mo_hold_12 ?_
  rw [hrg]
  refine f_ifneB (pc := 15) (tgt := 30) hX d_Mo_hold_15 rfl (fun h15 => False.elim (absurd h15 (by decide))) (fun h15 => ?_)
  refine v_iload_n (pc := 18) hX rfl d_Mo_hold_18 ?_
  refine v_i2l (pc := 19) hX d_Mo_hold_19 ?_
  refine v_lconst (pc := 20) (v := 0) hX (by decide) d_Mo_hold_20 ?_
  refine v_ldc2_w (pc := 21) hX kl_Mo_118 d_Mo_hold_21 ?_
  refine f_callS (pc := 24) hX k_Mo_in ks_Mo_in ml_Mo_104 (C_Mo_in) rfl rfl rfl (Nat.le_of_ble_eq_true rfl) (Nat.le_of_ble_eq_true rfl) (Nat.le_of_ble_eq_true rfl) d_Mo_hold_24 ?_
  rw [rL_rg (L := 0) (H := 9) rfl rfl]
  refine f_ifneB (pc := 27) (tgt := 33) hX d_Mo_hold_27 rfl (fun h27 => ?_) (fun h27 => False.elim (by rw [hu] at h27; cases h27))
  refine v_iconst (pc := 33) (v := 0) hX (by decide) d_Mo_hold_33 ?_
  refine v_istore_n (pc := 34) (lo' := [some (vR _), some (vI _), some (vI _), some (vI _), none, none]) hX (Nat.le_of_ble_eq_true rfl) rfl d_Mo_hold_34 ?_
  refine v_iconst (pc := 35) (v := 0) hX (by decide) d_Mo_hold_35 ?_
  refine v_istore (pc := 36) (lo' := [some (vR _), some (vI _), some (vI _), some (vI _), some (vI _), none]) hX (Nat.le_of_ble_eq_true rfl) rfl d_Mo_hold_36 ?_
  refine v_iconst (pc := 38) (v := 0) hX (by decide) d_Mo_hold_38 ?_
  refine v_istore (pc := 39) (lo' := [some (vR _), some (vI _), some (vI _), some (vI _), some (vI _), some (vI _)]) hX (Nat.le_of_ble_eq_true rfl) rfl d_Mo_hold_39 ?_
  refine VW.cast (lo' := [some (vR 36), some (vI (i3 s)), some (vI u), some (vI (hrun (fun t => blN J n s (i3 t)) u 0)), some (vI (hmost (fun t => blN J n s (i3 t)) u 0)), some (vI (i3 0))]) (st' := []) (G' := gM (M)) rfl rfl rfl ?_
  refine v_for (X := X) (head := 41) (10) (fun kk => [some (vR 36), some (vI (i3 s)), some (vI u), some (vI (hrun (fun t => blN J n s (i3 t)) u kk)), some (vI (hmost (fun t => blN J n s (i3 t)) u kk)), some (vI (i3 kk))]) (fun kk => M) (fun k hk ih41 => ?_) ?_
  · show VW X 41 [some (vR 36), some (vI (i3 s)), some (vI u), some (vI (hrun (fun t => blN J n s (i3 t)) u k)), some (vI (hmost (fun t => blN J n s (i3 t)) u k)), some (vI (i3 k))] [] (gM (M))
    refine v_iload (pc := 41) hX rfl d_Mo_hold_41 ?_
    refine v_bipush (pc := 43) (v := 10) hX (by decide) d_Mo_hold_43 ?_
    refine v_icmp_ge (pc := 45) (tgt := 87) hX d_Mo_hold_45 rfl (fun h45 => False.elim (i3_ge_abs hk (by decide) h45)) (fun h45 => ?_)
    refine v_aload_n (pc := 48) hX rfl d_Mo_hold_48 ?_
    refine v_iload_n (pc := 49) hX rfl d_Mo_hold_49 ?_
    refine v_iload (pc := 50) hX rfl d_Mo_hold_50 ?_
    refine f_callV (pc := 52) hX k_Mo_blendOf ki_Mo_blendOf kv_Mo_blendOf ml_Mo_190 (C_Mo_blendOf hJ (by omega) (by omega) (i3_nn (by omega))) rfl rfl rfl rfl rfl (Nat.le_of_ble_eq_true rfl) (Nat.le_of_ble_eq_true rfl) (Nat.le_of_ble_eq_true rfl) d_Mo_hold_52 ?_
    refine v_iload_n (pc := 55) hX rfl d_Mo_hold_55 ?_
    refine v_icmp_lt (pc := 56) (tgt := 65) hX d_Mo_hold_56 rfl (fun h56 => ?_) (fun h56 => ?_)
    · have e : hrun (fun t => blN J n s (i3 t)) u (k + 1) = 0 := hrun_lt h56
      refine v_iconst (pc := 65) (v := 0) hX (by decide) d_Mo_hold_65 ?_
      refine v_istore_n (pc := 66) (lo' := [some (vR _), some (vI _), some (vI _), some (vI _), some (vI _), some (vI _)]) hX (Nat.le_of_ble_eq_true rfl) rfl d_Mo_hold_66 ?_
      refine v_iload_n (pc := 67) hX rfl d_Mo_hold_67 ?_
      refine v_iload (pc := 68) hX rfl d_Mo_hold_68 ?_
      refine v_icmp_le (pc := 70) (tgt := 77) hX d_Mo_hold_70 rfl (fun h70 => ?_) (fun h70 => ?_)
      · rw [← e] at h70
        have e2 : hmost (fun t => blN J n s (i3 t)) u (k + 1) = hmost (fun t => blN J n s (i3 t)) u k := if_neg (Int32.not_lt.mpr h70)
        refine v_iload (pc := 77) hX rfl d_Mo_hold_77 ?_
        refine v_istore (pc := 79) (lo' := [some (vR _), some (vI _), some (vI _), some (vI _), some (vI _), some (vI _)]) hX (Nat.le_of_ble_eq_true rfl) rfl d_Mo_hold_79 ?_
        refine v_iinc (pc := 81) (lo' := [some (vR _), some (vI _), some (vI _), some (vI _), some (vI _), some (vI _)]) hX rfl rfl d_Mo_hold_81 ?_
        refine v_goto (pc := 84) (tgt := 41) hX d_Mo_hold_84 rfl ?_
        exact VW.cast (by first | (rw [e2, e, i3_succ]; rfl) | (rw [e2, e, i3_succ]; rfl)) rfl rfl ih41
      · rw [← e] at h70
        have e2 : hmost (fun t => blN J n s (i3 t)) u (k + 1) = hrun (fun t => blN J n s (i3 t)) u (k + 1) := if_pos (Int32.not_le.mp h70)
        refine v_iload_n (pc := 73) hX rfl d_Mo_hold_73 ?_
        refine v_goto (pc := 74) (tgt := 79) hX d_Mo_hold_74 rfl ?_
        refine v_istore (pc := 79) (lo' := [some (vR _), some (vI _), some (vI _), some (vI _), some (vI _), some (vI _)]) hX (Nat.le_of_ble_eq_true rfl) rfl d_Mo_hold_79 ?_
        refine v_iinc (pc := 81) (lo' := [some (vR _), some (vI _), some (vI _), some (vI _), some (vI _), some (vI _)]) hX rfl rfl d_Mo_hold_81 ?_
        refine v_goto (pc := 84) (tgt := 41) hX d_Mo_hold_84 rfl ?_
        exact VW.cast (by first | (rw [e2, e, i3_succ]; rfl) | (rw [e2, e, i3_succ]; rfl)) rfl rfl ih41
    · have e : hrun (fun t => blN J n s (i3 t)) u (k + 1) = hrun (fun t => blN J n s (i3 t)) u k + 1 := hrun_ge (Int32.not_lt.mp h56)
      refine v_iload_n (pc := 59) hX rfl d_Mo_hold_59 ?_
      refine v_iconst (pc := 60) (v := 1) hX (by decide) d_Mo_hold_60 ?_
      refine v_iadd (pc := 61) hX d_Mo_hold_61 ?_
      refine v_goto (pc := 62) (tgt := 66) hX d_Mo_hold_62 rfl ?_
      refine v_istore_n (pc := 66) (lo' := [some (vR _), some (vI _), some (vI _), some (vI _), some (vI _), some (vI _)]) hX (Nat.le_of_ble_eq_true rfl) rfl d_Mo_hold_66 ?_
      refine v_iload_n (pc := 67) hX rfl d_Mo_hold_67 ?_
      refine v_iload (pc := 68) hX rfl d_Mo_hold_68 ?_
      refine v_icmp_le (pc := 70) (tgt := 77) hX d_Mo_hold_70 rfl (fun h70 => ?_) (fun h70 => ?_)
      · rw [← e] at h70
        have e2 : hmost (fun t => blN J n s (i3 t)) u (k + 1) = hmost (fun t => blN J n s (i3 t)) u k := if_neg (Int32.not_lt.mpr h70)
        refine v_iload (pc := 77) hX rfl d_Mo_hold_77 ?_
        refine v_istore (pc := 79) (lo' := [some (vR _), some (vI _), some (vI _), some (vI _), some (vI _), some (vI _)]) hX (Nat.le_of_ble_eq_true rfl) rfl d_Mo_hold_79 ?_
        refine v_iinc (pc := 81) (lo' := [some (vR _), some (vI _), some (vI _), some (vI _), some (vI _), some (vI _)]) hX rfl rfl d_Mo_hold_81 ?_
        refine v_goto (pc := 84) (tgt := 41) hX d_Mo_hold_84 rfl ?_
        exact VW.cast (by first | (rw [e2, e, i3_succ]; rfl) | (rw [e2, e, i3_succ]; rfl)) rfl rfl ih41
      · rw [← e] at h70
        have e2 : hmost (fun t => blN J n s (i3 t)) u (k + 1) = hrun (fun t => blN J n s (i3 t)) u (k + 1) := if_pos (Int32.not_le.mp h70)
        refine v_iload_n (pc := 73) hX rfl d_Mo_hold_73 ?_
        refine v_goto (pc := 74) (tgt := 79) hX d_Mo_hold_74 rfl ?_
        refine v_istore (pc := 79) (lo' := [some (vR _), some (vI _), some (vI _), some (vI _), some (vI _), some (vI _)]) hX (Nat.le_of_ble_eq_true rfl) rfl d_Mo_hold_79 ?_
        refine v_iinc (pc := 81) (lo' := [some (vR _), some (vI _), some (vI _), some (vI _), some (vI _), some (vI _)]) hX rfl rfl d_Mo_hold_81 ?_
        refine v_goto (pc := 84) (tgt := 41) hX d_Mo_hold_84 rfl ?_
        exact VW.cast (by first | (rw [e2, e, i3_succ]; rfl) | (rw [e2, e, i3_succ]; rfl)) rfl rfl ih41
  · show VW X 41 [some (vR 36), some (vI (i3 s)), some (vI u), some (vI (hrun (fun t => blN J n s (i3 t)) u (10))), some (vI (hmost (fun t => blN J n s (i3 t)) u (10))), some (vI (i3 (10)))] [] (gM (M))
    refine v_iload (pc := 41) hX rfl d_Mo_hold_41 ?_
    refine v_bipush (pc := 43) (v := 10) hX (by decide) d_Mo_hold_43 ?_
    refine v_icmp_ge (pc := 45) (tgt := 87) hX d_Mo_hold_45 rfl (fun h45 => ?_) (fun h45 => False.elim (by revert h45; decide))
    refine v_iload (pc := 87) hX rfl d_Mo_hold_87 ?_
    exact f_iret (pc := 89) hX hR (rfl) (rfl) d_Mo_hold_89
theorem fsum_one {f : Nat → Int32} {j : Nat} : ∀ n, (∀ i, i < n → i ≠ j → f i = 0) → fsum f n = if j < n then f j else 0
  | 0, _ => rfl
  | n + 1, h => by
    show fsum f n + f n = _
    rw [fsum_one n (fun i hi hne => h i (by omega) hne)]
    by_cases e : n = j
    · subst e
      rw [if_neg (by omega), if_pos (by omega), Int32.zero_add]
    · rw [h n (by omega) e, Int32.add_zero]
      by_cases e2 : j < n
      · rw [if_pos e2, if_pos (by omega)]
      · rw [if_neg e2, if_neg (by omega)]
theorem bt_pow : ∀ j, j < 6 → ∀ i, i < 6 → bt (2 ^ j) i = if i = j then 1 else 0 := by decide +kernel
theorem pop_pow : ∀ n, n < 7 → ∀ j, j < n → pop n (2 ^ j) = 1 := by decide +kernel
theorem bl_one {J : JT} {n j : Nat} {t : Int32} (h6 : n ≤ 6) (hj : j < n) : blN J n (2 ^ j) t = mk J j t := by
  unfold blN
  rw [pop_pow n (by omega) j hj, if_neg (by decide)]
  have e : sumB J (2 ^ j) t n = mk J j t := by
    unfold sumB
    rw [fsum_one (j := j) n (fun i hi hne => by rw [bt_pow j (by omega) i (by omega), if_neg hne]; rfl), if_pos hj, bt_pow j (by omega) j (by omega), if_pos rfl]
    rfl
  rw [e]
  exact Int32.div_one
theorem d_Mo_decides_0 : decode c_Mo_decides 0 = .ok (.aload_n 0, 1) := by decide +kernel
theorem d_Mo_decides_1 : decode c_Mo_decides 1 = .ok (.iload_n 2, 1) := by decide +kernel
theorem d_Mo_decides_2 : decode c_Mo_decides 2 = .ok (.aload_n 0, 1) := by decide +kernel
theorem d_Mo_decides_3 : decode c_Mo_decides 3 = .ok (.getfield 28, 3) := by decide +kernel
theorem d_Mo_decides_6 : decode c_Mo_decides 6 = .ok (.iload_n 1, 1) := by decide +kernel
theorem d_Mo_decides_7 : decode c_Mo_decides 7 = .ok (.iaload, 1) := by decide +kernel
theorem d_Mo_decides_8 : decode c_Mo_decides 8 = .ok (.invokevirtual 190, 3) := by decide +kernel
theorem d_Mo_decides_11 : decode c_Mo_decides 11 = .ok (.aload_n 0, 1) := by decide +kernel
theorem d_Mo_decides_12 : decode c_Mo_decides 12 = .ok (.getfield 25, 3) := by decide +kernel
theorem d_Mo_decides_15 : decode c_Mo_decides 15 = .ok (.iload_n 1, 1) := by decide +kernel
theorem d_Mo_decides_16 : decode c_Mo_decides 16 = .ok (.iaload, 1) := by decide +kernel
theorem d_Mo_decides_17 : decode c_Mo_decides 17 = .ok (.if_icmp .lt 7, 3) := by decide +kernel
theorem d_Mo_decides_20 : decode c_Mo_decides 20 = .ok (.iconst 1, 1) := by decide +kernel
theorem d_Mo_decides_21 : decode c_Mo_decides 21 = .ok (.goto 4, 3) := by decide +kernel
theorem d_Mo_decides_24 : decode c_Mo_decides 24 = .ok (.iconst 0, 1) := by decide +kernel
theorem d_Mo_decides_25 : decode c_Mo_decides 25 = .ok (.ireturn, 1) := by decide +kernel
theorem C_Mo_decides {M : MM} {n nd s b : Nat} {J B : JT} (hJ : MJ M n J) (hB : MB M nd B) (hb : b < nd) (hs0 : 0 < s) (hs : s < 2 ^ n) : AF y_Mo_decides c_Mo_decides 3 (some .boolean) 4 [vR 36, vI (i3 b), vI (i3 s)] (M) (some (vI (bI (dcB J (B b 0) (B b 1) n s)))) (M) := by
  have h4 := hB.1
  refine AF.of k_Mo_decides (lo := [some (vR 36), some (vI (i3 b)), some (vI (i3 s))]) rfl (Nat.le_of_ble_eq_true rfl) (fun X hX hR => ?_)
  refine v_aload_n (pc := 0) hX rfl d_Mo_decides_0 ?_
  refine v_iload_n (pc := 1) hX rfl d_Mo_decides_1 ?_
  refine v_aload_n (pc := 2) hX rfl d_Mo_decides_2 ?_
  refine g_getR (pc := 3) hX fl_Mo_28 rfl rfl nf_36_9 d_Mo_decides_3 ?_
  refine v_iload_n (pc := 6) hX rfl d_Mo_decides_6 ?_
  refine g_iald (pc := 7) hX rfl (IX.of (n := 4) (by omega) (by decide)) d_Mo_decides_7 ?_
  rw [show M 43 b = B b 1 from hB.2.2.1 b hb 1 (by decide)]
  refine f_callV (pc := 8) hX k_Mo_blendOf ki_Mo_blendOf kv_Mo_blendOf ml_Mo_190 (C_Mo_blendOf hJ (by omega) (by omega) (hB.2.2.2 b hb)) rfl rfl rfl rfl rfl (Nat.le_of_ble_eq_true rfl) (Nat.le_of_ble_eq_true rfl) (Nat.le_of_ble_eq_true rfl) d_Mo_decides_8 ?_
  refine v_aload_n (pc := 11) hX rfl d_Mo_decides_11 ?_
  refine g_getR (pc := 12) hX fl_Mo_25 rfl rfl nf_36_8 d_Mo_decides_12 ?_
  refine v_iload_n (pc := 15) hX rfl d_Mo_decides_15 ?_
  refine g_iald (pc := 16) hX rfl (IX.of (n := 4) (by omega) (by decide)) d_Mo_decides_16 ?_
  rw [show M 42 b = B b 0 from hB.2.2.1 b hb 0 (by decide)]
  refine v_icmp_lt (pc := 17) (tgt := 24) hX d_Mo_decides_17 rfl (fun h17 => ?_) (fun h17 => ?_)
  · refine v_iconst (pc := 24) (v := 0) hX (by decide) d_Mo_decides_24 ?_
    exact f_zret (pc := 25) hX hR (by first | exact bT (decide_eq_true (Int32.not_lt.mp h17)) | exact bF (decide_eq_false (Int32.not_le.mpr h17))) (rfl) d_Mo_decides_25
  · refine v_iconst (pc := 20) (v := 1) hX (by decide) d_Mo_decides_20 ?_
    refine v_goto (pc := 21) (tgt := 25) hX d_Mo_decides_21 rfl ?_
    exact f_zret (pc := 25) hX hR (by first | exact bT (decide_eq_true (Int32.not_lt.mp h17)) | exact bF (decide_eq_false (Int32.not_le.mpr h17))) (rfl) d_Mo_decides_25
theorem d_Mo_canSell_0 : decode c_Mo_canSell 0 = .ok (.aload_n 0, 1) := by decide +kernel
theorem d_Mo_canSell_1 : decode c_Mo_canSell 1 = .ok (.getfield 19, 3) := by decide +kernel
theorem d_Mo_canSell_4 : decode c_Mo_canSell 4 = .ok (.iload_n 2, 1) := by decide +kernel
theorem d_Mo_canSell_5 : decode c_Mo_canSell 5 = .ok (.iaload, 1) := by decide +kernel
theorem d_Mo_canSell_6 : decode c_Mo_canSell 6 = .ok (.ifCond .le 22, 3) := by decide +kernel
theorem d_Mo_canSell_9 : decode c_Mo_canSell 9 = .ok (.aload_n 0, 1) := by decide +kernel
theorem d_Mo_canSell_10 : decode c_Mo_canSell 10 = .ok (.getfield 22, 3) := by decide +kernel
theorem d_Mo_canSell_13 : decode c_Mo_canSell 13 = .ok (.iload_n 2, 1) := by decide +kernel
theorem d_Mo_canSell_14 : decode c_Mo_canSell 14 = .ok (.iaload, 1) := by decide +kernel
theorem d_Mo_canSell_15 : decode c_Mo_canSell 15 = .ok (.aload_n 0, 1) := by decide +kernel
theorem d_Mo_canSell_16 : decode c_Mo_canSell 16 = .ok (.getfield 31, 3) := by decide +kernel
theorem d_Mo_canSell_19 : decode c_Mo_canSell 19 = .ok (.iload_n 1, 1) := by decide +kernel
theorem d_Mo_canSell_20 : decode c_Mo_canSell 20 = .ok (.iaload, 1) := by decide +kernel
theorem d_Mo_canSell_21 : decode c_Mo_canSell 21 = .ok (.if_icmp .gt 7, 3) := by decide +kernel
theorem d_Mo_canSell_24 : decode c_Mo_canSell 24 = .ok (.iconst 1, 1) := by decide +kernel
theorem d_Mo_canSell_25 : decode c_Mo_canSell 25 = .ok (.goto 4, 3) := by decide +kernel
theorem d_Mo_canSell_28 : decode c_Mo_canSell 28 = .ok (.iconst 0, 1) := by decide +kernel
theorem d_Mo_canSell_29 : decode c_Mo_canSell 29 = .ok (.ireturn, 1) := by decide +kernel
theorem C_Mo_canSell {M : MM} {n nd b j : Nat} {J B : JT} (hJ : MJ M n J) (hB : MB M nd B) (hb : b < nd) (hj : j < n) : AF y_Mo_canSell c_Mo_canSell 3 (some .boolean) 1 [vR 36, vI (i3 b), vI (i3 j)] (M) (some (vI (bI (decide (0 < J j 3) && decide (J j 4 ≤ B b 2))))) (M) := by
  have h6 := hJ.1
  have h4 := hB.1
  refine AF.of k_Mo_canSell (lo := [some (vR 36), some (vI (i3 b)), some (vI (i3 j))]) rfl (Nat.le_of_ble_eq_true rfl) (fun X hX hR => ?_)
  refine v_aload_n (pc := 0) hX rfl d_Mo_canSell_0 ?_
  refine g_getR (pc := 1) hX fl_Mo_19 rfl rfl nf_36_5 d_Mo_canSell_1 ?_
  refine v_iload_n (pc := 4) hX rfl d_Mo_canSell_4 ?_
  refine g_iald (pc := 5) hX rfl (IX.of (n := 6) (by omega) (by decide)) d_Mo_canSell_5 ?_
  rw [show M 40 j = J j 3 from hJ.2.2.1 j hj 3 (by decide)]
  refine v_if_le (pc := 6) (tgt := 28) hX d_Mo_canSell_6 rfl (fun h6 => ?_) (fun h6 => ?_)
  · have e : (decide (0 < J j 3) && decide (J j 4 ≤ B b 2)) = false := by rw [decide_eq_false (Int32.not_lt.mpr h6)]; rfl
    refine v_iconst (pc := 28) (v := 0) hX (by decide) d_Mo_canSell_28 ?_
    exact f_zret (pc := 29) hX hR (by first | exact bT e | exact bF e) (rfl) d_Mo_canSell_29
  · refine v_aload_n (pc := 9) hX rfl d_Mo_canSell_9 ?_
    refine g_getR (pc := 10) hX fl_Mo_22 rfl rfl nf_36_6 d_Mo_canSell_10 ?_
    refine v_iload_n (pc := 13) hX rfl d_Mo_canSell_13 ?_
    refine g_iald (pc := 14) hX rfl (IX.of (n := 6) (by omega) (by decide)) d_Mo_canSell_14 ?_
    rw [show M 41 j = J j 4 from hJ.2.2.1 j hj 4 (by decide)]
    refine v_aload_n (pc := 15) hX rfl d_Mo_canSell_15 ?_
    refine g_getR (pc := 16) hX fl_Mo_31 rfl rfl nf_36_10 d_Mo_canSell_16 ?_
    refine v_iload_n (pc := 19) hX rfl d_Mo_canSell_19 ?_
    refine g_iald (pc := 20) hX rfl (IX.of (n := 4) (by omega) (by decide)) d_Mo_canSell_20 ?_
    rw [show M 44 b = B b 2 from hB.2.2.1 b hb 2 (by decide)]
    refine v_icmp_gt (pc := 21) (tgt := 28) hX d_Mo_canSell_21 rfl (fun h21 => ?_) (fun h21 => ?_)
    · have e : (decide (0 < J j 3) && decide (J j 4 ≤ B b 2)) = false := by rw [decide_eq_false (Int32.not_le.mpr h21)]; simp
      refine v_iconst (pc := 28) (v := 0) hX (by decide) d_Mo_canSell_28 ?_
      exact f_zret (pc := 29) hX hR (by first | exact bT e | exact bF e) (rfl) d_Mo_canSell_29
    · have e : (decide (0 < J j 3) && decide (J j 4 ≤ B b 2)) = true := by rw [decide_eq_true (Int32.not_lt.mp h21), decide_eq_true (Int32.not_le.mp h6)]; rfl
      refine v_iconst (pc := 24) (v := 1) hX (by decide) d_Mo_canSell_24 ?_
      refine v_goto (pc := 25) (tgt := 29) hX d_Mo_canSell_25 rfl ?_
      exact f_zret (pc := 29) hX hR (by first | exact bT e | exact bF e) (rfl) d_Mo_canSell_29
theorem MJ.set {M : MM} {n j k : Nat} {J : JT} {x : Int32} (h : MJ M n J) (hk : k < 5) (hv : k = 0 → x = 0 ∨ x = 1 ∨ x = 2) : MJ (upM M (37 + k) j x) n (upM J j k x) := by
  obtain ⟨h1, h2, h3, h4⟩ := h
  refine ⟨h1, by rw [upM_ne (by omega)]; exact h2, fun j' hj' i hi => ?_, fun j' hj' => ?_⟩
  rotate_left
  · by_cases e : j' = j ∧ 0 = k
    · rw [e.1, ← e.2, upM_same]; exact hv e.2.symm
    · rw [upM_ne e]; exact h4 j' hj'
  unfold upM
  by_cases e : j' = j ∧ i = k
  · rw [if_pos (by omega), if_pos e]
  · rw [if_neg (by omega), if_neg e]; exact h3 j' hj' i hi
theorem MB.set {M : MM} {n j k : Nat} {B : JT} {x : Int32} (h : MB M n B) (hk : k < 4) (hv : k ≠ 1) : MB (upM M (42 + k) j x) n (upM B j k x) := by
  obtain ⟨h1, h2, h3, h4⟩ := h
  refine ⟨h1, by rw [upM_ne (by omega)]; exact h2, fun j' hj' i hi => ?_, fun j' hj' => by rw [upM_ne (fun w => hv w.2.symm)]; exact h4 j' hj'⟩
  unfold upM
  by_cases e : j' = j ∧ i = k
  · rw [if_pos (by omega), if_pos e]
  · rw [if_neg (by omega), if_neg e]; exact h3 j' hj' i hi
theorem MJ.eq {M M' : MM} {n : Nat} {J : JT} (h : MJ M n J) (h0 : M' 36 1 = M 36 1) (he : ∀ a, 37 ≤ a → a < 42 → ∀ i, M' a i = M a i) : MJ M' n J := by
  obtain ⟨h1, h2, h3, h4⟩ := h
  exact ⟨h1, by rw [h0]; exact h2, fun j hj i hi => by rw [he (37 + i) (by omega) (by omega)]; exact h3 j hj i hi, h4⟩
theorem MB.eq {M M' : MM} {n : Nat} {B : JT} (h : MB M n B) (h0 : M' 36 7 = M 36 7) (he : ∀ a, 42 ≤ a → a < 46 → ∀ i, M' a i = M a i) : MB M' n B := by
  obtain ⟨h1, h2, h3, h4⟩ := h
  exact ⟨h1, by rw [h0]; exact h2, fun j hj i hi => by rw [he (42 + i) (by omega) (by omega)]; exact h3 j hj i hi, h4⟩
theorem mk_up3 {J : JT} {j i : Nat} {x t : Int32} : mk (upM J j 3 x) i t = mk J i t := by
  unfold mk
  rw [upM_ne (by omega), upM_ne (by omega), upM_ne (by omega)]
theorem d_Mo_sold_0 : decode c_Mo_sold 0 = .ok (.aload_n 0, 1) := by decide +kernel
theorem d_Mo_sold_1 : decode c_Mo_sold 1 = .ok (.getfield 19, 3) := by decide +kernel
theorem d_Mo_sold_4 : decode c_Mo_sold 4 = .ok (.iload_n 2, 1) := by decide +kernel
theorem d_Mo_sold_5 : decode c_Mo_sold 5 = .ok (.dup2, 1) := by decide +kernel
theorem d_Mo_sold_6 : decode c_Mo_sold 6 = .ok (.iaload, 1) := by decide +kernel
theorem d_Mo_sold_7 : decode c_Mo_sold 7 = .ok (.iconst 1, 1) := by decide +kernel
theorem d_Mo_sold_8 : decode c_Mo_sold 8 = .ok (.isub, 1) := by decide +kernel
theorem d_Mo_sold_9 : decode c_Mo_sold 9 = .ok (.iastore, 1) := by decide +kernel
theorem d_Mo_sold_10 : decode c_Mo_sold 10 = .ok (.aload_n 0, 1) := by decide +kernel
theorem d_Mo_sold_11 : decode c_Mo_sold 11 = .ok (.getfield 31, 3) := by decide +kernel
theorem d_Mo_sold_14 : decode c_Mo_sold 14 = .ok (.iload_n 1, 1) := by decide +kernel
theorem d_Mo_sold_15 : decode c_Mo_sold 15 = .ok (.dup2, 1) := by decide +kernel
theorem d_Mo_sold_16 : decode c_Mo_sold 16 = .ok (.iaload, 1) := by decide +kernel
theorem d_Mo_sold_17 : decode c_Mo_sold 17 = .ok (.aload_n 0, 1) := by decide +kernel
theorem d_Mo_sold_18 : decode c_Mo_sold 18 = .ok (.getfield 22, 3) := by decide +kernel
theorem d_Mo_sold_21 : decode c_Mo_sold 21 = .ok (.iload_n 2, 1) := by decide +kernel
theorem d_Mo_sold_22 : decode c_Mo_sold 22 = .ok (.iaload, 1) := by decide +kernel
theorem d_Mo_sold_23 : decode c_Mo_sold 23 = .ok (.isub, 1) := by decide +kernel
theorem d_Mo_sold_24 : decode c_Mo_sold 24 = .ok (.iastore, 1) := by decide +kernel
theorem d_Mo_sold_25 : decode c_Mo_sold 25 = .ok (.aload_n 0, 1) := by decide +kernel
theorem d_Mo_sold_26 : decode c_Mo_sold 26 = .ok (.iload_n 1, 1) := by decide +kernel
theorem d_Mo_sold_27 : decode c_Mo_sold 27 = .ok (.iconst 1, 1) := by decide +kernel
theorem d_Mo_sold_28 : decode c_Mo_sold 28 = .ok (.iload_n 2, 1) := by decide +kernel
theorem d_Mo_sold_29 : decode c_Mo_sold 29 = .ok (.ishl, 1) := by decide +kernel
theorem d_Mo_sold_30 : decode c_Mo_sold 30 = .ok (.invokevirtual 193, 3) := by decide +kernel
theorem d_Mo_sold_33 : decode c_Mo_sold 33 = .ok (.ifCond .eq 7, 3) := by decide +kernel
theorem d_Mo_sold_36 : decode c_Mo_sold 36 = .ok (.iconst 1, 1) := by decide +kernel
theorem d_Mo_sold_37 : decode c_Mo_sold 37 = .ok (.goto 4, 3) := by decide +kernel
theorem d_Mo_sold_40 : decode c_Mo_sold 40 = .ok (.iconst 0, 1) := by decide +kernel
theorem d_Mo_sold_41 : decode c_Mo_sold 41 = .ok (.ireturn, 1) := by decide +kernel
theorem C_Mo_sold {M : MM} {n nd b j : Nat} {J B : JT} (hJ : MJ M n J) (hB : MB M nd B) (hb : b < nd) (hj : j < n) : AF y_Mo_sold c_Mo_sold 3 (some .int) 5 [vR 36, vI (i3 b), vI (i3 j)] (M) (some (vI (bI (dkB J B j b)))) (upM (upM M 40 j (J j 3 - 1)) 44 b (B b 2 - J j 4)) := by
  have h6 := hJ.1
  have h4 := hB.1
  have hp := pow6 h6
  have h2j : 2 ^ j < 2 ^ n := Nat.pow_lt_pow_right (by decide) hj
  have h2p : 0 < 2 ^ j := Nat.two_pow_pos j
  have hJ2 : MJ (upM (upM M 40 j (J j 3 - 1)) 44 b (B b 2 - J j 4)) n (upM J j 3 (J j 3 - 1)) := (hJ.set (k := 3) (by decide) (fun w => absurd w (by decide))).eq (upM_ne (by omega)) (fun a h1 h2 i => upM_ne (by omega))
  have hB2 : MB (upM (upM M 40 j (J j 3 - 1)) 44 b (B b 2 - J j 4)) nd (upM B b 2 (B b 2 - J j 4)) := (hB.eq (M' := upM M 40 j (J j 3 - 1)) (upM_ne (by omega)) (fun a h1 h2 i => upM_ne (by omega))).set (k := 2) (by decide) (by decide)
  refine AF.of k_Mo_sold (lo := [some (vR 36), some (vI (i3 b)), some (vI (i3 j))]) rfl (Nat.le_of_ble_eq_true rfl) (fun X hX hR => ?_)
  refine v_aload_n (pc := 0) hX rfl d_Mo_sold_0 ?_
  refine g_getR (pc := 1) hX fl_Mo_19 rfl rfl nf_36_5 d_Mo_sold_1 ?_
  refine v_iload_n (pc := 4) hX rfl d_Mo_sold_4 ?_
  refine v_dup2 (pc := 5) hX rfl rfl d_Mo_sold_5 ?_
  refine g_iald (pc := 6) hX rfl (IX.of (n := 6) (by omega) (by decide)) d_Mo_sold_6 ?_
  rw [show M 40 j = J j 3 from hJ.2.2.1 j hj 3 (by decide)]
  refine v_iconst (pc := 7) (v := 1) hX (by decide) d_Mo_sold_7 ?_
  refine v_isub (pc := 8) hX d_Mo_sold_8 ?_
  refine g_iast (pc := 9) hX rfl (IX.of (n := 6) (by omega) (by decide)) d_Mo_sold_9 ?_
  refine v_aload_n (pc := 10) hX rfl d_Mo_sold_10 ?_
  refine g_getR (pc := 11) hX fl_Mo_31 rfl rfl nf_36_10 d_Mo_sold_11 ?_
  refine v_iload_n (pc := 14) hX rfl d_Mo_sold_14 ?_
  refine v_dup2 (pc := 15) hX rfl rfl d_Mo_sold_15 ?_
  refine g_iald (pc := 16) hX rfl (IX.of (n := 4) (by omega) (by decide)) d_Mo_sold_16 ?_
  rw [upM_ne (by omega), show M 44 b = B b 2 from hB.2.2.1 b hb 2 (by decide)]
  refine v_aload_n (pc := 17) hX rfl d_Mo_sold_17 ?_
  refine g_getR (pc := 18) hX fl_Mo_22 rfl rfl nf_36_6 d_Mo_sold_18 ?_
  refine v_iload_n (pc := 21) hX rfl d_Mo_sold_21 ?_
  refine g_iald (pc := 22) hX rfl (IX.of (n := 6) (by omega) (by decide)) d_Mo_sold_22 ?_
  rw [upM_ne (by omega), show M 41 j = J j 4 from hJ.2.2.1 j hj 4 (by decide)]
  refine v_isub (pc := 23) hX d_Mo_sold_23 ?_
  refine g_iast (pc := 24) hX rfl (IX.of (n := 4) (by omega) (by decide)) d_Mo_sold_24 ?_
  refine v_aload_n (pc := 25) hX rfl d_Mo_sold_25 ?_
  refine v_iload_n (pc := 26) hX rfl d_Mo_sold_26 ?_
  refine v_iconst (pc := 27) (v := 1) hX (by decide) d_Mo_sold_27 ?_
  refine v_iload_n (pc := 28) hX rfl d_Mo_sold_28 ?_
  refine v_ishl (pc := 29) hX d_Mo_sold_29 ?_
  rw [shl_i3 j (by omega)]
  refine f_callV (pc := 30) hX k_Mo_decides ki_Mo_decides kv_Mo_decides ml_Mo_193 (C_Mo_decides hJ2 hB2 hb h2p h2j) rfl rfl rfl rfl rfl (Nat.le_of_ble_eq_true rfl) (Nat.le_of_ble_eq_true rfl) (Nat.le_of_ble_eq_true rfl) d_Mo_sold_30 ?_
  rw [show dcB (upM J j 3 (J j 3 - 1)) (upM B b 2 (B b 2 - J j 4) b 0) (upM B b 2 (B b 2 - J j 4) b 1) n (2 ^ j) = dkB J B j b from by unfold dcB dkB; rw [bl_one h6 hj, mk_up3, upM_ne (by omega), upM_ne (by omega)]]
  refine f_ifeqB (pc := 33) (tgt := 40) hX d_Mo_sold_33 rfl (fun h33 => ?_) (fun h33 => ?_)
  · refine v_iconst (pc := 40) (v := 0) hX (by decide) d_Mo_sold_40 ?_
    exact f_iret (pc := 41) hX hR (by first | exact bT h33 | exact bF h33) (rfl) d_Mo_sold_41
  · refine v_iconst (pc := 36) (v := 1) hX (by decide) d_Mo_sold_36 ?_
    refine v_goto (pc := 37) (tgt := 41) hX d_Mo_sold_37 rfl ?_
    exact f_iret (pc := 41) hX hR (by first | exact bT h33 | exact bF h33) (rfl) d_Mo_sold_41
theorem d_Mo_sell_0 : decode c_Mo_sell 0 = .ok (.aload_n 0, 1) := by decide +kernel
theorem d_Mo_sell_1 : decode c_Mo_sell 1 = .ok (.iload_n 1, 1) := by decide +kernel
theorem d_Mo_sell_2 : decode c_Mo_sell 2 = .ok (.invokevirtual 176, 3) := by decide +kernel
theorem d_Mo_sell_5 : decode c_Mo_sell 5 = .ok (.ifCond .ne 11, 3) := by decide +kernel
theorem d_Mo_sell_8 : decode c_Mo_sell 8 = .ok (.aload_n 0, 1) := by decide +kernel
theorem d_Mo_sell_9 : decode c_Mo_sell 9 = .ok (.iload_n 2, 1) := by decide +kernel
theorem d_Mo_sell_10 : decode c_Mo_sell 10 = .ok (.invokevirtual 170, 3) := by decide +kernel
theorem d_Mo_sell_13 : decode c_Mo_sell 13 = .ok (.ifCond .eq 5, 3) := by decide +kernel
theorem d_Mo_sell_16 : decode c_Mo_sell 16 = .ok (.iconst (-1), 1) := by decide +kernel
theorem d_Mo_sell_17 : decode c_Mo_sell 17 = .ok (.ireturn, 1) := by decide +kernel
theorem d_Mo_sell_18 : decode c_Mo_sell 18 = .ok (.aload_n 0, 1) := by decide +kernel
theorem d_Mo_sell_19 : decode c_Mo_sell 19 = .ok (.iload_n 1, 1) := by decide +kernel
theorem d_Mo_sell_20 : decode c_Mo_sell 20 = .ok (.iload_n 2, 1) := by decide +kernel
theorem d_Mo_sell_21 : decode c_Mo_sell 21 = .ok (.invokevirtual 196, 3) := by decide +kernel
theorem d_Mo_sell_24 : decode c_Mo_sell 24 = .ok (.ifCond .ne 6, 3) := by decide +kernel
theorem d_Mo_sell_27 : decode c_Mo_sell 27 = .ok (.bipush (-3), 2) := by decide +kernel
theorem d_Mo_sell_29 : decode c_Mo_sell 29 = .ok (.ireturn, 1) := by decide +kernel
theorem d_Mo_sell_30 : decode c_Mo_sell 30 = .ok (.aload_n 0, 1) := by decide +kernel
theorem d_Mo_sell_31 : decode c_Mo_sell 31 = .ok (.iload_n 1, 1) := by decide +kernel
theorem d_Mo_sell_32 : decode c_Mo_sell 32 = .ok (.iload_n 2, 1) := by decide +kernel
theorem d_Mo_sell_33 : decode c_Mo_sell 33 = .ok (.invokevirtual 199, 3) := by decide +kernel
theorem d_Mo_sell_36 : decode c_Mo_sell 36 = .ok (.istore_n 3, 1) := by decide +kernel
theorem d_Mo_sell_37 : decode c_Mo_sell 37 = .ok (.aload_n 0, 1) := by decide +kernel
theorem d_Mo_sell_38 : decode c_Mo_sell 38 = .ok (.getfield 34, 3) := by decide +kernel
theorem d_Mo_sell_41 : decode c_Mo_sell 41 = .ok (.iload_n 1, 1) := by decide +kernel
theorem d_Mo_sell_42 : decode c_Mo_sell 42 = .ok (.dup2, 1) := by decide +kernel
theorem d_Mo_sell_43 : decode c_Mo_sell 43 = .ok (.iaload, 1) := by decide +kernel
theorem d_Mo_sell_44 : decode c_Mo_sell 44 = .ok (.iload_n 3, 1) := by decide +kernel
theorem d_Mo_sell_45 : decode c_Mo_sell 45 = .ok (.iadd, 1) := by decide +kernel
theorem d_Mo_sell_46 : decode c_Mo_sell 46 = .ok (.iastore, 1) := by decide +kernel
theorem d_Mo_sell_47 : decode c_Mo_sell 47 = .ok (.iload_n 3, 1) := by decide +kernel
theorem d_Mo_sell_48 : decode c_Mo_sell 48 = .ok (.ireturn, 1) := by decide +kernel
theorem C_Mo_sell_o1 {M : MM} {n nd : Nat} {J B : JT} (hJ : MJ M n J) (hB : MB M nd B) {x y : Int32} (hx : rg x 0 ((nd : Int) - 1) = false) : AF y_Mo_sell c_Mo_sell 4 (some .int) 6 [vR 36, vI x, vI y] (M) (some (vI (-1))) (M) := by
  refine AF.of k_Mo_sell (lo := [some (vR 36), some (vI x), some (vI y), none]) rfl (Nat.le_of_ble_eq_true rfl) (fun X hX hR => ?_)
  refine v_aload_n (pc := 0) hX rfl d_Mo_sell_0 ?_
  refine v_iload_n (pc := 1) hX rfl d_Mo_sell_1 ?_
  refine f_callV (pc := 2) hX k_Mo_noDecider ki_Mo_noDecider kv_Mo_noDecider ml_Mo_176 (C_Mo_noDecider hB.1 hB.2.1) rfl rfl rfl rfl rfl (Nat.le_of_ble_eq_true rfl) (Nat.le_of_ble_eq_true rfl) (Nat.le_of_ble_eq_true rfl) d_Mo_sell_2 ?_
  rw [hx]
  refine f_ifneB (pc := 5) (tgt := 16) hX d_Mo_sell_5 rfl (fun h5 => ?_) (fun h5 => False.elim (absurd h5 (by decide)))
  refine v_iconst (pc := 16) (v := (-1)) hX (by decide) d_Mo_sell_16 ?_
  exact f_iret (pc := 17) hX hR (rfl) (rfl) d_Mo_sell_17
theorem C_Mo_sell_o2 {M : MM} {n nd : Nat} {J B : JT} (hJ : MJ M n J) (hB : MB M nd B) {b : Nat} {y : Int32} (hb : b < nd) (hy : rg y 0 ((n : Int) - 1) = false) : AF y_Mo_sell c_Mo_sell 4 (some .int) 6 [vR 36, vI (i3 b), vI y] (M) (some (vI (-1))) (M) := by
  have h4 := hB.1
  refine AF.of k_Mo_sell (lo := [some (vR 36), some (vI (i3 b)), some (vI y), none]) rfl (Nat.le_of_ble_eq_true rfl) (fun X hX hR => ?_)
  refine v_aload_n (pc := 0) hX rfl d_Mo_sell_0 ?_
  refine v_iload_n (pc := 1) hX rfl d_Mo_sell_1 ?_
  refine f_callV (pc := 2) hX k_Mo_noDecider ki_Mo_noDecider kv_Mo_noDecider ml_Mo_176 (C_Mo_noDecider hB.1 hB.2.1) rfl rfl rfl rfl rfl (Nat.le_of_ble_eq_true rfl) (Nat.le_of_ble_eq_true rfl) (Nat.le_of_ble_eq_true rfl) d_Mo_sell_2 ?_
  rw [rg_i3 hb (by omega)]
  refine f_ifneB (pc := 5) (tgt := 16) hX d_Mo_sell_5 rfl (fun h5 => False.elim (absurd h5 (by decide))) (fun h5 => ?_)
  refine v_aload_n (pc := 8) hX rfl d_Mo_sell_8 ?_
  refine v_iload_n (pc := 9) hX rfl d_Mo_sell_9 ?_
  refine f_callV (pc := 10) hX k_Mo_noJar ki_Mo_noJar kv_Mo_noJar ml_Mo_170 (C_Mo_noJar hJ.1 hJ.2.1) rfl rfl rfl rfl rfl (Nat.le_of_ble_eq_true rfl) (Nat.le_of_ble_eq_true rfl) (Nat.le_of_ble_eq_true rfl) d_Mo_sell_10 ?_
  rw [hy]
  refine f_ifeqB (pc := 13) (tgt := 18) hX d_Mo_sell_13 rfl (fun h13 => False.elim (absurd h13 (by decide))) (fun h13 => ?_)
  refine v_iconst (pc := 16) (v := (-1)) hX (by decide) d_Mo_sell_16 ?_
  exact f_iret (pc := 17) hX hR (rfl) (rfl) d_Mo_sell_17
theorem C_Mo_sell_st {M : MM} {n nd : Nat} {J B : JT} (hJ : MJ M n J) (hB : MB M nd B) {b j : Nat} (hb : b < nd) (hj : j < n) (hc : ¬ (0 < J j 3 ∧ J j 4 ≤ B b 2)) : AF y_Mo_sell c_Mo_sell 4 (some .int) 6 [vR 36, vI (i3 b), vI (i3 j)] (M) (some (vI (-3))) (M) := by
  have h6 := hJ.1
  have h4 := hB.1
  refine AF.of k_Mo_sell (lo := [some (vR 36), some (vI (i3 b)), some (vI (i3 j)), none]) rfl (Nat.le_of_ble_eq_true rfl) (fun X hX hR => ?_)
  refine v_aload_n (pc := 0) hX rfl d_Mo_sell_0 ?_
  refine v_iload_n (pc := 1) hX rfl d_Mo_sell_1 ?_
  refine f_callV (pc := 2) hX k_Mo_noDecider ki_Mo_noDecider kv_Mo_noDecider ml_Mo_176 (C_Mo_noDecider hB.1 hB.2.1) rfl rfl rfl rfl rfl (Nat.le_of_ble_eq_true rfl) (Nat.le_of_ble_eq_true rfl) (Nat.le_of_ble_eq_true rfl) d_Mo_sell_2 ?_
  rw [rg_i3 hb (by omega)]
  refine f_ifneB (pc := 5) (tgt := 16) hX d_Mo_sell_5 rfl (fun h5 => False.elim (absurd h5 (by decide))) (fun h5 => ?_)
  refine v_aload_n (pc := 8) hX rfl d_Mo_sell_8 ?_
  refine v_iload_n (pc := 9) hX rfl d_Mo_sell_9 ?_
  refine f_callV (pc := 10) hX k_Mo_noJar ki_Mo_noJar kv_Mo_noJar ml_Mo_170 (C_Mo_noJar hJ.1 hJ.2.1) rfl rfl rfl rfl rfl (Nat.le_of_ble_eq_true rfl) (Nat.le_of_ble_eq_true rfl) (Nat.le_of_ble_eq_true rfl) d_Mo_sell_10 ?_
  rw [rg_i3 hj (by omega)]
  refine f_ifeqB (pc := 13) (tgt := 18) hX d_Mo_sell_13 rfl (fun h13 => ?_) (fun h13 => False.elim (absurd h13 (by decide)))
  refine v_aload_n (pc := 18) hX rfl d_Mo_sell_18 ?_
  refine v_iload_n (pc := 19) hX rfl d_Mo_sell_19 ?_
  refine v_iload_n (pc := 20) hX rfl d_Mo_sell_20 ?_
  refine f_callV (pc := 21) hX k_Mo_canSell ki_Mo_canSell kv_Mo_canSell ml_Mo_196 (C_Mo_canSell hJ hB hb hj) rfl rfl rfl rfl rfl (Nat.le_of_ble_eq_true rfl) (Nat.le_of_ble_eq_true rfl) (Nat.le_of_ble_eq_true rfl) d_Mo_sell_21 ?_
  refine f_ifneB (pc := 24) (tgt := 30) hX d_Mo_sell_24 rfl (fun h24 => False.elim (hc (by simpa using h24))) (fun h24 => ?_)
  refine v_bipush (pc := 27) (v := (-3)) hX (by decide) d_Mo_sell_27 ?_
  exact f_iret (pc := 29) hX hR (rfl) (rfl) d_Mo_sell_29
theorem C_Mo_sell_n {M : MM} {n nd : Nat} {J B : JT} (hJ : MJ M n J) (hB : MB M nd B) {b j : Nat} (hb : b < nd) (hj : j < n) (hc : 0 < J j 3 ∧ J j 4 ≤ B b 2) (hd : dkB J B j b = false) : AF y_Mo_sell c_Mo_sell 4 (some .int) 6 [vR 36, vI (i3 b), vI (i3 j)] (M) (some (vI 0)) (upM (upM M 40 j (J j 3 - 1)) 44 b (B b 2 - J j 4)) := by
  have h6 := hJ.1
  have h4 := hB.1
  refine AF.of k_Mo_sell (lo := [some (vR 36), some (vI (i3 b)), some (vI (i3 j)), none]) rfl (Nat.le_of_ble_eq_true rfl) (fun X hX hR => ?_)
  refine v_aload_n (pc := 0) hX rfl d_Mo_sell_0 ?_
  refine v_iload_n (pc := 1) hX rfl d_Mo_sell_1 ?_
  refine f_callV (pc := 2) hX k_Mo_noDecider ki_Mo_noDecider kv_Mo_noDecider ml_Mo_176 (C_Mo_noDecider hB.1 hB.2.1) rfl rfl rfl rfl rfl (Nat.le_of_ble_eq_true rfl) (Nat.le_of_ble_eq_true rfl) (Nat.le_of_ble_eq_true rfl) d_Mo_sell_2 ?_
  rw [rg_i3 hb (by omega)]
  refine f_ifneB (pc := 5) (tgt := 16) hX d_Mo_sell_5 rfl (fun h5 => False.elim (absurd h5 (by decide))) (fun h5 => ?_)
  refine v_aload_n (pc := 8) hX rfl d_Mo_sell_8 ?_
  refine v_iload_n (pc := 9) hX rfl d_Mo_sell_9 ?_
  refine f_callV (pc := 10) hX k_Mo_noJar ki_Mo_noJar kv_Mo_noJar ml_Mo_170 (C_Mo_noJar hJ.1 hJ.2.1) rfl rfl rfl rfl rfl (Nat.le_of_ble_eq_true rfl) (Nat.le_of_ble_eq_true rfl) (Nat.le_of_ble_eq_true rfl) d_Mo_sell_10 ?_
  rw [rg_i3 hj (by omega)]
  refine f_ifeqB (pc := 13) (tgt := 18) hX d_Mo_sell_13 rfl (fun h13 => ?_) (fun h13 => False.elim (absurd h13 (by decide)))
  refine v_aload_n (pc := 18) hX rfl d_Mo_sell_18 ?_
  refine v_iload_n (pc := 19) hX rfl d_Mo_sell_19 ?_
  refine v_iload_n (pc := 20) hX rfl d_Mo_sell_20 ?_
  refine f_callV (pc := 21) hX k_Mo_canSell ki_Mo_canSell kv_Mo_canSell ml_Mo_196 (C_Mo_canSell hJ hB hb hj) rfl rfl rfl rfl rfl (Nat.le_of_ble_eq_true rfl) (Nat.le_of_ble_eq_true rfl) (Nat.le_of_ble_eq_true rfl) d_Mo_sell_21 ?_
  refine f_ifneB (pc := 24) (tgt := 30) hX d_Mo_sell_24 rfl (fun h24 => ?_) (fun h24 => False.elim (by simp [hc.1, hc.2] at h24))
  refine v_aload_n (pc := 30) hX rfl d_Mo_sell_30 ?_
  refine v_iload_n (pc := 31) hX rfl d_Mo_sell_31 ?_
  refine v_iload_n (pc := 32) hX rfl d_Mo_sell_32 ?_
  refine f_callV (pc := 33) hX k_Mo_sold ki_Mo_sold kv_Mo_sold ml_Mo_199 (C_Mo_sold hJ hB hb hj) rfl rfl rfl rfl rfl (Nat.le_of_ble_eq_true rfl) (Nat.le_of_ble_eq_true rfl) (Nat.le_of_ble_eq_true rfl) d_Mo_sell_33 ?_
  rw [hd]
  refine v_istore_n (pc := 36) (lo' := [some (vR _), some (vI _), some (vI _), some (vI _)]) hX (Nat.le_of_ble_eq_true rfl) rfl d_Mo_sell_36 ?_
  refine v_aload_n (pc := 37) hX rfl d_Mo_sell_37 ?_
  refine g_getR (pc := 38) hX fl_Mo_34 rfl rfl nf_36_11 d_Mo_sell_38 ?_
  refine v_iload_n (pc := 41) hX rfl d_Mo_sell_41 ?_
  refine v_dup2 (pc := 42) hX rfl rfl d_Mo_sell_42 ?_
  refine g_iald (pc := 43) hX rfl (IX.of (n := 4) (by omega) (by decide)) d_Mo_sell_43 ?_
  rw [upM_ne (by omega), upM_ne (by omega), show M 45 b = B b 3 from hB.2.2.1 b hb 3 (by decide)]
  refine v_iload_n (pc := 44) hX rfl d_Mo_sell_44 ?_
  refine v_iadd (pc := 45) hX d_Mo_sell_45 ?_
  refine g_iast (pc := 46) hX rfl (IX.of (n := 4) (by omega) (by decide)) d_Mo_sell_46 ?_
  refine v_iload_n (pc := 47) hX rfl d_Mo_sell_47 ?_
  exact f_iret (pc := 48) hX hR (rfl) (by rw [show B b 3 + bI false = B b 3 from Int32.add_zero _]; exact upM_back2 (by rw [upM_ne (by omega), upM_ne (by omega)]; exact hB.2.2.1 b hb 3 (by decide))) d_Mo_sell_48
theorem C_Mo_sell_y {M : MM} {n nd : Nat} {J B : JT} (hJ : MJ M n J) (hB : MB M nd B) {b j : Nat} (hb : b < nd) (hj : j < n) (hc : 0 < J j 3 ∧ J j 4 ≤ B b 2) (hd : dkB J B j b = true) : AF y_Mo_sell c_Mo_sell 4 (some .int) 6 [vR 36, vI (i3 b), vI (i3 j)] (M) (some (vI 1)) (upM (upM (upM M 40 j (J j 3 - 1)) 44 b (B b 2 - J j 4)) 45 b (B b 3 + 1)) := by
  have h6 := hJ.1
  have h4 := hB.1
  refine AF.of k_Mo_sell (lo := [some (vR 36), some (vI (i3 b)), some (vI (i3 j)), none]) rfl (Nat.le_of_ble_eq_true rfl) (fun X hX hR => ?_)
  refine v_aload_n (pc := 0) hX rfl d_Mo_sell_0 ?_
  refine v_iload_n (pc := 1) hX rfl d_Mo_sell_1 ?_
  refine f_callV (pc := 2) hX k_Mo_noDecider ki_Mo_noDecider kv_Mo_noDecider ml_Mo_176 (C_Mo_noDecider hB.1 hB.2.1) rfl rfl rfl rfl rfl (Nat.le_of_ble_eq_true rfl) (Nat.le_of_ble_eq_true rfl) (Nat.le_of_ble_eq_true rfl) d_Mo_sell_2 ?_
  rw [rg_i3 hb (by omega)]
  refine f_ifneB (pc := 5) (tgt := 16) hX d_Mo_sell_5 rfl (fun h5 => False.elim (absurd h5 (by decide))) (fun h5 => ?_)
  refine v_aload_n (pc := 8) hX rfl d_Mo_sell_8 ?_
  refine v_iload_n (pc := 9) hX rfl d_Mo_sell_9 ?_
  refine f_callV (pc := 10) hX k_Mo_noJar ki_Mo_noJar kv_Mo_noJar ml_Mo_170 (C_Mo_noJar hJ.1 hJ.2.1) rfl rfl rfl rfl rfl (Nat.le_of_ble_eq_true rfl) (Nat.le_of_ble_eq_true rfl) (Nat.le_of_ble_eq_true rfl) d_Mo_sell_10 ?_
  rw [rg_i3 hj (by omega)]
  refine f_ifeqB (pc := 13) (tgt := 18) hX d_Mo_sell_13 rfl (fun h13 => ?_) (fun h13 => False.elim (absurd h13 (by decide)))
  refine v_aload_n (pc := 18) hX rfl d_Mo_sell_18 ?_
  refine v_iload_n (pc := 19) hX rfl d_Mo_sell_19 ?_
  refine v_iload_n (pc := 20) hX rfl d_Mo_sell_20 ?_
  refine f_callV (pc := 21) hX k_Mo_canSell ki_Mo_canSell kv_Mo_canSell ml_Mo_196 (C_Mo_canSell hJ hB hb hj) rfl rfl rfl rfl rfl (Nat.le_of_ble_eq_true rfl) (Nat.le_of_ble_eq_true rfl) (Nat.le_of_ble_eq_true rfl) d_Mo_sell_21 ?_
  refine f_ifneB (pc := 24) (tgt := 30) hX d_Mo_sell_24 rfl (fun h24 => ?_) (fun h24 => False.elim (by simp [hc.1, hc.2] at h24))
  refine v_aload_n (pc := 30) hX rfl d_Mo_sell_30 ?_
  refine v_iload_n (pc := 31) hX rfl d_Mo_sell_31 ?_
  refine v_iload_n (pc := 32) hX rfl d_Mo_sell_32 ?_
  refine f_callV (pc := 33) hX k_Mo_sold ki_Mo_sold kv_Mo_sold ml_Mo_199 (C_Mo_sold hJ hB hb hj) rfl rfl rfl rfl rfl (Nat.le_of_ble_eq_true rfl) (Nat.le_of_ble_eq_true rfl) (Nat.le_of_ble_eq_true rfl) d_Mo_sell_33 ?_
  rw [hd]
  refine v_istore_n (pc := 36) (lo' := [some (vR _), some (vI _), some (vI _), some (vI _)]) hX (Nat.le_of_ble_eq_true rfl) rfl d_Mo_sell_36 ?_
  refine v_aload_n (pc := 37) hX rfl d_Mo_sell_37 ?_
  refine g_getR (pc := 38) hX fl_Mo_34 rfl rfl nf_36_11 d_Mo_sell_38 ?_
  refine v_iload_n (pc := 41) hX rfl d_Mo_sell_41 ?_
  refine v_dup2 (pc := 42) hX rfl rfl d_Mo_sell_42 ?_
  refine g_iald (pc := 43) hX rfl (IX.of (n := 4) (by omega) (by decide)) d_Mo_sell_43 ?_
  rw [upM_ne (by omega), upM_ne (by omega), show M 45 b = B b 3 from hB.2.2.1 b hb 3 (by decide)]
  refine v_iload_n (pc := 44) hX rfl d_Mo_sell_44 ?_
  refine v_iadd (pc := 45) hX d_Mo_sell_45 ?_
  refine g_iast (pc := 46) hX rfl (IX.of (n := 4) (by omega) (by decide)) d_Mo_sell_46 ?_
  refine v_iload_n (pc := 47) hX rfl d_Mo_sell_47 ?_
  exact f_iret (pc := 48) hX hR (rfl) (rfl) d_Mo_sell_48
