/-! The model: a year. -/
theorem d_Mo_arePairs_0 : decode c_Mo_arePairs 0 = .ok (.iconst 1, 1) := by decide +kernel
theorem d_Mo_arePairs_1 : decode c_Mo_arePairs 1 = .ok (.istore_n 3, 1) := by decide +kernel
theorem d_Mo_arePairs_2 : decode c_Mo_arePairs 2 = .ok (.iconst 0, 1) := by decide +kernel
theorem d_Mo_arePairs_3 : decode c_Mo_arePairs 3 = .ok (.istore 4, 2) := by decide +kernel
theorem d_Mo_arePairs_5 : decode c_Mo_arePairs 5 = .ok (.iload 4, 2) := by decide +kernel
theorem d_Mo_arePairs_7 : decode c_Mo_arePairs 7 = .ok (.iload_n 2, 1) := by decide +kernel
theorem d_Mo_arePairs_8 : decode c_Mo_arePairs 8 = .ok (.if_icmp .ge 57, 3) := by decide +kernel
theorem d_Mo_arePairs_11 : decode c_Mo_arePairs 11 = .ok (.iload_n 3, 1) := by decide +kernel
theorem d_Mo_arePairs_12 : decode c_Mo_arePairs 12 = .ok (.ifCond .eq 45, 3) := by decide +kernel
theorem d_Mo_arePairs_15 : decode c_Mo_arePairs 15 = .ok (.aload_n 0, 1) := by decide +kernel
theorem d_Mo_arePairs_16 : decode c_Mo_arePairs 16 = .ok (.aload_n 0, 1) := by decide +kernel
theorem d_Mo_arePairs_17 : decode c_Mo_arePairs 17 = .ok (.getfield 85, 3) := by decide +kernel
theorem d_Mo_arePairs_20 : decode c_Mo_arePairs 20 = .ok (.iload_n 1, 1) := by decide +kernel
theorem d_Mo_arePairs_21 : decode c_Mo_arePairs 21 = .ok (.iconst 2, 1) := by decide +kernel
theorem d_Mo_arePairs_22 : decode c_Mo_arePairs 22 = .ok (.iload 4, 2) := by decide +kernel
theorem d_Mo_arePairs_24 : decode c_Mo_arePairs 24 = .ok (.imul, 1) := by decide +kernel
theorem d_Mo_arePairs_25 : decode c_Mo_arePairs 25 = .ok (.iadd, 1) := by decide +kernel
theorem d_Mo_arePairs_26 : decode c_Mo_arePairs 26 = .ok (.iaload, 1) := by decide +kernel
theorem d_Mo_arePairs_27 : decode c_Mo_arePairs 27 = .ok (.invokevirtual 176, 3) := by decide +kernel
theorem d_Mo_arePairs_30 : decode c_Mo_arePairs 30 = .ok (.ifCond .ne 27, 3) := by decide +kernel
theorem d_Mo_arePairs_33 : decode c_Mo_arePairs 33 = .ok (.aload_n 0, 1) := by decide +kernel
theorem d_Mo_arePairs_34 : decode c_Mo_arePairs 34 = .ok (.aload_n 0, 1) := by decide +kernel
theorem d_Mo_arePairs_35 : decode c_Mo_arePairs 35 = .ok (.getfield 85, 3) := by decide +kernel
theorem d_Mo_arePairs_38 : decode c_Mo_arePairs 38 = .ok (.iload_n 1, 1) := by decide +kernel
theorem d_Mo_arePairs_39 : decode c_Mo_arePairs 39 = .ok (.iconst 2, 1) := by decide +kernel
theorem d_Mo_arePairs_40 : decode c_Mo_arePairs 40 = .ok (.iload 4, 2) := by decide +kernel
theorem d_Mo_arePairs_42 : decode c_Mo_arePairs 42 = .ok (.imul, 1) := by decide +kernel
theorem d_Mo_arePairs_43 : decode c_Mo_arePairs 43 = .ok (.iadd, 1) := by decide +kernel
theorem d_Mo_arePairs_44 : decode c_Mo_arePairs 44 = .ok (.iconst 1, 1) := by decide +kernel
theorem d_Mo_arePairs_45 : decode c_Mo_arePairs 45 = .ok (.iadd, 1) := by decide +kernel
theorem d_Mo_arePairs_46 : decode c_Mo_arePairs 46 = .ok (.iaload, 1) := by decide +kernel
theorem d_Mo_arePairs_47 : decode c_Mo_arePairs 47 = .ok (.invokevirtual 170, 3) := by decide +kernel
theorem d_Mo_arePairs_50 : decode c_Mo_arePairs 50 = .ok (.ifCond .ne 7, 3) := by decide +kernel
theorem d_Mo_arePairs_53 : decode c_Mo_arePairs 53 = .ok (.iconst 1, 1) := by decide +kernel
theorem d_Mo_arePairs_54 : decode c_Mo_arePairs 54 = .ok (.goto 4, 3) := by decide +kernel
theorem d_Mo_arePairs_57 : decode c_Mo_arePairs 57 = .ok (.iconst 0, 1) := by decide +kernel
theorem d_Mo_arePairs_58 : decode c_Mo_arePairs 58 = .ok (.istore_n 3, 1) := by decide +kernel
theorem d_Mo_arePairs_59 : decode c_Mo_arePairs 59 = .ok (.iinc 4 1, 3) := by decide +kernel
theorem d_Mo_arePairs_62 : decode c_Mo_arePairs 62 = .ok (.goto (-57), 3) := by decide +kernel
theorem d_Mo_arePairs_65 : decode c_Mo_arePairs 65 = .ok (.iload_n 3, 1) := by decide +kernel
theorem d_Mo_arePairs_66 : decode c_Mo_arePairs 66 = .ok (.ireturn, 1) := by decide +kernel
theorem C_Mo_arePairs {M : MM} {n nd m F : Nat} {J B : JT} {q : Nat → Int32} (hJ : MJ M n J) (hB : MB M nd B) (hF : F + 2 * m ≤ 240) (hq : ∀ t, t < 2 * m → M 62 (F + t) = q t) : AF y_Mo_arePairs c_Mo_arePairs 5 (some .boolean) 3 [vR 36, vI (i3 F), vI (i3 m)] (M) (some (vI (bI (allB (fun p => rg (q (2 * p)) 0 ((nd : Int) - 1) && rg (q (2 * p + 1)) 0 ((n : Int) - 1)) m)))) (M) := by
  refine AF.of k_Mo_arePairs (lo := [some (vR 36), some (vI (i3 F)), some (vI (i3 m)), none, none]) rfl (Nat.le_of_ble_eq_true rfl) (fun X hX hR => ?_)
  refine v_iconst (pc := 0) (v := 1) hX (by decide) d_Mo_arePairs_0 ?_
  refine v_istore_n (pc := 1) (lo' := [some (vR _), some (vI _), some (vI _), some (vI _), none]) hX (Nat.le_of_ble_eq_true rfl) rfl d_Mo_arePairs_1 ?_
  refine v_iconst (pc := 2) (v := 0) hX (by decide) d_Mo_arePairs_2 ?_
  refine v_istore (pc := 3) (lo' := [some (vR _), some (vI _), some (vI _), some (vI _), some (vI _)]) hX (Nat.le_of_ble_eq_true rfl) rfl d_Mo_arePairs_3 ?_
  refine VW.cast (lo' := [some (vR 36), some (vI (i3 F)), some (vI (i3 m)), some (vI (bI (allB (fun p => rg (q (2 * p)) 0 ((nd : Int) - 1) && rg (q (2 * p + 1)) 0 ((n : Int) - 1)) 0))), some (vI (i3 0))]) (st' := []) (G' := gM (M)) rfl rfl rfl ?_
  refine v_for (X := X) (head := 5) (m) (fun kk => [some (vR 36), some (vI (i3 F)), some (vI (i3 m)), some (vI (bI (allB (fun p => rg (q (2 * p)) 0 ((nd : Int) - 1) && rg (q (2 * p + 1)) 0 ((n : Int) - 1)) kk))), some (vI (i3 kk))]) (fun kk => M) (fun k hk ih5 => ?_) ?_
  · show VW X 5 [some (vR 36), some (vI (i3 F)), some (vI (i3 m)), some (vI (bI (allB (fun p => rg (q (2 * p)) 0 ((nd : Int) - 1) && rg (q (2 * p + 1)) 0 ((n : Int) - 1)) k))), some (vI (i3 k))] [] (gM (M))
    refine v_iload (pc := 5) hX rfl d_Mo_arePairs_5 ?_
    refine v_iload_n (pc := 7) hX rfl d_Mo_arePairs_7 ?_
    refine v_icmp_ge (pc := 8) (tgt := 65) hX d_Mo_arePairs_8 rfl (fun h8 => False.elim (i3_ge_abs hk (by omega) h8)) (fun h8 => ?_)
    refine v_iload_n (pc := 11) hX rfl d_Mo_arePairs_11 ?_
    refine f_ifeqB (pc := 12) (tgt := 57) hX d_Mo_arePairs_12 rfl (fun h12 => ?_) (fun h12 => ?_)
    · have e : allB (fun p => rg (q (2 * p)) 0 ((nd : Int) - 1) && rg (q (2 * p + 1)) 0 ((n : Int) - 1)) (k + 1) = false := allB_f h12
      refine v_iconst (pc := 57) (v := 0) hX (by decide) d_Mo_arePairs_57 ?_
      refine v_istore_n (pc := 58) (lo' := [some (vR _), some (vI _), some (vI _), some (vI _), some (vI _)]) hX (Nat.le_of_ble_eq_true rfl) rfl d_Mo_arePairs_58 ?_
      refine v_iinc (pc := 59) (lo' := [some (vR _), some (vI _), some (vI _), some (vI _), some (vI _)]) hX rfl rfl d_Mo_arePairs_59 ?_
      refine v_goto (pc := 62) (tgt := 5) hX d_Mo_arePairs_62 rfl ?_
      exact VW.cast (by rw [e, i3_succ]; rfl) rfl rfl ih5
    · refine v_aload_n (pc := 15) hX rfl d_Mo_arePairs_15 ?_
      refine v_aload_n (pc := 16) hX rfl d_Mo_arePairs_16 ?_
      refine g_getR (pc := 17) hX fl_Mo_85 rfl rfl nf_36_33 d_Mo_arePairs_17 ?_
      refine v_iload_n (pc := 20) hX rfl d_Mo_arePairs_20 ?_
      refine v_iconst (pc := 21) (v := 2) hX (by decide) d_Mo_arePairs_21 ?_
      refine v_iload (pc := 22) hX rfl d_Mo_arePairs_22 ?_
      refine v_imul (pc := 24) hX d_Mo_arePairs_24 ?_
      refine v_iadd (pc := 25) hX d_Mo_arePairs_25 ?_
      rw [i3_dbl]
      refine g_iald (pc := 26) hX rfl (IX.of (n := 240) (by omega) (by decide)) d_Mo_arePairs_26 ?_
      rw [show F + 2 * k = F + (2 * k) by omega, hq _ (by omega)]
      refine f_callV (pc := 27) hX k_Mo_noDecider ki_Mo_noDecider kv_Mo_noDecider ml_Mo_176 (C_Mo_noDecider hB.1 hB.2.1) rfl rfl rfl rfl rfl (Nat.le_of_ble_eq_true rfl) (Nat.le_of_ble_eq_true rfl) (Nat.le_of_ble_eq_true rfl) d_Mo_arePairs_27 ?_
      refine f_ifneB (pc := 30) (tgt := 57) hX d_Mo_arePairs_30 rfl (fun h30 => ?_) (fun h30 => ?_)
      · have e : allB (fun p => rg (q (2 * p)) 0 ((nd : Int) - 1) && rg (q (2 * p + 1)) 0 ((n : Int) - 1)) (k + 1) = false := allB_f2 (by rw [show rg (q (2 * k)) 0 ((nd : Int) - 1) = false from by simpa using h30]; rfl)
        refine v_iconst (pc := 57) (v := 0) hX (by decide) d_Mo_arePairs_57 ?_
        refine v_istore_n (pc := 58) (lo' := [some (vR _), some (vI _), some (vI _), some (vI _), some (vI _)]) hX (Nat.le_of_ble_eq_true rfl) rfl d_Mo_arePairs_58 ?_
        refine v_iinc (pc := 59) (lo' := [some (vR _), some (vI _), some (vI _), some (vI _), some (vI _)]) hX rfl rfl d_Mo_arePairs_59 ?_
        refine v_goto (pc := 62) (tgt := 5) hX d_Mo_arePairs_62 rfl ?_
        exact VW.cast (by rw [e, i3_succ]; rfl) rfl rfl ih5
      · refine v_aload_n (pc := 33) hX rfl d_Mo_arePairs_33 ?_
        refine v_aload_n (pc := 34) hX rfl d_Mo_arePairs_34 ?_
        refine g_getR (pc := 35) hX fl_Mo_85 rfl rfl nf_36_33 d_Mo_arePairs_35 ?_
        refine v_iload_n (pc := 38) hX rfl d_Mo_arePairs_38 ?_
        refine v_iconst (pc := 39) (v := 2) hX (by decide) d_Mo_arePairs_39 ?_
        refine v_iload (pc := 40) hX rfl d_Mo_arePairs_40 ?_
        refine v_imul (pc := 42) hX d_Mo_arePairs_42 ?_
        refine v_iadd (pc := 43) hX d_Mo_arePairs_43 ?_
        refine v_iconst (pc := 44) (v := 1) hX (by decide) d_Mo_arePairs_44 ?_
        refine v_iadd (pc := 45) hX d_Mo_arePairs_45 ?_
        rw [i3_dbl, ← i3_succ]
        refine g_iald (pc := 46) hX rfl (IX.of (n := 240) (by omega) (by decide)) d_Mo_arePairs_46 ?_
        rw [show F + 2 * k + 1 = F + (2 * k + 1) by omega, hq _ (by omega)]
        refine f_callV (pc := 47) hX k_Mo_noJar ki_Mo_noJar kv_Mo_noJar ml_Mo_170 (C_Mo_noJar hJ.1 hJ.2.1) rfl rfl rfl rfl rfl (Nat.le_of_ble_eq_true rfl) (Nat.le_of_ble_eq_true rfl) (Nat.le_of_ble_eq_true rfl) d_Mo_arePairs_47 ?_
        refine f_ifneB (pc := 50) (tgt := 57) hX d_Mo_arePairs_50 rfl (fun h50 => ?_) (fun h50 => ?_)
        · have e : allB (fun p => rg (q (2 * p)) 0 ((nd : Int) - 1) && rg (q (2 * p + 1)) 0 ((n : Int) - 1)) (k + 1) = false := allB_f2 (by rw [show rg (q (2 * k + 1)) 0 ((n : Int) - 1) = false from by simpa using h50]; simp)
          refine v_iconst (pc := 57) (v := 0) hX (by decide) d_Mo_arePairs_57 ?_
          refine v_istore_n (pc := 58) (lo' := [some (vR _), some (vI _), some (vI _), some (vI _), some (vI _)]) hX (Nat.le_of_ble_eq_true rfl) rfl d_Mo_arePairs_58 ?_
          refine v_iinc (pc := 59) (lo' := [some (vR _), some (vI _), some (vI _), some (vI _), some (vI _)]) hX rfl rfl d_Mo_arePairs_59 ?_
          refine v_goto (pc := 62) (tgt := 5) hX d_Mo_arePairs_62 rfl ?_
          exact VW.cast (by rw [e, i3_succ]; rfl) rfl rfl ih5
        · have e : allB (fun p => rg (q (2 * p)) 0 ((nd : Int) - 1) && rg (q (2 * p + 1)) 0 ((n : Int) - 1)) (k + 1) = true := allB_s h12 (by rw [show rg (q (2 * k)) 0 ((nd : Int) - 1) = true from by simpa using h30, show rg (q (2 * k + 1)) 0 ((n : Int) - 1) = true from by simpa using h50]; rfl)
          refine v_iconst (pc := 53) (v := 1) hX (by decide) d_Mo_arePairs_53 ?_
          refine v_goto (pc := 54) (tgt := 58) hX d_Mo_arePairs_54 rfl ?_
          refine v_istore_n (pc := 58) (lo' := [some (vR _), some (vI _), some (vI _), some (vI _), some (vI _)]) hX (Nat.le_of_ble_eq_true rfl) rfl d_Mo_arePairs_58 ?_
          refine v_iinc (pc := 59) (lo' := [some (vR _), some (vI _), some (vI _), some (vI _), some (vI _)]) hX rfl rfl d_Mo_arePairs_59 ?_
          refine v_goto (pc := 62) (tgt := 5) hX d_Mo_arePairs_62 rfl ?_
          exact VW.cast (by rw [e, i3_succ]; rfl) rfl rfl ih5
  · show VW X 5 [some (vR 36), some (vI (i3 F)), some (vI (i3 m)), some (vI (bI (allB (fun p => rg (q (2 * p)) 0 ((nd : Int) - 1) && rg (q (2 * p + 1)) 0 ((n : Int) - 1)) (m)))), some (vI (i3 (m)))] [] (gM (M))
    refine v_iload (pc := 5) hX rfl d_Mo_arePairs_5 ?_
    refine v_iload_n (pc := 7) hX rfl d_Mo_arePairs_7 ?_
    refine v_icmp_ge (pc := 8) (tgt := 65) hX d_Mo_arePairs_8 rfl (fun h8 => ?_) (fun h8 => False.elim (absurd (Int32.le_refl _) h8))
    refine v_iload_n (pc := 65) hX rfl d_Mo_arePairs_65 ?_
    exact f_zret (pc := 66) hX hR (rfl) (rfl) d_Mo_arePairs_66
def YX (M : MM) (n nd : Nat) (s : YS) : MM := fun a i => if a = 40 ∧ i < n then s.1.1 i else if a = 44 ∧ i < nd then s.1.2 i else M a i
def setH (J : JT) (s : YS) : JT := fun j k => if k = 3 then s.1.1 j else J j k
def setP (B : JT) (s : YS) : JT := fun j k => if k = 2 then s.1.2 j else B j k
theorem YX_ne {M : MM} {n nd a i : Nat} {s : YS} (h : a ≠ 40) (h2 : a ≠ 44) : YX M n nd s a i = M a i := by
  unfold YX
  rw [if_neg (fun w => h w.1), if_neg (fun w => h2 w.1)]
theorem YX_h {M : MM} {n nd i : Nat} {s : YS} (h : i < n) : YX M n nd s 40 i = s.1.1 i := if_pos ⟨rfl, h⟩
theorem YX_p {M : MM} {n nd i : Nat} {s : YS} (h : i < nd) : YX M n nd s 44 i = s.1.2 i := by
  unfold YX
  rw [if_neg (by omega), if_pos ⟨rfl, h⟩]
theorem YX_J {M : MM} {n nd : Nat} {J : JT} {s : YS} (h : MJ M n J) : MJ (YX M n nd s) n (setH J s) := by
  obtain ⟨h1, h2, h3, h4⟩ := h
  refine ⟨h1, by rw [YX_ne (by decide) (by decide)]; exact h2, fun j hj k hk => ?_, fun j hj => by rw [show setH J s j 0 = J j 0 from if_neg (by decide)]; exact h4 j hj⟩
  unfold setH
  by_cases e : k = 3
  · subst e
    rw [if_pos rfl]; exact YX_h hj
  · rw [if_neg e, YX_ne (by omega) (by omega)]; exact h3 j hj k hk
theorem YX_B {M : MM} {n nd : Nat} {B : JT} {s : YS} (h : MB M nd B) : MB (YX M n nd s) nd (setP B s) := by
  obtain ⟨h1, h2, h3, h4⟩ := h
  refine ⟨h1, by rw [YX_ne (by decide) (by decide)]; exact h2, fun j hj k hk => ?_, fun j hj => by rw [show setP B s j 1 = B j 1 from if_neg (by decide)]; exact h4 j hj⟩
  unfold setP
  by_cases e : k = 2
  · subst e
    rw [if_pos rfl]; exact YX_p hj
  · rw [if_neg e, YX_ne (by omega) (by omega)]; exact h3 j hj k hk
theorem YX_take {M : MM} {n nd b j p : Nat} {J B : JT} {s : YS} (hj : j < n) (hb : b < nd) (h0 : s.2.2 = 0) (hc : ycan J b j s = true) : upM (upM (YX M n nd s) 40 j (setH J s j 3 - 1)) 44 b (setP B s b 2 - setH J s j 4) = YX M n nd (yst J B b j p s) := by
  have e : yst J B b j p s = ((upF s.1.1 j (s.1.1 j - 1), upF s.1.2 b (s.1.2 b - J j 4)), (s.2.1.1 + bI (dkB J B j b), s.2.1.2 + J j 4), 0) := by
    unfold yst; rw [if_pos h0, if_pos hc]
  have e3 : setH J s j 3 = s.1.1 j := if_pos rfl
  have e4 : setH J s j 4 = J j 4 := if_neg (by decide)
  have e5 : setP B s b 2 = s.1.2 b := if_pos rfl
  rw [e, e3, e4, e5]
  funext a i
  simp only [upM, YX, upF]
  by_cases h1 : a = 44 ∧ i = b
  · rw [if_pos h1, if_neg (by omega), if_pos (by omega), if_pos h1.2]
  · rw [if_neg h1]
    by_cases h2 : a = 40 ∧ i = j
    · rw [if_pos h2, if_pos (by omega), if_pos h2.2]
    · rw [if_neg h2]
      by_cases h3 : a = 40 ∧ i < n
      · rw [if_pos h3, if_pos h3, if_neg (fun w => h2 ⟨h3.1, w⟩)]
      · rw [if_neg h3, if_neg h3]
        by_cases h4 : a = 44 ∧ i < nd
        · rw [if_pos h4, if_pos h4, if_neg (fun w => h1 ⟨h4.1, w⟩)]
        · rw [if_neg h4, if_neg h4]
def wrI (s : YS) : Int32 := if s.2.2 = 0 then -9 else i3 (s.2.2 - 1)
theorem yst_no {J B : JT} {b j p : Nat} {s : YS} (h0 : s.2.2 = 0) (hc : ycan J b j s = false) : yst J B b j p s = (s.1, s.2.1, p + 1) := by
  unfold yst; rw [if_pos h0, hc]; rfl
theorem yst_yes {J B : JT} {b j p : Nat} {s : YS} (h0 : s.2.2 = 0) (hc : ycan J b j s = true) : (yst J B b j p s).2 = ((s.2.1.1 + bI (dkB J B j b), s.2.1.2 + J j 4), 0) := by
  unfold yst; rw [if_pos h0, if_pos hc]
theorem can_eq {J B : JT} {b j : Nat} {s : YS} : (decide (0 < setH J s j 3) && decide (setH J s j 4 ≤ setP B s b 2)) = ycan J b j s := by
  have e3 : setH J s j 3 = s.1.1 j := if_pos rfl
  have e4 : setH J s j 4 = J j 4 := if_neg (by decide)
  have e5 : setP B s b 2 = s.1.2 b := if_pos rfl
  rw [e3, e4, e5]; rfl
theorem dk_eq {J B : JT} {b j : Nat} {s : YS} : dkB (setH J s) (setP B s) j b = dkB J B j b := by
  have e0 : setP B s b 0 = B b 0 := if_neg (by decide)
  have e1 : setP B s b 1 = B b 1 := if_neg (by decide)
  unfold dkB mk
  rw [e0, e1]
  have k0 : setH J s j 0 = J j 0 := if_neg (by decide)
  have k1 : setH J s j 1 = J j 1 := if_neg (by decide)
  have k2 : setH J s j 2 = J j 2 := if_neg (by decide)
  rw [k0, k1, k2]
theorem YX_0 {M : MM} {n nd : Nat} {J B : JT} {pb pj : Nat → Nat} (hJ : MJ M n J) (hB : MB M nd B) : YX M n nd (yr J B pb pj 0) = M := by
  funext a i
  unfold YX
  by_cases h1 : a = 40 ∧ i < n
  · rw [if_pos h1, h1.1]; exact (hJ.2.2.1 i h1.2 3 (by decide)).symm
  · rw [if_neg h1]
    by_cases h2 : a = 44 ∧ i < nd
    · rw [if_pos h2, h2.1]; exact (hB.2.2.1 i h2.2 2 (by decide)).symm
    · rw [if_neg h2]
theorem d_Mo_yearBy_0 : decode c_Mo_yearBy 0 = .ok (.bipush (-9), 2) := by decide +kernel
theorem d_Mo_yearBy_2 : decode c_Mo_yearBy 2 = .ok (.istore 4, 2) := by decide +kernel
theorem d_Mo_yearBy_4 : decode c_Mo_yearBy 4 = .ok (.iconst 0, 1) := by decide +kernel
theorem d_Mo_yearBy_5 : decode c_Mo_yearBy 5 = .ok (.istore 5, 2) := by decide +kernel
theorem d_Mo_yearBy_7 : decode c_Mo_yearBy 7 = .ok (.iconst 0, 1) := by decide +kernel
theorem d_Mo_yearBy_8 : decode c_Mo_yearBy 8 = .ok (.istore 6, 2) := by decide +kernel
theorem d_Mo_yearBy_10 : decode c_Mo_yearBy 10 = .ok (.iconst 0, 1) := by decide +kernel
theorem d_Mo_yearBy_11 : decode c_Mo_yearBy 11 = .ok (.istore 7, 2) := by decide +kernel
theorem d_Mo_yearBy_13 : decode c_Mo_yearBy 13 = .ok (.iload 7, 2) := by decide +kernel
theorem d_Mo_yearBy_15 : decode c_Mo_yearBy 15 = .ok (.iload_n 2, 1) := by decide +kernel
theorem d_Mo_yearBy_16 : decode c_Mo_yearBy 16 = .ok (.if_icmp .ge 85, 3) := by decide +kernel
theorem d_Mo_yearBy_19 : decode c_Mo_yearBy 19 = .ok (.iload 4, 2) := by decide +kernel
theorem d_Mo_yearBy_21 : decode c_Mo_yearBy 21 = .ok (.ifCond .ge 80, 3) := by decide +kernel
theorem d_Mo_yearBy_24 : decode c_Mo_yearBy 24 = .ok (.aload_n 0, 1) := by decide +kernel
theorem d_Mo_yearBy_25 : decode c_Mo_yearBy 25 = .ok (.getfield 85, 3) := by decide +kernel
theorem d_Mo_yearBy_28 : decode c_Mo_yearBy 28 = .ok (.iload_n 1, 1) := by decide +kernel
theorem d_Mo_yearBy_29 : decode c_Mo_yearBy 29 = .ok (.iconst 2, 1) := by decide +kernel
theorem d_Mo_yearBy_30 : decode c_Mo_yearBy 30 = .ok (.iload 7, 2) := by decide +kernel
theorem d_Mo_yearBy_32 : decode c_Mo_yearBy 32 = .ok (.imul, 1) := by decide +kernel
theorem d_Mo_yearBy_33 : decode c_Mo_yearBy 33 = .ok (.iadd, 1) := by decide +kernel
theorem d_Mo_yearBy_34 : decode c_Mo_yearBy 34 = .ok (.iaload, 1) := by decide +kernel
theorem d_Mo_yearBy_35 : decode c_Mo_yearBy 35 = .ok (.istore 8, 2) := by decide +kernel
theorem d_Mo_yearBy_37 : decode c_Mo_yearBy 37 = .ok (.aload_n 0, 1) := by decide +kernel
theorem d_Mo_yearBy_38 : decode c_Mo_yearBy 38 = .ok (.getfield 85, 3) := by decide +kernel
theorem d_Mo_yearBy_41 : decode c_Mo_yearBy 41 = .ok (.iload_n 1, 1) := by decide +kernel
theorem d_Mo_yearBy_42 : decode c_Mo_yearBy 42 = .ok (.iconst 2, 1) := by decide +kernel
theorem d_Mo_yearBy_43 : decode c_Mo_yearBy 43 = .ok (.iload 7, 2) := by decide +kernel
theorem d_Mo_yearBy_45 : decode c_Mo_yearBy 45 = .ok (.imul, 1) := by decide +kernel
theorem d_Mo_yearBy_46 : decode c_Mo_yearBy 46 = .ok (.iadd, 1) := by decide +kernel
theorem d_Mo_yearBy_47 : decode c_Mo_yearBy 47 = .ok (.iconst 1, 1) := by decide +kernel
theorem d_Mo_yearBy_48 : decode c_Mo_yearBy 48 = .ok (.iadd, 1) := by decide +kernel
theorem d_Mo_yearBy_49 : decode c_Mo_yearBy 49 = .ok (.iaload, 1) := by decide +kernel
theorem d_Mo_yearBy_50 : decode c_Mo_yearBy 50 = .ok (.istore 9, 2) := by decide +kernel
theorem d_Mo_yearBy_52 : decode c_Mo_yearBy 52 = .ok (.aload_n 0, 1) := by decide +kernel
theorem d_Mo_yearBy_53 : decode c_Mo_yearBy 53 = .ok (.iload 8, 2) := by decide +kernel
theorem d_Mo_yearBy_55 : decode c_Mo_yearBy 55 = .ok (.iload 9, 2) := by decide +kernel
theorem d_Mo_yearBy_57 : decode c_Mo_yearBy 57 = .ok (.invokevirtual 196, 3) := by decide +kernel
theorem d_Mo_yearBy_60 : decode c_Mo_yearBy 60 = .ok (.ifCond .eq 31, 3) := by decide +kernel
theorem d_Mo_yearBy_63 : decode c_Mo_yearBy 63 = .ok (.iload 5, 2) := by decide +kernel
theorem d_Mo_yearBy_65 : decode c_Mo_yearBy 65 = .ok (.aload_n 0, 1) := by decide +kernel
theorem d_Mo_yearBy_66 : decode c_Mo_yearBy 66 = .ok (.iload 8, 2) := by decide +kernel
theorem d_Mo_yearBy_68 : decode c_Mo_yearBy 68 = .ok (.iload 9, 2) := by decide +kernel
theorem d_Mo_yearBy_70 : decode c_Mo_yearBy 70 = .ok (.invokevirtual 199, 3) := by decide +kernel
theorem d_Mo_yearBy_73 : decode c_Mo_yearBy 73 = .ok (.iadd, 1) := by decide +kernel
theorem d_Mo_yearBy_74 : decode c_Mo_yearBy 74 = .ok (.istore 5, 2) := by decide +kernel
theorem d_Mo_yearBy_76 : decode c_Mo_yearBy 76 = .ok (.iload 6, 2) := by decide +kernel
theorem d_Mo_yearBy_78 : decode c_Mo_yearBy 78 = .ok (.aload_n 0, 1) := by decide +kernel
theorem d_Mo_yearBy_79 : decode c_Mo_yearBy 79 = .ok (.getfield 22, 3) := by decide +kernel
theorem d_Mo_yearBy_82 : decode c_Mo_yearBy 82 = .ok (.iload 9, 2) := by decide +kernel
theorem d_Mo_yearBy_84 : decode c_Mo_yearBy 84 = .ok (.iaload, 1) := by decide +kernel
theorem d_Mo_yearBy_85 : decode c_Mo_yearBy 85 = .ok (.iadd, 1) := by decide +kernel
theorem d_Mo_yearBy_86 : decode c_Mo_yearBy 86 = .ok (.istore 6, 2) := by decide +kernel
theorem d_Mo_yearBy_88 : decode c_Mo_yearBy 88 = .ok (.goto 7, 3) := by decide +kernel
theorem d_Mo_yearBy_91 : decode c_Mo_yearBy 91 = .ok (.iload 7, 2) := by decide +kernel
theorem d_Mo_yearBy_93 : decode c_Mo_yearBy 93 = .ok (.istore 4, 2) := by decide +kernel
theorem d_Mo_yearBy_95 : decode c_Mo_yearBy 95 = .ok (.iinc 7 1, 3) := by decide +kernel
theorem d_Mo_yearBy_98 : decode c_Mo_yearBy 98 = .ok (.goto (-85), 3) := by decide +kernel
theorem d_Mo_yearBy_101 : decode c_Mo_yearBy 101 = .ok (.iload_n 3, 1) := by decide +kernel
theorem d_Mo_yearBy_102 : decode c_Mo_yearBy 102 = .ok (.iconst 1, 1) := by decide +kernel
theorem d_Mo_yearBy_103 : decode c_Mo_yearBy 103 = .ok (.if_icmp .ne 6, 3) := by decide +kernel
theorem d_Mo_yearBy_106 : decode c_Mo_yearBy 106 = .ok (.iload 4, 2) := by decide +kernel
theorem d_Mo_yearBy_108 : decode c_Mo_yearBy 108 = .ok (.ireturn, 1) := by decide +kernel
theorem d_Mo_yearBy_109 : decode c_Mo_yearBy 109 = .ok (.iload 4, 2) := by decide +kernel
theorem d_Mo_yearBy_111 : decode c_Mo_yearBy 111 = .ok (.ifCond .lt 9, 3) := by decide +kernel
theorem d_Mo_yearBy_114 : decode c_Mo_yearBy 114 = .ok (.bipush (-100), 2) := by decide +kernel
theorem d_Mo_yearBy_116 : decode c_Mo_yearBy 116 = .ok (.iload 4, 2) := by decide +kernel
theorem d_Mo_yearBy_118 : decode c_Mo_yearBy 118 = .ok (.isub, 1) := by decide +kernel
theorem d_Mo_yearBy_119 : decode c_Mo_yearBy 119 = .ok (.ireturn, 1) := by decide +kernel
theorem d_Mo_yearBy_120 : decode c_Mo_yearBy 120 = .ok (.iload_n 3, 1) := by decide +kernel
theorem d_Mo_yearBy_121 : decode c_Mo_yearBy 121 = .ok (.bipush 20, 2) := by decide +kernel
theorem d_Mo_yearBy_123 : decode c_Mo_yearBy 123 = .ok (.if_icmp .lt 29, 3) := by decide +kernel
theorem d_Mo_yearBy_126 : decode c_Mo_yearBy 126 = .ok (.aload_n 0, 1) := by decide +kernel
theorem d_Mo_yearBy_127 : decode c_Mo_yearBy 127 = .ok (.iload_n 3, 1) := by decide +kernel
theorem d_Mo_yearBy_128 : decode c_Mo_yearBy 128 = .ok (.bipush 20, 2) := by decide +kernel
theorem d_Mo_yearBy_130 : decode c_Mo_yearBy 130 = .ok (.isub, 1) := by decide +kernel
theorem d_Mo_yearBy_131 : decode c_Mo_yearBy 131 = .ok (.invokevirtual 176, 3) := by decide +kernel
theorem d_Mo_yearBy_134 : decode c_Mo_yearBy 134 = .ok (.ifCond .eq 8, 3) := by decide +kernel
theorem d_Mo_yearBy_137 : decode c_Mo_yearBy 137 = .ok (.bipush (-9), 2) := by decide +kernel
theorem d_Mo_yearBy_139 : decode c_Mo_yearBy 139 = .ok (.goto 12, 3) := by decide +kernel
theorem d_Mo_yearBy_142 : decode c_Mo_yearBy 142 = .ok (.aload_n 0, 1) := by decide +kernel
theorem d_Mo_yearBy_143 : decode c_Mo_yearBy 143 = .ok (.getfield 31, 3) := by decide +kernel
theorem d_Mo_yearBy_146 : decode c_Mo_yearBy 146 = .ok (.iload_n 3, 1) := by decide +kernel
theorem d_Mo_yearBy_147 : decode c_Mo_yearBy 147 = .ok (.bipush 20, 2) := by decide +kernel
theorem d_Mo_yearBy_149 : decode c_Mo_yearBy 149 = .ok (.isub, 1) := by decide +kernel
theorem d_Mo_yearBy_150 : decode c_Mo_yearBy 150 = .ok (.iaload, 1) := by decide +kernel
theorem d_Mo_yearBy_151 : decode c_Mo_yearBy 151 = .ok (.ireturn, 1) := by decide +kernel
theorem d_Mo_yearBy_152 : decode c_Mo_yearBy 152 = .ok (.iload_n 3, 1) := by decide +kernel
theorem d_Mo_yearBy_153 : decode c_Mo_yearBy 153 = .ok (.bipush 10, 2) := by decide +kernel
theorem d_Mo_yearBy_155 : decode c_Mo_yearBy 155 = .ok (.if_icmp .lt 29, 3) := by decide +kernel
theorem d_Mo_yearBy_158 : decode c_Mo_yearBy 158 = .ok (.aload_n 0, 1) := by decide +kernel
theorem d_Mo_yearBy_159 : decode c_Mo_yearBy 159 = .ok (.iload_n 3, 1) := by decide +kernel
theorem d_Mo_yearBy_160 : decode c_Mo_yearBy 160 = .ok (.bipush 10, 2) := by decide +kernel
theorem d_Mo_yearBy_162 : decode c_Mo_yearBy 162 = .ok (.isub, 1) := by decide +kernel
theorem d_Mo_yearBy_163 : decode c_Mo_yearBy 163 = .ok (.invokevirtual 170, 3) := by decide +kernel
theorem d_Mo_yearBy_166 : decode c_Mo_yearBy 166 = .ok (.ifCond .eq 8, 3) := by decide +kernel
theorem d_Mo_yearBy_169 : decode c_Mo_yearBy 169 = .ok (.bipush (-9), 2) := by decide +kernel
theorem d_Mo_yearBy_171 : decode c_Mo_yearBy 171 = .ok (.goto 12, 3) := by decide +kernel
theorem d_Mo_yearBy_174 : decode c_Mo_yearBy 174 = .ok (.aload_n 0, 1) := by decide +kernel
theorem d_Mo_yearBy_175 : decode c_Mo_yearBy 175 = .ok (.getfield 19, 3) := by decide +kernel
theorem d_Mo_yearBy_178 : decode c_Mo_yearBy 178 = .ok (.iload_n 3, 1) := by decide +kernel
theorem d_Mo_yearBy_179 : decode c_Mo_yearBy 179 = .ok (.bipush 10, 2) := by decide +kernel
theorem d_Mo_yearBy_181 : decode c_Mo_yearBy 181 = .ok (.isub, 1) := by decide +kernel
theorem d_Mo_yearBy_182 : decode c_Mo_yearBy 182 = .ok (.iaload, 1) := by decide +kernel
theorem d_Mo_yearBy_183 : decode c_Mo_yearBy 183 = .ok (.ireturn, 1) := by decide +kernel
theorem d_Mo_yearBy_184 : decode c_Mo_yearBy 184 = .ok (.iconst 0, 1) := by decide +kernel
theorem d_Mo_yearBy_185 : decode c_Mo_yearBy 185 = .ok (.istore 7, 2) := by decide +kernel
theorem d_Mo_yearBy_187 : decode c_Mo_yearBy 187 = .ok (.iconst 0, 1) := by decide +kernel
theorem d_Mo_yearBy_188 : decode c_Mo_yearBy 188 = .ok (.istore 8, 2) := by decide +kernel
theorem d_Mo_yearBy_190 : decode c_Mo_yearBy 190 = .ok (.iload 8, 2) := by decide +kernel
theorem d_Mo_yearBy_192 : decode c_Mo_yearBy 192 = .ok (.aload_n 0, 1) := by decide +kernel
theorem d_Mo_yearBy_193 : decode c_Mo_yearBy 193 = .ok (.getfield 101, 3) := by decide +kernel
theorem d_Mo_yearBy_196 : decode c_Mo_yearBy 196 = .ok (.if_icmp .ge 32, 3) := by decide +kernel
theorem d_Mo_yearBy_199 : decode c_Mo_yearBy 199 = .ok (.iload 7, 2) := by decide +kernel
theorem d_Mo_yearBy_201 : decode c_Mo_yearBy 201 = .ok (.aload_n 0, 1) := by decide +kernel
theorem d_Mo_yearBy_202 : decode c_Mo_yearBy 202 = .ok (.getfield 19, 3) := by decide +kernel
theorem d_Mo_yearBy_205 : decode c_Mo_yearBy 205 = .ok (.iload 8, 2) := by decide +kernel
theorem d_Mo_yearBy_207 : decode c_Mo_yearBy 207 = .ok (.iaload, 1) := by decide +kernel
theorem d_Mo_yearBy_208 : decode c_Mo_yearBy 208 = .ok (.ifCond .ne 10, 3) := by decide +kernel
theorem d_Mo_yearBy_211 : decode c_Mo_yearBy 211 = .ok (.iconst 1, 1) := by decide +kernel
theorem d_Mo_yearBy_212 : decode c_Mo_yearBy 212 = .ok (.iload 8, 2) := by decide +kernel
theorem d_Mo_yearBy_214 : decode c_Mo_yearBy 214 = .ok (.ishl, 1) := by decide +kernel
theorem d_Mo_yearBy_215 : decode c_Mo_yearBy 215 = .ok (.goto 4, 3) := by decide +kernel
theorem d_Mo_yearBy_218 : decode c_Mo_yearBy 218 = .ok (.iconst 0, 1) := by decide +kernel
theorem d_Mo_yearBy_219 : decode c_Mo_yearBy 219 = .ok (.ior, 1) := by decide +kernel
theorem d_Mo_yearBy_220 : decode c_Mo_yearBy 220 = .ok (.istore 7, 2) := by decide +kernel
theorem d_Mo_yearBy_222 : decode c_Mo_yearBy 222 = .ok (.iinc 8 1, 3) := by decide +kernel
theorem d_Mo_yearBy_225 : decode c_Mo_yearBy 225 = .ok (.goto (-35), 3) := by decide +kernel
theorem d_Mo_yearBy_228 : decode c_Mo_yearBy 228 = .ok (.iload_n 3, 1) := by decide +kernel
theorem d_Mo_yearBy_229 : decode c_Mo_yearBy 229 = .ok (.ifCond .ne 8, 3) := by decide +kernel
theorem d_Mo_yearBy_232 : decode c_Mo_yearBy 232 = .ok (.iload 5, 2) := by decide +kernel
theorem d_Mo_yearBy_234 : decode c_Mo_yearBy 234 = .ok (.goto 15, 3) := by decide +kernel
theorem d_Mo_yearBy_237 : decode c_Mo_yearBy 237 = .ok (.iload_n 3, 1) := by decide +kernel
theorem d_Mo_yearBy_238 : decode c_Mo_yearBy 238 = .ok (.iconst 2, 1) := by decide +kernel
theorem d_Mo_yearBy_239 : decode c_Mo_yearBy 239 = .ok (.if_icmp .ne 8, 3) := by decide +kernel
theorem d_Mo_yearBy_242 : decode c_Mo_yearBy 242 = .ok (.iload 6, 2) := by decide +kernel
theorem d_Mo_yearBy_244 : decode c_Mo_yearBy 244 = .ok (.goto 5, 3) := by decide +kernel
theorem d_Mo_yearBy_247 : decode c_Mo_yearBy 247 = .ok (.iload 7, 2) := by decide +kernel
theorem d_Mo_yearBy_249 : decode c_Mo_yearBy 249 = .ok (.ireturn, 1) := by decide +kernel
set_option maxHeartbeats 8000000 in
theorem C_Mo_yearBy {M : MM} {n nd m F : Nat} {J B : JT} {q : Nat → Int32} (hJ : MJ M n J) (hB : MB M nd B) (hF : F + 2 * m ≤ 240) (hq : ∀ t, t < 2 * m → M 62 (F + t) = q t) {pb pj : Nat → Nat} {w : Int32} (hm : m < 21) (htd : tdB w = true) (hpb : ∀ p, p < m → pb p < nd ∧ q (2 * p) = i3 (pb p)) (hpj : ∀ p, p < m → pj p < n ∧ q (2 * p + 1) = i3 (pj p)) : AF y_Mo_yearBy c_Mo_yearBy 10 (some .int) 6 [vR 36, vI (i3 F), vI (i3 m), vI w] (M) (some (vI (yaN n nd (yr J B pb pj m) w))) (YX M n nd (yr J B pb pj m)) := by
  have h6 := hJ.1
  have h4 := hB.1
  have hM1 : ∀ s, YX M n nd s 36 1 = i3 n := fun s => by rw [YX_ne (by decide) (by decide)]; exact hJ.2.1
  have hM7 : ∀ s, YX M n nd s 36 7 = i3 nd := fun s => by rw [YX_ne (by decide) (by decide)]; exact hB.2.1
  have hyl := yr_le J B pb pj m
  have htd2 : (0 ≤ w.toInt ∧ w.toInt ≤ 3) ∨ (10 ≤ w.toInt ∧ w.toInt ≤ 15) ∨ (20 ≤ w.toInt ∧ w.toInt ≤ 23) := by
    unfold tdB at htd
    simp only [Bool.or_eq_true, rg_true] at htd
    exact htd
  refine AF.of k_Mo_yearBy (lo := [some (vR 36), some (vI (i3 F)), some (vI (i3 m)), some (vI w), none, none, none, none, none, none]) rfl (Nat.le_of_ble_eq_true rfl) (fun X hX hR => ?_)
  have j101 : ∀ (_ : Nat), True → VW X 101 [some (vR 36), some (vI (i3 F)), some (vI (i3 m)), some (vI w), some (vI (wrI (yr J B pb pj m))), some (vI (yr J B pb pj m).2.1.1), some (vI (yr J B pb pj m).2.1.2), none, none, none] [] (gM (YX M n nd (yr J B pb pj m))) := by
    intro _ _
    refine v_iload_n (pc := 101) hX rfl d_Mo_yearBy_101 ?_
    refine v_iconst (pc := 102) (v := 1) hX (by decide) d_Mo_yearBy_102 ?_
    refine v_icmp_ne (pc := 103) (tgt := 109) hX d_Mo_yearBy_103 rfl (fun h103 => ?_) (fun h103 => ?_)
    · refine v_iload (pc := 109) hX rfl d_Mo_yearBy_109 ?_
      refine v_if_lt (pc := 111) (tgt := 120) hX d_Mo_yearBy_111 rfl (fun h111 => ?_) (fun h111 => ?_)
      · have hw : ¬ (yr J B pb pj m).2.2 ≠ 0 := fun e => by unfold wrI at h111; rw [if_neg e] at h111; have := (i3_lt (b := 0) (by omega) (by decide)).mp h111; omega
        refine v_iload_n (pc := 120) hX rfl d_Mo_yearBy_120 ?_
        refine v_bipush (pc := 121) (v := 20) hX (by decide) d_Mo_yearBy_121 ?_
        refine v_icmp_lt (pc := 123) (tgt := 152) hX d_Mo_yearBy_123 rfl (fun h123 => ?_) (fun h123 => ?_)
        · refine v_iload_n (pc := 152) hX rfl d_Mo_yearBy_152 ?_
          refine v_bipush (pc := 153) (v := 10) hX (by decide) d_Mo_yearBy_153 ?_
          refine v_icmp_lt (pc := 155) (tgt := 184) hX d_Mo_yearBy_155 rfl (fun h155 => ?_) (fun h155 => ?_)
          · refine v_iconst (pc := 184) (v := 0) hX (by decide) d_Mo_yearBy_184 ?_
            refine v_istore (pc := 185) (lo' := [some (vR _), some (vI _), some (vI _), some (vI _), some (vI _), some (vI _), some (vI _), some (vI _), none, none]) hX (Nat.le_of_ble_eq_true rfl) rfl d_Mo_yearBy_185 ?_
            refine v_iconst (pc := 187) (v := 0) hX (by decide) d_Mo_yearBy_187 ?_
            refine v_istore (pc := 188) (lo' := [some (vR _), some (vI _), some (vI _), some (vI _), some (vI _), some (vI _), some (vI _), some (vI _), some (vI _), none]) hX (Nat.le_of_ble_eq_true rfl) rfl d_Mo_yearBy_188 ?_
            refine VW.cast (lo' := [some (vR 36), some (vI (i3 F)), some (vI (i3 m)), some (vI w), some (vI (wrI (yr J B pb pj m))), some (vI (yr J B pb pj m).2.1.1), some (vI (yr J B pb pj m).2.1.2), some (vI (i3 (gjN (fun j => decide ((yr J B pb pj m).1.1 j = 0)) 0))), some (vI (i3 0)), none]) (st' := []) (G' := gM (YX M n nd (yr J B pb pj m))) rfl rfl rfl ?_
            refine v_for (X := X) (head := 190) (n) (fun kk => [some (vR 36), some (vI (i3 F)), some (vI (i3 m)), some (vI w), some (vI (wrI (yr J B pb pj m))), some (vI (yr J B pb pj m).2.1.1), some (vI (yr J B pb pj m).2.1.2), some (vI (i3 (gjN (fun j => decide ((yr J B pb pj m).1.1 j = 0)) kk))), some (vI (i3 kk)), none]) (fun kk => YX M n nd (yr J B pb pj m)) (fun k hk ih190 => ?_) ?_
            · show VW X 190 [some (vR 36), some (vI (i3 F)), some (vI (i3 m)), some (vI w), some (vI (wrI (yr J B pb pj m))), some (vI (yr J B pb pj m).2.1.1), some (vI (yr J B pb pj m).2.1.2), some (vI (i3 (gjN (fun j => decide ((yr J B pb pj m).1.1 j = 0)) k))), some (vI (i3 k)), none] [] (gM (YX M n nd (yr J B pb pj m)))
              have hb := shl_i3 k (by omega)
              have hl := gjN_lt (fun j => decide ((yr J B pb pj m).1.1 j = 0)) k
              refine v_iload (pc := 190) hX rfl d_Mo_yearBy_190 ?_
              refine v_aload_n (pc := 192) hX rfl d_Mo_yearBy_192 ?_
              refine g_getI (pc := 193) hX fl_Mo_101 rfl rfl d_Mo_yearBy_193 ?_
              rw [hM1]
              refine v_icmp_ge (pc := 196) (tgt := 228) hX d_Mo_yearBy_196 rfl (fun h196 => False.elim (i3_ge_abs hk (by omega) h196)) (fun h196 => ?_)
              refine v_iload (pc := 199) hX rfl d_Mo_yearBy_199 ?_
              refine v_aload_n (pc := 201) hX rfl d_Mo_yearBy_201 ?_
              refine g_getR (pc := 202) hX fl_Mo_19 rfl rfl nf_36_5 d_Mo_yearBy_202 ?_
              refine v_iload (pc := 205) hX rfl d_Mo_yearBy_205 ?_
              refine g_iald (pc := 207) hX rfl (IX.of (n := 6) (by omega) (by decide)) d_Mo_yearBy_207 ?_
              rw [YX_h hk]
              refine v_if_ne (pc := 208) (tgt := 218) hX d_Mo_yearBy_208 rfl (fun h208 => ?_) (fun h208 => ?_)
              · have e : gjN (fun j => decide ((yr J B pb pj m).1.1 j = 0)) (k + 1) = gjN (fun j => decide ((yr J B pb pj m).1.1 j = 0)) k := by simp [gjN, h208]
                refine v_iconst (pc := 218) (v := 0) hX (by decide) d_Mo_yearBy_218 ?_
                refine v_ior (pc := 219) hX d_Mo_yearBy_219 ?_
                refine v_istore (pc := 220) (lo' := [some (vR _), some (vI _), some (vI _), some (vI _), some (vI _), some (vI _), some (vI _), some (vI _), some (vI _), none]) hX (Nat.le_of_ble_eq_true rfl) rfl d_Mo_yearBy_220 ?_
                refine v_iinc (pc := 222) (lo' := [some (vR _), some (vI _), some (vI _), some (vI _), some (vI _), some (vI _), some (vI _), some (vI _), some (vI _), none]) hX rfl rfl d_Mo_yearBy_222 ?_
                refine v_goto (pc := 225) (tgt := 190) hX d_Mo_yearBy_225 rfl ?_
                exact VW.cast (by first | (rw [e, i3_succ, hb, or_i3 k (by omega) _ hl]; rfl) | (rw [e, i3_succ, or_0]; rfl)) rfl rfl ih190
              · have e : gjN (fun j => decide ((yr J B pb pj m).1.1 j = 0)) (k + 1) = gjN (fun j => decide ((yr J B pb pj m).1.1 j = 0)) k + 2 ^ k := by simp [gjN, h208]
                refine v_iconst (pc := 211) (v := 1) hX (by decide) d_Mo_yearBy_211 ?_
                refine v_iload (pc := 212) hX rfl d_Mo_yearBy_212 ?_
                refine v_ishl (pc := 214) hX d_Mo_yearBy_214 ?_
                refine v_goto (pc := 215) (tgt := 219) hX d_Mo_yearBy_215 rfl ?_
                refine v_ior (pc := 219) hX d_Mo_yearBy_219 ?_
                refine v_istore (pc := 220) (lo' := [some (vR _), some (vI _), some (vI _), some (vI _), some (vI _), some (vI _), some (vI _), some (vI _), some (vI _), none]) hX (Nat.le_of_ble_eq_true rfl) rfl d_Mo_yearBy_220 ?_
                refine v_iinc (pc := 222) (lo' := [some (vR _), some (vI _), some (vI _), some (vI _), some (vI _), some (vI _), some (vI _), some (vI _), some (vI _), none]) hX rfl rfl d_Mo_yearBy_222 ?_
                refine v_goto (pc := 225) (tgt := 190) hX d_Mo_yearBy_225 rfl ?_
                exact VW.cast (by first | (rw [e, i3_succ, hb, or_i3 k (by omega) _ hl]; rfl) | (rw [e, i3_succ, or_0]; rfl)) rfl rfl ih190
            · show VW X 190 [some (vR 36), some (vI (i3 F)), some (vI (i3 m)), some (vI w), some (vI (wrI (yr J B pb pj m))), some (vI (yr J B pb pj m).2.1.1), some (vI (yr J B pb pj m).2.1.2), some (vI (i3 (gjN (fun j => decide ((yr J B pb pj m).1.1 j = 0)) (n)))), some (vI (i3 (n))), none] [] (gM (YX M n nd (yr J B pb pj m)))
              refine v_iload (pc := 190) hX rfl d_Mo_yearBy_190 ?_
              refine v_aload_n (pc := 192) hX rfl d_Mo_yearBy_192 ?_
              refine g_getI (pc := 193) hX fl_Mo_101 rfl rfl d_Mo_yearBy_193 ?_
              rw [hM1]
              refine v_icmp_ge (pc := 196) (tgt := 228) hX d_Mo_yearBy_196 rfl (fun h196 => ?_) (fun h196 => False.elim (absurd (Int32.le_refl _) h196))
              refine v_iload_n (pc := 228) hX rfl d_Mo_yearBy_228 ?_
              refine v_if_ne (pc := 229) (tgt := 237) hX d_Mo_yearBy_229 rfl (fun h229 => ?_) (fun h229 => ?_)
              · refine v_iload_n (pc := 237) hX rfl d_Mo_yearBy_237 ?_
                refine v_iconst (pc := 238) (v := 2) hX (by decide) d_Mo_yearBy_238 ?_
                refine v_icmp_ne (pc := 239) (tgt := 247) hX d_Mo_yearBy_239 rfl (fun h239 => ?_) (fun h239 => ?_)
                · refine v_iload (pc := 247) hX rfl d_Mo_yearBy_247 ?_
                  exact f_iret (pc := 249) hX hR (by unfold yaN; rw [if_neg h103, if_neg hw]; first | (rw [if_pos (by simpa using h229)]) | (rw [if_neg h229, if_pos (by simpa using h239)]) | (rw [if_neg h229, if_neg h239, if_pos (by simp only [eq32, lt32, q_0, q_1, q_2, q_3, q_10] at *; omega)])) (rfl) d_Mo_yearBy_249
                · refine v_iload (pc := 242) hX rfl d_Mo_yearBy_242 ?_
                  refine v_goto (pc := 244) (tgt := 249) hX d_Mo_yearBy_244 rfl ?_
                  exact f_iret (pc := 249) hX hR (by unfold yaN; rw [if_neg h103, if_neg hw]; first | (rw [if_pos (by simpa using h229)]) | (rw [if_neg h229, if_pos (by simpa using h239)]) | (rw [if_neg h229, if_neg h239, if_pos (by simp only [eq32, lt32, q_0, q_1, q_2, q_3, q_10] at *; omega)])) (rfl) d_Mo_yearBy_249
              · refine v_iload (pc := 232) hX rfl d_Mo_yearBy_232 ?_
                refine v_goto (pc := 234) (tgt := 249) hX d_Mo_yearBy_234 rfl ?_
                exact f_iret (pc := 249) hX hR (by unfold yaN; rw [if_neg h103, if_neg hw]; first | (rw [if_pos (by simpa using h229)]) | (rw [if_neg h229, if_pos (by simpa using h239)]) | (rw [if_neg h229, if_neg h239, if_pos (by simp only [eq32, lt32, q_0, q_1, q_2, q_3, q_10] at *; omega)])) (rfl) d_Mo_yearBy_249
          · refine v_aload_n (pc := 158) hX rfl d_Mo_yearBy_158 ?_
            refine v_iload_n (pc := 159) hX rfl d_Mo_yearBy_159 ?_
            refine v_bipush (pc := 160) (v := 10) hX (by decide) d_Mo_yearBy_160 ?_
            refine v_isub (pc := 162) hX d_Mo_yearBy_162 ?_
            refine f_callV (pc := 163) hX k_Mo_noJar ki_Mo_noJar kv_Mo_noJar ml_Mo_170 (C_Mo_noJar h6 (hM1 _)) rfl rfl rfl rfl rfl (Nat.le_of_ble_eq_true rfl) (Nat.le_of_ble_eq_true rfl) (Nat.le_of_ble_eq_true rfl) d_Mo_yearBy_163 ?_
            refine f_ifeqB (pc := 166) (tgt := 174) hX d_Mo_yearBy_166 rfl (fun h166 => ?_) (fun h166 => ?_)
            · have hr : rg (w - 10) 0 ((n : Int) - 1) = true := by simpa using h166
              obtain ⟨y, hy, hx⟩ := rg_in (by omega) hr
              have hix : IX (w - 10) y 6 := by rw [hx]; exact IX.of (by omega) (by decide)
              refine v_aload_n (pc := 174) hX rfl d_Mo_yearBy_174 ?_
              refine g_getR (pc := 175) hX fl_Mo_19 rfl rfl nf_36_5 d_Mo_yearBy_175 ?_
              refine v_iload_n (pc := 178) hX rfl d_Mo_yearBy_178 ?_
              refine v_bipush (pc := 179) (v := 10) hX (by decide) d_Mo_yearBy_179 ?_
              refine v_isub (pc := 181) hX d_Mo_yearBy_181 ?_
              refine g_iald (pc := 182) hX rfl hix d_Mo_yearBy_182 ?_
              exact f_iret (pc := 183) hX hR (by unfold yaN; rw [if_neg h103, if_neg hw, if_neg (by simp only [eq32, lt32, q_0, q_10] at *; omega), if_neg (by simp only [eq32, lt32, q_2, q_10] at *; omega), if_neg (by simp only [eq32, lt32, q_3, q_10] at *; omega), if_pos h123]; first | (rw [if_pos hr, hix.1, YX_h hy]) | (rw [if_neg (by rw [hr]; decide)])) (rfl) d_Mo_yearBy_183
            · have hr : rg (w - 10) 0 ((n : Int) - 1) = false := by simpa using h166
              refine v_bipush (pc := 169) (v := (-9)) hX (by decide) d_Mo_yearBy_169 ?_
              refine v_goto (pc := 171) (tgt := 183) hX d_Mo_yearBy_171 rfl ?_
              exact f_iret (pc := 183) hX hR (by unfold yaN; rw [if_neg h103, if_neg hw, if_neg (by simp only [eq32, lt32, q_0, q_10] at *; omega), if_neg (by simp only [eq32, lt32, q_2, q_10] at *; omega), if_neg (by simp only [eq32, lt32, q_3, q_10] at *; omega), if_pos h123]; first | (rw [if_pos hr, hix.1, YX_h hy]) | (rw [if_neg (by rw [hr]; decide)])) (rfl) d_Mo_yearBy_183
        · refine v_aload_n (pc := 126) hX rfl d_Mo_yearBy_126 ?_
          refine v_iload_n (pc := 127) hX rfl d_Mo_yearBy_127 ?_
          refine v_bipush (pc := 128) (v := 20) hX (by decide) d_Mo_yearBy_128 ?_
          refine v_isub (pc := 130) hX d_Mo_yearBy_130 ?_
          refine f_callV (pc := 131) hX k_Mo_noDecider ki_Mo_noDecider kv_Mo_noDecider ml_Mo_176 (C_Mo_noDecider h4 (hM7 _)) rfl rfl rfl rfl rfl (Nat.le_of_ble_eq_true rfl) (Nat.le_of_ble_eq_true rfl) (Nat.le_of_ble_eq_true rfl) d_Mo_yearBy_131 ?_
          refine f_ifeqB (pc := 134) (tgt := 142) hX d_Mo_yearBy_134 rfl (fun h134 => ?_) (fun h134 => ?_)
          · have hr : rg (w - 20) 0 ((nd : Int) - 1) = true := by simpa using h134
            obtain ⟨y, hy, hx⟩ := rg_in (by omega) hr
            have hix : IX (w - 20) y 4 := by rw [hx]; exact IX.of (by omega) (by decide)
            refine v_aload_n (pc := 142) hX rfl d_Mo_yearBy_142 ?_
            refine g_getR (pc := 143) hX fl_Mo_31 rfl rfl nf_36_10 d_Mo_yearBy_143 ?_
            refine v_iload_n (pc := 146) hX rfl d_Mo_yearBy_146 ?_
            refine v_bipush (pc := 147) (v := 20) hX (by decide) d_Mo_yearBy_147 ?_
            refine v_isub (pc := 149) hX d_Mo_yearBy_149 ?_
            refine g_iald (pc := 150) hX rfl hix d_Mo_yearBy_150 ?_
            exact f_iret (pc := 151) hX hR (by unfold yaN; rw [if_neg h103, if_neg hw, if_neg (by simp only [eq32, lt32, q_0, q_20] at *; omega), if_neg (by simp only [eq32, lt32, q_2, q_20] at *; omega), if_neg (by simp only [eq32, lt32, q_3, q_20] at *; omega), if_neg h123]; first | (rw [if_pos hr, hix.1, YX_p hy]) | (rw [if_neg (by rw [hr]; decide)])) (rfl) d_Mo_yearBy_151
          · have hr : rg (w - 20) 0 ((nd : Int) - 1) = false := by simpa using h134
            refine v_bipush (pc := 137) (v := (-9)) hX (by decide) d_Mo_yearBy_137 ?_
            refine v_goto (pc := 139) (tgt := 151) hX d_Mo_yearBy_139 rfl ?_
            exact f_iret (pc := 151) hX hR (by unfold yaN; rw [if_neg h103, if_neg hw, if_neg (by simp only [eq32, lt32, q_0, q_20] at *; omega), if_neg (by simp only [eq32, lt32, q_2, q_20] at *; omega), if_neg (by simp only [eq32, lt32, q_3, q_20] at *; omega), if_neg h123]; first | (rw [if_pos hr, hix.1, YX_p hy]) | (rw [if_neg (by rw [hr]; decide)])) (rfl) d_Mo_yearBy_151
      · have hw : (yr J B pb pj m).2.2 ≠ 0 := fun e => h111 (by unfold wrI; rw [if_pos e]; decide)
        refine v_bipush (pc := 114) (v := (-100)) hX (by decide) d_Mo_yearBy_114 ?_
        refine v_iload (pc := 116) hX rfl d_Mo_yearBy_116 ?_
        refine v_isub (pc := 118) hX d_Mo_yearBy_118 ?_
        exact f_iret (pc := 119) hX hR (by unfold yaN wrI; rw [if_neg h103, if_pos hw, if_neg hw]) (rfl) d_Mo_yearBy_119
    · refine v_iload (pc := 106) hX rfl d_Mo_yearBy_106 ?_
      exact f_iret (pc := 108) hX hR (by unfold yaN; rw [if_pos (by simpa using h103)]; rfl) (rfl) d_Mo_yearBy_108
  refine v_bipush (pc := 0) (v := (-9)) hX (by decide) d_Mo_yearBy_0 ?_
  refine v_istore (pc := 2) (lo' := [some (vR _), some (vI _), some (vI _), some (vI _), some (vI _), none, none, none, none, none]) hX (Nat.le_of_ble_eq_true rfl) rfl d_Mo_yearBy_2 ?_
  refine v_iconst (pc := 4) (v := 0) hX (by decide) d_Mo_yearBy_4 ?_
  refine v_istore (pc := 5) (lo' := [some (vR _), some (vI _), some (vI _), some (vI _), some (vI _), some (vI _), none, none, none, none]) hX (Nat.le_of_ble_eq_true rfl) rfl d_Mo_yearBy_5 ?_
  refine v_iconst (pc := 7) (v := 0) hX (by decide) d_Mo_yearBy_7 ?_
  refine v_istore (pc := 8) (lo' := [some (vR _), some (vI _), some (vI _), some (vI _), some (vI _), some (vI _), some (vI _), none, none, none]) hX (Nat.le_of_ble_eq_true rfl) rfl d_Mo_yearBy_8 ?_
  refine v_iconst (pc := 10) (v := 0) hX (by decide) d_Mo_yearBy_10 ?_
  refine v_istore (pc := 11) (lo' := [some (vR _), some (vI _), some (vI _), some (vI _), some (vI _), some (vI _), some (vI _), some (vI _), none, none]) hX (Nat.le_of_ble_eq_true rfl) rfl d_Mo_yearBy_11 ?_
  refine VW.cast (lo' := [some (vR 36), some (vI (i3 F)), some (vI (i3 m)), some (vI w), some (vI (wrI (yr J B pb pj 0))), some (vI (yr J B pb pj 0).2.1.1), some (vI (yr J B pb pj 0).2.1.2), some (vI (i3 0)), none, none]) (st' := []) (G' := gM (YX M n nd (yr J B pb pj 0))) rfl rfl (by rw [YX_0 hJ hB]) ?_
  refine v_for (X := X) (head := 13) (m) (fun kk => [some (vR 36), some (vI (i3 F)), some (vI (i3 m)), some (vI w), some (vI (wrI (yr J B pb pj kk))), some (vI (yr J B pb pj kk).2.1.1), some (vI (yr J B pb pj kk).2.1.2), some (vI (i3 kk)), none, none]) (fun kk => YX M n nd (yr J B pb pj kk)) (fun k hk ih13 => ?_) ?_
  · show VW X 13 [some (vR 36), some (vI (i3 F)), some (vI (i3 m)), some (vI w), some (vI (wrI (yr J B pb pj k))), some (vI (yr J B pb pj k).2.1.1), some (vI (yr J B pb pj k).2.1.2), some (vI (i3 k)), none, none] [] (gM (YX M n nd (yr J B pb pj k)))
    obtain ⟨hb1, hb2⟩ := hpb k hk
    obtain ⟨hj1, hj2⟩ := hpj k hk
    have hJ1 := YX_J (nd := nd) (s := (yr J B pb pj k)) hJ
    have hB1 := YX_B (n := n) (s := (yr J B pb pj k)) hB
    have hyk := yr_le J B pb pj k
    by_cases hcase : (yr J B pb pj k).2.2 = 0
    · have hy1 : yr J B pb pj (k + 1) = yst J B (pb k) (pj k) k (yr J B pb pj k) := rfl
      refine v_iload (pc := 13) hX rfl d_Mo_yearBy_13 ?_
      refine v_iload_n (pc := 15) hX rfl d_Mo_yearBy_15 ?_
      refine v_icmp_ge (pc := 16) (tgt := 101) hX d_Mo_yearBy_16 rfl (fun h16 => False.elim (i3_ge_abs hk (by omega) h16)) (fun h16 => ?_)
      refine v_iload (pc := 19) hX rfl d_Mo_yearBy_19 ?_
      refine v_if_ge (pc := 21) (tgt := 101) hX d_Mo_yearBy_21 rfl (fun h21 => False.elim (absurd h21 (by unfold wrI; rw [if_pos hcase]; decide))) (fun h21 => ?_)
      refine v_aload_n (pc := 24) hX rfl d_Mo_yearBy_24 ?_
      refine g_getR (pc := 25) hX fl_Mo_85 rfl rfl nf_36_33 d_Mo_yearBy_25 ?_
      refine v_iload_n (pc := 28) hX rfl d_Mo_yearBy_28 ?_
      refine v_iconst (pc := 29) (v := 2) hX (by decide) d_Mo_yearBy_29 ?_
      refine v_iload (pc := 30) hX rfl d_Mo_yearBy_30 ?_
      refine v_imul (pc := 32) hX d_Mo_yearBy_32 ?_
      refine v_iadd (pc := 33) hX d_Mo_yearBy_33 ?_
      rw [i3_dbl]
      refine g_iald (pc := 34) hX rfl (IX.of (n := 240) (by omega) (by decide)) d_Mo_yearBy_34 ?_
      rw [YX_ne (by decide) (by decide), show F + 2 * k = F + (2 * k) by omega, hq _ (by omega), hb2]
      refine v_istore (pc := 35) (lo' := [some (vR _), some (vI _), some (vI _), some (vI _), some (vI _), some (vI _), some (vI _), some (vI _), some (vI _), none]) hX (Nat.le_of_ble_eq_true rfl) rfl d_Mo_yearBy_35 ?_
      refine v_aload_n (pc := 37) hX rfl d_Mo_yearBy_37 ?_
      refine g_getR (pc := 38) hX fl_Mo_85 rfl rfl nf_36_33 d_Mo_yearBy_38 ?_
      refine v_iload_n (pc := 41) hX rfl d_Mo_yearBy_41 ?_
      refine v_iconst (pc := 42) (v := 2) hX (by decide) d_Mo_yearBy_42 ?_
      refine v_iload (pc := 43) hX rfl d_Mo_yearBy_43 ?_
      refine v_imul (pc := 45) hX d_Mo_yearBy_45 ?_
      refine v_iadd (pc := 46) hX d_Mo_yearBy_46 ?_
      refine v_iconst (pc := 47) (v := 1) hX (by decide) d_Mo_yearBy_47 ?_
      refine v_iadd (pc := 48) hX d_Mo_yearBy_48 ?_
      rw [i3_dbl, ← i3_succ]
      refine g_iald (pc := 49) hX rfl (IX.of (n := 240) (by omega) (by decide)) d_Mo_yearBy_49 ?_
      rw [YX_ne (by decide) (by decide), show F + 2 * k + 1 = F + (2 * k + 1) by omega, hq _ (by omega), hj2]
      refine v_istore (pc := 50) (lo' := [some (vR _), some (vI _), some (vI _), some (vI _), some (vI _), some (vI _), some (vI _), some (vI _), some (vI _), some (vI _)]) hX (Nat.le_of_ble_eq_true rfl) rfl d_Mo_yearBy_50 ?_
      refine v_aload_n (pc := 52) hX rfl d_Mo_yearBy_52 ?_
      refine v_iload (pc := 53) hX rfl d_Mo_yearBy_53 ?_
      refine v_iload (pc := 55) hX rfl d_Mo_yearBy_55 ?_
      refine f_callV (pc := 57) hX k_Mo_canSell ki_Mo_canSell kv_Mo_canSell ml_Mo_196 (C_Mo_canSell hJ1 hB1 hb1 hj1) rfl rfl rfl rfl rfl (Nat.le_of_ble_eq_true rfl) (Nat.le_of_ble_eq_true rfl) (Nat.le_of_ble_eq_true rfl) d_Mo_yearBy_57 ?_
      rw [can_eq]
      refine f_ifeqB (pc := 60) (tgt := 91) hX d_Mo_yearBy_60 rfl (fun h60 => ?_) (fun h60 => ?_)
      · have hy2 := yst_no (B := B) (p := k) hcase h60
        have hw1 : wrI (yst J B (pb k) (pj k) k (yr J B pb pj k)) = i3 k := by rw [hy2]; rfl
        refine v_iload (pc := 91) hX rfl d_Mo_yearBy_91 ?_
        refine v_istore (pc := 93) (lo' := [some (vR _), some (vI _), some (vI _), some (vI _), some (vI _), some (vI _), some (vI _), some (vI _), some (vI _), some (vI _)]) hX (Nat.le_of_ble_eq_true rfl) rfl d_Mo_yearBy_93 ?_
        refine v_iinc (pc := 95) (lo' := [some (vR _), some (vI _), some (vI _), some (vI _), some (vI _), some (vI _), some (vI _), some (vI _), some (vI _), some (vI _)]) hX rfl rfl d_Mo_yearBy_95 ?_
        refine v_goto (pc := 98) (tgt := 13) hX d_Mo_yearBy_98 rfl ?_
        refine VW.fg [true, true, true, true, true, true, true, true, false, false] ?_
        exact VW.cast (by rw [hy1, hw1, hy2, i3_succ]; rfl) rfl (by first | (rw [hy1, hy2]; rfl) | rw [hy1]) ih13
      · have hy2 := yst_yes (B := B) (p := k) hcase h60
        have hw1 : wrI (yst J B (pb k) (pj k) k (yr J B pb pj k)) = wrI (yr J B pb pj k) := by unfold wrI; rw [hy2, if_pos rfl, if_pos hcase]
        refine v_iload (pc := 63) hX rfl d_Mo_yearBy_63 ?_
        refine v_aload_n (pc := 65) hX rfl d_Mo_yearBy_65 ?_
        refine v_iload (pc := 66) hX rfl d_Mo_yearBy_66 ?_
        refine v_iload (pc := 68) hX rfl d_Mo_yearBy_68 ?_
        refine f_callV (pc := 70) hX k_Mo_sold ki_Mo_sold kv_Mo_sold ml_Mo_199 (C_Mo_sold hJ1 hB1 hb1 hj1) rfl rfl rfl rfl rfl (Nat.le_of_ble_eq_true rfl) (Nat.le_of_ble_eq_true rfl) (Nat.le_of_ble_eq_true rfl) d_Mo_yearBy_70 ?_
        rw [YX_take (B := B) (p := k) hj1 hb1 hcase h60, dk_eq]
        refine v_iadd (pc := 73) hX d_Mo_yearBy_73 ?_
        refine v_istore (pc := 74) (lo' := [some (vR _), some (vI _), some (vI _), some (vI _), some (vI _), some (vI _), some (vI _), some (vI _), some (vI _), some (vI _)]) hX (Nat.le_of_ble_eq_true rfl) rfl d_Mo_yearBy_74 ?_
        refine v_iload (pc := 76) hX rfl d_Mo_yearBy_76 ?_
        refine v_aload_n (pc := 78) hX rfl d_Mo_yearBy_78 ?_
        refine g_getR (pc := 79) hX fl_Mo_22 rfl rfl nf_36_6 d_Mo_yearBy_79 ?_
        refine v_iload (pc := 82) hX rfl d_Mo_yearBy_82 ?_
        refine g_iald (pc := 84) hX rfl (IX.of (n := 6) (by omega) (by decide)) d_Mo_yearBy_84 ?_
        rw [YX_ne (by decide) (by decide), show M 41 (pj k) = J (pj k) 4 from hJ.2.2.1 _ hj1 4 (by decide)]
        refine v_iadd (pc := 85) hX d_Mo_yearBy_85 ?_
        refine v_istore (pc := 86) (lo' := [some (vR _), some (vI _), some (vI _), some (vI _), some (vI _), some (vI _), some (vI _), some (vI _), some (vI _), some (vI _)]) hX (Nat.le_of_ble_eq_true rfl) rfl d_Mo_yearBy_86 ?_
        refine v_goto (pc := 88) (tgt := 95) hX d_Mo_yearBy_88 rfl ?_
        refine v_iinc (pc := 95) (lo' := [some (vR _), some (vI _), some (vI _), some (vI _), some (vI _), some (vI _), some (vI _), some (vI _), some (vI _), some (vI _)]) hX rfl rfl d_Mo_yearBy_95 ?_
        refine v_goto (pc := 98) (tgt := 13) hX d_Mo_yearBy_98 rfl ?_
        refine VW.fg [true, true, true, true, true, true, true, true, false, false] ?_
        exact VW.cast (by rw [hy1, hw1, hy2, i3_succ]; rfl) rfl (by first | (rw [hy1, hy2]; rfl) | rw [hy1]) ih13
    · skip
      refine v_iload (pc := 13) hX rfl d_Mo_yearBy_13 ?_
      refine v_iload_n (pc := 15) hX rfl d_Mo_yearBy_15 ?_
      refine v_icmp_ge (pc := 16) (tgt := 101) hX d_Mo_yearBy_16 rfl (fun h16 => False.elim (i3_ge_abs hk (by omega) h16)) (fun h16 => ?_)
      refine v_iload (pc := 19) hX rfl d_Mo_yearBy_19 ?_
      refine v_if_ge (pc := 21) (tgt := 101) hX d_Mo_yearBy_21 rfl (fun h21 => ?_) (fun h21 => False.elim (h21 (by unfold wrI; rw [if_neg hcase]; exact (i3_le (a := 0) (by decide) (by omega)).mpr (Nat.zero_le _))))
      refine VW.fg [true, true, true, true, true, true, true, false, true, true] ?_
      exact VW.cast (by rw [yr_stay hcase m (by omega)]; rfl) rfl (by rw [yr_stay hcase m (by omega)]) (j101 0 trivial)
  · show VW X 13 [some (vR 36), some (vI (i3 F)), some (vI (i3 m)), some (vI w), some (vI (wrI (yr J B pb pj (m)))), some (vI (yr J B pb pj (m)).2.1.1), some (vI (yr J B pb pj (m)).2.1.2), some (vI (i3 (m))), none, none] [] (gM (YX M n nd (yr J B pb pj (m))))
    refine v_iload (pc := 13) hX rfl d_Mo_yearBy_13 ?_
    refine v_iload_n (pc := 15) hX rfl d_Mo_yearBy_15 ?_
    refine v_icmp_ge (pc := 16) (tgt := 101) hX d_Mo_yearBy_16 rfl (fun h16 => ?_) (fun h16 => False.elim (absurd (Int32.le_refl _) h16))
    refine VW.fg [true, true, true, true, true, true, true, false, true, true] ?_
    exact VW.cast rfl rfl rfl (j101 0 trivial)
theorem two_l {m : Nat} (h : m ≤ 1000) : (2 * (i3 m).toInt64).toInt = 2 * (m : Int) := by
  rw [Int64.toInt_mul, Int32.toInt_toInt64, i3_int (by omega), show (2 : Int64).toInt = 2 from rfl, Int.bmod_def]
  omega
theorem YX_end {M : MM} {n nd : Nat} {J B : JT} {s : YS} (hJ : MJ M n J) (hB : MB M nd B) : cpF (cpF (YX M n nd s) 40 (fun i => J i 3) n) 44 (fun i => B i 2) nd = M := by
  funext a i
  unfold cpF YX
  by_cases h2 : a = 44 ∧ i < nd
  · rw [if_pos h2, h2.1]; exact (hB.2.2.1 i h2.2 2 (by decide)).symm
  · rw [if_neg h2]
    by_cases h1 : a = 40 ∧ i < n
    · rw [if_pos h1, h1.1]; exact (hJ.2.2.1 i h1.2 3 (by decide)).symm
    · rw [if_neg h1, if_neg h1, if_neg h2]
theorem d_Mo_year_0 : decode c_Mo_year 0 = .ok (.iload_n 1, 1) := by decide +kernel
theorem d_Mo_year_1 : decode c_Mo_year 1 = .ok (.invokestatic 145, 3) := by decide +kernel
theorem d_Mo_year_4 : decode c_Mo_year 4 = .ok (.ifCond .eq 9, 3) := by decide +kernel
theorem d_Mo_year_7 : decode c_Mo_year 7 = .ok (.aload_n 0, 1) := by decide +kernel
theorem d_Mo_year_8 : decode c_Mo_year 8 = .ok (.iconst (-1), 1) := by decide +kernel
theorem d_Mo_year_9 : decode c_Mo_year 9 = .ok (.invokevirtual 149, 3) := by decide +kernel
theorem d_Mo_year_12 : decode c_Mo_year 12 = .ok (.ireturn, 1) := by decide +kernel
theorem d_Mo_year_13 : decode c_Mo_year 13 = .ok (.iload 5, 2) := by decide +kernel
theorem d_Mo_year_15 : decode c_Mo_year 15 = .ok (.i2l, 1) := by decide +kernel
theorem d_Mo_year_16 : decode c_Mo_year 16 = .ok (.lconst 0, 1) := by decide +kernel
theorem d_Mo_year_17 : decode c_Mo_year 17 = .ok (.ldc2_w 202, 3) := by decide +kernel
theorem d_Mo_year_20 : decode c_Mo_year 20 = .ok (.invokestatic 104, 3) := by decide +kernel
theorem d_Mo_year_23 : decode c_Mo_year 23 = .ok (.ifCond .ne 33, 3) := by decide +kernel
theorem d_Mo_year_26 : decode c_Mo_year 26 = .ok (.iload 5, 2) := by decide +kernel
theorem d_Mo_year_28 : decode c_Mo_year 28 = .ok (.i2l, 1) := by decide +kernel
theorem d_Mo_year_29 : decode c_Mo_year 29 = .ok (.ldc2_w 204, 3) := by decide +kernel
theorem d_Mo_year_32 : decode c_Mo_year 32 = .ok (.ldc2_w 206, 3) := by decide +kernel
theorem d_Mo_year_35 : decode c_Mo_year 35 = .ok (.invokestatic 104, 3) := by decide +kernel
theorem d_Mo_year_38 : decode c_Mo_year 38 = .ok (.ifCond .ne 18, 3) := by decide +kernel
theorem d_Mo_year_41 : decode c_Mo_year 41 = .ok (.iload 5, 2) := by decide +kernel
theorem d_Mo_year_43 : decode c_Mo_year 43 = .ok (.i2l, 1) := by decide +kernel
theorem d_Mo_year_44 : decode c_Mo_year 44 = .ok (.ldc2_w 208, 3) := by decide +kernel
theorem d_Mo_year_47 : decode c_Mo_year 47 = .ok (.ldc2_w 210, 3) := by decide +kernel
theorem d_Mo_year_50 : decode c_Mo_year 50 = .ok (.invokestatic 104, 3) := by decide +kernel
theorem d_Mo_year_53 : decode c_Mo_year 53 = .ok (.ifCond .eq 7, 3) := by decide +kernel
theorem d_Mo_year_56 : decode c_Mo_year 56 = .ok (.iconst 1, 1) := by decide +kernel
theorem d_Mo_year_57 : decode c_Mo_year 57 = .ok (.goto 4, 3) := by decide +kernel
theorem d_Mo_year_60 : decode c_Mo_year 60 = .ok (.iconst 0, 1) := by decide +kernel
theorem d_Mo_year_61 : decode c_Mo_year 61 = .ok (.istore 6, 2) := by decide +kernel
theorem d_Mo_year_63 : decode c_Mo_year 63 = .ok (.iload_n 2, 1) := by decide +kernel
theorem d_Mo_year_64 : decode c_Mo_year 64 = .ok (.i2l, 1) := by decide +kernel
theorem d_Mo_year_65 : decode c_Mo_year 65 = .ok (.lconst 0, 1) := by decide +kernel
theorem d_Mo_year_66 : decode c_Mo_year 66 = .ok (.ldc2_w 152, 3) := by decide +kernel
theorem d_Mo_year_69 : decode c_Mo_year 69 = .ok (.invokestatic 104, 3) := by decide +kernel
theorem d_Mo_year_72 : decode c_Mo_year 72 = .ok (.ifCond .eq 21, 3) := by decide +kernel
theorem d_Mo_year_75 : decode c_Mo_year 75 = .ok (.iload 4, 2) := by decide +kernel
theorem d_Mo_year_77 : decode c_Mo_year 77 = .ok (.i2l, 1) := by decide +kernel
theorem d_Mo_year_78 : decode c_Mo_year 78 = .ok (.lconst 0, 1) := by decide +kernel
theorem d_Mo_year_79 : decode c_Mo_year 79 = .ok (.ldc2_w 208, 3) := by decide +kernel
theorem d_Mo_year_82 : decode c_Mo_year 82 = .ok (.invokestatic 104, 3) := by decide +kernel
theorem d_Mo_year_85 : decode c_Mo_year 85 = .ok (.ifCond .eq 8, 3) := by decide +kernel
theorem d_Mo_year_88 : decode c_Mo_year 88 = .ok (.iload 6, 2) := by decide +kernel
theorem d_Mo_year_90 : decode c_Mo_year 90 = .ok (.ifCond .ne 10, 3) := by decide +kernel
theorem d_Mo_year_93 : decode c_Mo_year 93 = .ok (.aload_n 0, 1) := by decide +kernel
theorem d_Mo_year_94 : decode c_Mo_year 94 = .ok (.bipush (-2), 2) := by decide +kernel
theorem d_Mo_year_96 : decode c_Mo_year 96 = .ok (.invokevirtual 149, 3) := by decide +kernel
theorem d_Mo_year_99 : decode c_Mo_year 99 = .ok (.ireturn, 1) := by decide +kernel
theorem d_Mo_year_100 : decode c_Mo_year 100 = .ok (.aload_n 0, 1) := by decide +kernel
theorem d_Mo_year_101 : decode c_Mo_year 101 = .ok (.getfield 101, 3) := by decide +kernel
theorem d_Mo_year_104 : decode c_Mo_year 104 = .ok (.ifCond .ne 10, 3) := by decide +kernel
theorem d_Mo_year_107 : decode c_Mo_year 107 = .ok (.aload_n 0, 1) := by decide +kernel
theorem d_Mo_year_108 : decode c_Mo_year 108 = .ok (.bipush (-3), 2) := by decide +kernel
theorem d_Mo_year_110 : decode c_Mo_year 110 = .ok (.invokevirtual 149, 3) := by decide +kernel
theorem d_Mo_year_113 : decode c_Mo_year 113 = .ok (.ireturn, 1) := by decide +kernel
theorem d_Mo_year_114 : decode c_Mo_year 114 = .ok (.aload_n 0, 1) := by decide +kernel
theorem d_Mo_year_115 : decode c_Mo_year 115 = .ok (.iload_n 1, 1) := by decide +kernel
theorem d_Mo_year_116 : decode c_Mo_year 116 = .ok (.iload_n 2, 1) := by decide +kernel
theorem d_Mo_year_117 : decode c_Mo_year 117 = .ok (.iload_n 3, 1) := by decide +kernel
theorem d_Mo_year_118 : decode c_Mo_year 118 = .ok (.ldc2_w 152, 3) := by decide +kernel
theorem d_Mo_year_121 : decode c_Mo_year 121 = .ok (.iload 4, 2) := by decide +kernel
theorem d_Mo_year_123 : decode c_Mo_year 123 = .ok (.i2l, 1) := by decide +kernel
theorem d_Mo_year_124 : decode c_Mo_year 124 = .ok (.lmul, 1) := by decide +kernel
theorem d_Mo_year_125 : decode c_Mo_year 125 = .ok (.invokevirtual 154, 3) := by decide +kernel
theorem d_Mo_year_128 : decode c_Mo_year 128 = .ok (.istore 7, 2) := by decide +kernel
theorem d_Mo_year_130 : decode c_Mo_year 130 = .ok (.iload 7, 2) := by decide +kernel
theorem d_Mo_year_132 : decode c_Mo_year 132 = .ok (.ifCond .ge 6, 3) := by decide +kernel
theorem d_Mo_year_135 : decode c_Mo_year 135 = .ok (.iload 7, 2) := by decide +kernel
theorem d_Mo_year_137 : decode c_Mo_year 137 = .ok (.ireturn, 1) := by decide +kernel
theorem d_Mo_year_138 : decode c_Mo_year 138 = .ok (.aload_n 0, 1) := by decide +kernel
theorem d_Mo_year_139 : decode c_Mo_year 139 = .ok (.bipush 60, 2) := by decide +kernel
theorem d_Mo_year_141 : decode c_Mo_year 141 = .ok (.iload_n 1, 1) := by decide +kernel
theorem d_Mo_year_142 : decode c_Mo_year 142 = .ok (.imul, 1) := by decide +kernel
theorem d_Mo_year_143 : decode c_Mo_year 143 = .ok (.iload_n 3, 1) := by decide +kernel
theorem d_Mo_year_144 : decode c_Mo_year 144 = .ok (.iadd, 1) := by decide +kernel
theorem d_Mo_year_145 : decode c_Mo_year 145 = .ok (.iload 4, 2) := by decide +kernel
theorem d_Mo_year_147 : decode c_Mo_year 147 = .ok (.invokevirtual 212, 3) := by decide +kernel
theorem d_Mo_year_150 : decode c_Mo_year 150 = .ok (.ifCond .ne 9, 3) := by decide +kernel
theorem d_Mo_year_153 : decode c_Mo_year 153 = .ok (.aload_n 0, 1) := by decide +kernel
theorem d_Mo_year_154 : decode c_Mo_year 154 = .ok (.iconst (-1), 1) := by decide +kernel
theorem d_Mo_year_155 : decode c_Mo_year 155 = .ok (.invokevirtual 149, 3) := by decide +kernel
theorem d_Mo_year_158 : decode c_Mo_year 158 = .ok (.ireturn, 1) := by decide +kernel
theorem d_Mo_year_159 : decode c_Mo_year 159 = .ok (.iconst 0, 1) := by decide +kernel
theorem d_Mo_year_160 : decode c_Mo_year 160 = .ok (.istore 8, 2) := by decide +kernel
theorem d_Mo_year_162 : decode c_Mo_year 162 = .ok (.iload 8, 2) := by decide +kernel
theorem d_Mo_year_164 : decode c_Mo_year 164 = .ok (.aload_n 0, 1) := by decide +kernel
theorem d_Mo_year_165 : decode c_Mo_year 165 = .ok (.getfield 101, 3) := by decide +kernel
theorem d_Mo_year_168 : decode c_Mo_year 168 = .ok (.if_icmp .ge 23, 3) := by decide +kernel
theorem d_Mo_year_171 : decode c_Mo_year 171 = .ok (.aload_n 0, 1) := by decide +kernel
theorem d_Mo_year_172 : decode c_Mo_year 172 = .ok (.getfield 61, 3) := by decide +kernel
theorem d_Mo_year_175 : decode c_Mo_year 175 = .ok (.iload 8, 2) := by decide +kernel
theorem d_Mo_year_177 : decode c_Mo_year 177 = .ok (.aload_n 0, 1) := by decide +kernel
theorem d_Mo_year_178 : decode c_Mo_year 178 = .ok (.getfield 19, 3) := by decide +kernel
theorem d_Mo_year_181 : decode c_Mo_year 181 = .ok (.iload 8, 2) := by decide +kernel
theorem d_Mo_year_183 : decode c_Mo_year 183 = .ok (.iaload, 1) := by decide +kernel
theorem d_Mo_year_184 : decode c_Mo_year 184 = .ok (.iastore, 1) := by decide +kernel
theorem d_Mo_year_185 : decode c_Mo_year 185 = .ok (.iinc 8 1, 3) := by decide +kernel
theorem d_Mo_year_188 : decode c_Mo_year 188 = .ok (.goto (-26), 3) := by decide +kernel
theorem d_Mo_year_191 : decode c_Mo_year 191 = .ok (.iconst 0, 1) := by decide +kernel
theorem d_Mo_year_192 : decode c_Mo_year 192 = .ok (.istore 8, 2) := by decide +kernel
theorem d_Mo_year_194 : decode c_Mo_year 194 = .ok (.iload 8, 2) := by decide +kernel
theorem d_Mo_year_196 : decode c_Mo_year 196 = .ok (.aload_n 0, 1) := by decide +kernel
theorem d_Mo_year_197 : decode c_Mo_year 197 = .ok (.getfield 108, 3) := by decide +kernel
theorem d_Mo_year_200 : decode c_Mo_year 200 = .ok (.if_icmp .ge 23, 3) := by decide +kernel
theorem d_Mo_year_203 : decode c_Mo_year 203 = .ok (.aload_n 0, 1) := by decide +kernel
theorem d_Mo_year_204 : decode c_Mo_year 204 = .ok (.getfield 64, 3) := by decide +kernel
theorem d_Mo_year_207 : decode c_Mo_year 207 = .ok (.iload 8, 2) := by decide +kernel
theorem d_Mo_year_209 : decode c_Mo_year 209 = .ok (.aload_n 0, 1) := by decide +kernel
theorem d_Mo_year_210 : decode c_Mo_year 210 = .ok (.getfield 31, 3) := by decide +kernel
theorem d_Mo_year_213 : decode c_Mo_year 213 = .ok (.iload 8, 2) := by decide +kernel
theorem d_Mo_year_215 : decode c_Mo_year 215 = .ok (.iaload, 1) := by decide +kernel
theorem d_Mo_year_216 : decode c_Mo_year 216 = .ok (.iastore, 1) := by decide +kernel
theorem d_Mo_year_217 : decode c_Mo_year 217 = .ok (.iinc 8 1, 3) := by decide +kernel
theorem d_Mo_year_220 : decode c_Mo_year 220 = .ok (.goto (-26), 3) := by decide +kernel
theorem d_Mo_year_223 : decode c_Mo_year 223 = .ok (.aload_n 0, 1) := by decide +kernel
theorem d_Mo_year_224 : decode c_Mo_year 224 = .ok (.bipush 60, 2) := by decide +kernel
theorem d_Mo_year_226 : decode c_Mo_year 226 = .ok (.iload_n 1, 1) := by decide +kernel
theorem d_Mo_year_227 : decode c_Mo_year 227 = .ok (.imul, 1) := by decide +kernel
theorem d_Mo_year_228 : decode c_Mo_year 228 = .ok (.iload_n 3, 1) := by decide +kernel
theorem d_Mo_year_229 : decode c_Mo_year 229 = .ok (.iadd, 1) := by decide +kernel
theorem d_Mo_year_230 : decode c_Mo_year 230 = .ok (.iload 4, 2) := by decide +kernel
theorem d_Mo_year_232 : decode c_Mo_year 232 = .ok (.iload 5, 2) := by decide +kernel
theorem d_Mo_year_234 : decode c_Mo_year 234 = .ok (.invokevirtual 215, 3) := by decide +kernel
theorem d_Mo_year_237 : decode c_Mo_year 237 = .ok (.istore 8, 2) := by decide +kernel
theorem d_Mo_year_239 : decode c_Mo_year 239 = .ok (.iconst 0, 1) := by decide +kernel
theorem d_Mo_year_240 : decode c_Mo_year 240 = .ok (.istore 9, 2) := by decide +kernel
theorem d_Mo_year_242 : decode c_Mo_year 242 = .ok (.iload 9, 2) := by decide +kernel
theorem d_Mo_year_244 : decode c_Mo_year 244 = .ok (.aload_n 0, 1) := by decide +kernel
theorem d_Mo_year_245 : decode c_Mo_year 245 = .ok (.getfield 101, 3) := by decide +kernel
theorem d_Mo_year_248 : decode c_Mo_year 248 = .ok (.if_icmp .ge 23, 3) := by decide +kernel
theorem d_Mo_year_251 : decode c_Mo_year 251 = .ok (.aload_n 0, 1) := by decide +kernel
theorem d_Mo_year_252 : decode c_Mo_year 252 = .ok (.getfield 19, 3) := by decide +kernel
theorem d_Mo_year_255 : decode c_Mo_year 255 = .ok (.iload 9, 2) := by decide +kernel
theorem d_Mo_year_257 : decode c_Mo_year 257 = .ok (.aload_n 0, 1) := by decide +kernel
theorem d_Mo_year_258 : decode c_Mo_year 258 = .ok (.getfield 61, 3) := by decide +kernel
theorem d_Mo_year_261 : decode c_Mo_year 261 = .ok (.iload 9, 2) := by decide +kernel
theorem d_Mo_year_263 : decode c_Mo_year 263 = .ok (.iaload, 1) := by decide +kernel
theorem d_Mo_year_264 : decode c_Mo_year 264 = .ok (.iastore, 1) := by decide +kernel
theorem d_Mo_year_265 : decode c_Mo_year 265 = .ok (.iinc 9 1, 3) := by decide +kernel
theorem d_Mo_year_268 : decode c_Mo_year 268 = .ok (.goto (-26), 3) := by decide +kernel
theorem d_Mo_year_271 : decode c_Mo_year 271 = .ok (.iconst 0, 1) := by decide +kernel
theorem d_Mo_year_272 : decode c_Mo_year 272 = .ok (.istore 9, 2) := by decide +kernel
theorem d_Mo_year_274 : decode c_Mo_year 274 = .ok (.iload 9, 2) := by decide +kernel
theorem d_Mo_year_276 : decode c_Mo_year 276 = .ok (.aload_n 0, 1) := by decide +kernel
theorem d_Mo_year_277 : decode c_Mo_year 277 = .ok (.getfield 108, 3) := by decide +kernel
theorem d_Mo_year_280 : decode c_Mo_year 280 = .ok (.if_icmp .ge 23, 3) := by decide +kernel
theorem d_Mo_year_283 : decode c_Mo_year 283 = .ok (.aload_n 0, 1) := by decide +kernel
theorem d_Mo_year_284 : decode c_Mo_year 284 = .ok (.getfield 31, 3) := by decide +kernel
theorem d_Mo_year_287 : decode c_Mo_year 287 = .ok (.iload 9, 2) := by decide +kernel
theorem d_Mo_year_289 : decode c_Mo_year 289 = .ok (.aload_n 0, 1) := by decide +kernel
theorem d_Mo_year_290 : decode c_Mo_year 290 = .ok (.getfield 64, 3) := by decide +kernel
theorem d_Mo_year_293 : decode c_Mo_year 293 = .ok (.iload 9, 2) := by decide +kernel
theorem d_Mo_year_295 : decode c_Mo_year 295 = .ok (.iaload, 1) := by decide +kernel
theorem d_Mo_year_296 : decode c_Mo_year 296 = .ok (.iastore, 1) := by decide +kernel
theorem d_Mo_year_297 : decode c_Mo_year 297 = .ok (.iinc 9 1, 3) := by decide +kernel
theorem d_Mo_year_300 : decode c_Mo_year 300 = .ok (.goto (-26), 3) := by decide +kernel
theorem d_Mo_year_303 : decode c_Mo_year 303 = .ok (.aload_n 0, 1) := by decide +kernel
theorem d_Mo_year_304 : decode c_Mo_year 304 = .ok (.iload 8, 2) := by decide +kernel
theorem d_Mo_year_306 : decode c_Mo_year 306 = .ok (.invokevirtual 149, 3) := by decide +kernel
theorem d_Mo_year_309 : decode c_Mo_year 309 = .ok (.ireturn, 1) := by decide +kernel
theorem C_Mo_year_out {M : MM} {x : Int32} (hx : rg x 0 3 = false) {u v w y : Int32} : AF y_Mo_year c_Mo_year 10 (some .int) 7 [vR 36, vI x, vI u, vI v, vI w, vI y] (M) (some (vI (-1))) (upM M 36 0 0) := by
  refine AF.of k_Mo_year (lo := [some (vR 36), some (vI x), some (vI u), some (vI v), some (vI w), some (vI y), none, none, none, none]) rfl (Nat.le_of_ble_eq_true rfl) (fun X hX hR => ?_)
  refine v_iload_n (pc := 0) hX rfl d_Mo_year_0 ?_
  refine f_callS (pc := 1) hX k_Mo_noSheet ks_Mo_noSheet ml_Mo_145 (C_Mo_noSheet) rfl rfl rfl (Nat.le_of_ble_eq_true rfl) (Nat.le_of_ble_eq_true rfl) (Nat.le_of_ble_eq_true rfl) d_Mo_year_1 ?_
  rw [hx]
  refine f_ifeqB (pc := 4) (tgt := 13) hX d_Mo_year_4 rfl (fun h4 => False.elim (absurd h4 (by decide))) (fun h4 => ?_)
  refine v_aload_n (pc := 7) hX rfl d_Mo_year_7 ?_
  refine v_iconst (pc := 8) (v := (-1)) hX (by decide) d_Mo_year_8 ?_
  refine f_callV (pc := 9) hX k_Mo_refused ki_Mo_refused kv_Mo_refused ml_Mo_149 (C_Mo_refused) rfl rfl rfl rfl rfl (Nat.le_of_ble_eq_true rfl) (Nat.le_of_ble_eq_true rfl) (Nat.le_of_ble_eq_true rfl) d_Mo_year_9 ?_
  exact f_iret (pc := 12) hX hR (rfl) (rfl) d_Mo_year_12
theorem C_Mo_year_bad {M : MM} {k : Nat} {u v w y : Int32} (hk : k < 4) (hb : (rg u 0 2 && (rg w 0 20 && tdB y)) = false) : AF y_Mo_year c_Mo_year 10 (some .int) 7 [vR 36, vI (i3 k), vI u, vI v, vI w, vI y] (M) (some (vI (-2))) (upM M 36 0 0) := by
  refine AF.of k_Mo_year (lo := [some (vR 36), some (vI (i3 k)), some (vI u), some (vI v), some (vI w), some (vI y), none, none, none, none]) rfl (Nat.le_of_ble_eq_true rfl) (fun X hX hR => ?_)
  refine v_iload_n (pc := 0) hX rfl d_Mo_year_0 ?_
  refine f_callS (pc := 1) hX k_Mo_noSheet ks_Mo_noSheet ml_Mo_145 (C_Mo_noSheet) rfl rfl rfl (Nat.le_of_ble_eq_true rfl) (Nat.le_of_ble_eq_true rfl) (Nat.le_of_ble_eq_true rfl) d_Mo_year_1 ?_
  rw [show rg (i3 k) 0 3 = true from rg_i3 (n := 4) hk (by decide)]
  refine f_ifeqB (pc := 4) (tgt := 13) hX d_Mo_year_4 rfl (fun h4 => ?_) (fun h4 => False.elim (absurd h4 (by decide)))
  refine v_iload (pc := 13) hX rfl d_Mo_year_13 ?_
  refine v_i2l (pc := 15) hX d_Mo_year_15 ?_
  refine v_lconst (pc := 16) (v := 0) hX (by decide) d_Mo_year_16 ?_
  refine v_ldc2_w (pc := 17) hX kl_Mo_202 d_Mo_year_17 ?_
  refine f_callS (pc := 20) hX k_Mo_in ks_Mo_in ml_Mo_104 (C_Mo_in) rfl rfl rfl (Nat.le_of_ble_eq_true rfl) (Nat.le_of_ble_eq_true rfl) (Nat.le_of_ble_eq_true rfl) d_Mo_year_20 ?_
  rw [rL_rg (L := 0) (H := 3) rfl rfl]
  refine f_ifneB (pc := 23) (tgt := 56) hX d_Mo_year_23 rfl (fun h23 => ?_) (fun h23 => ?_)
  · have td : tdB y = true := by unfold tdB; rw [h23]; rfl
    refine v_iconst (pc := 56) (v := 1) hX (by decide) d_Mo_year_56 ?_
    refine v_goto (pc := 57) (tgt := 61) hX d_Mo_year_57 rfl ?_
    refine v_istore (pc := 61) (lo' := [some (vR _), some (vI _), some (vI _), some (vI _), some (vI _), some (vI _), some (vI _), none, none, none]) hX (Nat.le_of_ble_eq_true rfl) rfl d_Mo_year_61 ?_
    refine v_iload_n (pc := 63) hX rfl d_Mo_year_63 ?_
    refine v_i2l (pc := 64) hX d_Mo_year_64 ?_
    refine v_lconst (pc := 65) (v := 0) hX (by decide) d_Mo_year_65 ?_
    refine v_ldc2_w (pc := 66) hX kl_Mo_152 d_Mo_year_66 ?_
    refine f_callS (pc := 69) hX k_Mo_in ks_Mo_in ml_Mo_104 (C_Mo_in) rfl rfl rfl (Nat.le_of_ble_eq_true rfl) (Nat.le_of_ble_eq_true rfl) (Nat.le_of_ble_eq_true rfl) d_Mo_year_69 ?_
    rw [rL_rg (L := 0) (H := 2) rfl rfl]
    refine f_ifeqB (pc := 72) (tgt := 93) hX d_Mo_year_72 rfl (fun h72 => ?_) (fun h72 => ?_)
    · refine v_aload_n (pc := 93) hX rfl d_Mo_year_93 ?_
      refine v_bipush (pc := 94) (v := (-2)) hX (by decide) d_Mo_year_94 ?_
      refine f_callV (pc := 96) hX k_Mo_refused ki_Mo_refused kv_Mo_refused ml_Mo_149 (C_Mo_refused) rfl rfl rfl rfl rfl (Nat.le_of_ble_eq_true rfl) (Nat.le_of_ble_eq_true rfl) (Nat.le_of_ble_eq_true rfl) d_Mo_year_96 ?_
      exact f_iret (pc := 99) hX hR (rfl) (rfl) d_Mo_year_99
    · refine v_iload (pc := 75) hX rfl d_Mo_year_75 ?_
      refine v_i2l (pc := 77) hX d_Mo_year_77 ?_
      refine v_lconst (pc := 78) (v := 0) hX (by decide) d_Mo_year_78 ?_
      refine v_ldc2_w (pc := 79) hX kl_Mo_208 d_Mo_year_79 ?_
      refine f_callS (pc := 82) hX k_Mo_in ks_Mo_in ml_Mo_104 (C_Mo_in) rfl rfl rfl (Nat.le_of_ble_eq_true rfl) (Nat.le_of_ble_eq_true rfl) (Nat.le_of_ble_eq_true rfl) d_Mo_year_82 ?_
      rw [rL_rg (L := 0) (H := 20) rfl rfl]
      refine f_ifeqB (pc := 85) (tgt := 93) hX d_Mo_year_85 rfl (fun h85 => ?_) (fun h85 => ?_)
      · refine v_aload_n (pc := 93) hX rfl d_Mo_year_93 ?_
        refine v_bipush (pc := 94) (v := (-2)) hX (by decide) d_Mo_year_94 ?_
        refine f_callV (pc := 96) hX k_Mo_refused ki_Mo_refused kv_Mo_refused ml_Mo_149 (C_Mo_refused) rfl rfl rfl rfl rfl (Nat.le_of_ble_eq_true rfl) (Nat.le_of_ble_eq_true rfl) (Nat.le_of_ble_eq_true rfl) d_Mo_year_96 ?_
        exact f_iret (pc := 99) hX hR (rfl) (rfl) d_Mo_year_99
      · refine v_iload (pc := 88) hX rfl d_Mo_year_88 ?_
        refine v_if_ne (pc := 90) (tgt := 100) hX d_Mo_year_90 rfl (fun h90 => False.elim (by rw [h72, h85, td] at hb; cases hb)) (fun h90 => ?_)
        refine v_aload_n (pc := 93) hX rfl d_Mo_year_93 ?_
        refine v_bipush (pc := 94) (v := (-2)) hX (by decide) d_Mo_year_94 ?_
        refine f_callV (pc := 96) hX k_Mo_refused ki_Mo_refused kv_Mo_refused ml_Mo_149 (C_Mo_refused) rfl rfl rfl rfl rfl (Nat.le_of_ble_eq_true rfl) (Nat.le_of_ble_eq_true rfl) (Nat.le_of_ble_eq_true rfl) d_Mo_year_96 ?_
        exact f_iret (pc := 99) hX hR (rfl) (rfl) d_Mo_year_99
  · refine v_iload (pc := 26) hX rfl d_Mo_year_26 ?_
    refine v_i2l (pc := 28) hX d_Mo_year_28 ?_
    refine v_ldc2_w (pc := 29) hX kl_Mo_204 d_Mo_year_29 ?_
    refine v_ldc2_w (pc := 32) hX kl_Mo_206 d_Mo_year_32 ?_
    refine f_callS (pc := 35) hX k_Mo_in ks_Mo_in ml_Mo_104 (C_Mo_in) rfl rfl rfl (Nat.le_of_ble_eq_true rfl) (Nat.le_of_ble_eq_true rfl) (Nat.le_of_ble_eq_true rfl) d_Mo_year_35 ?_
    rw [rL_rg (L := 10) (H := 15) rfl rfl]
    refine f_ifneB (pc := 38) (tgt := 56) hX d_Mo_year_38 rfl (fun h38 => ?_) (fun h38 => ?_)
    · have td : tdB y = true := by unfold tdB; rw [h23, h38]; rfl
      refine v_iconst (pc := 56) (v := 1) hX (by decide) d_Mo_year_56 ?_
      refine v_goto (pc := 57) (tgt := 61) hX d_Mo_year_57 rfl ?_
      refine v_istore (pc := 61) (lo' := [some (vR _), some (vI _), some (vI _), some (vI _), some (vI _), some (vI _), some (vI _), none, none, none]) hX (Nat.le_of_ble_eq_true rfl) rfl d_Mo_year_61 ?_
      refine v_iload_n (pc := 63) hX rfl d_Mo_year_63 ?_
      refine v_i2l (pc := 64) hX d_Mo_year_64 ?_
      refine v_lconst (pc := 65) (v := 0) hX (by decide) d_Mo_year_65 ?_
      refine v_ldc2_w (pc := 66) hX kl_Mo_152 d_Mo_year_66 ?_
      refine f_callS (pc := 69) hX k_Mo_in ks_Mo_in ml_Mo_104 (C_Mo_in) rfl rfl rfl (Nat.le_of_ble_eq_true rfl) (Nat.le_of_ble_eq_true rfl) (Nat.le_of_ble_eq_true rfl) d_Mo_year_69 ?_
      rw [rL_rg (L := 0) (H := 2) rfl rfl]
      refine f_ifeqB (pc := 72) (tgt := 93) hX d_Mo_year_72 rfl (fun h72 => ?_) (fun h72 => ?_)
      · refine v_aload_n (pc := 93) hX rfl d_Mo_year_93 ?_
        refine v_bipush (pc := 94) (v := (-2)) hX (by decide) d_Mo_year_94 ?_
        refine f_callV (pc := 96) hX k_Mo_refused ki_Mo_refused kv_Mo_refused ml_Mo_149 (C_Mo_refused) rfl rfl rfl rfl rfl (Nat.le_of_ble_eq_true rfl) (Nat.le_of_ble_eq_true rfl) (Nat.le_of_ble_eq_true rfl) d_Mo_year_96 ?_
        exact f_iret (pc := 99) hX hR (rfl) (rfl) d_Mo_year_99
      · refine v_iload (pc := 75) hX rfl d_Mo_year_75 ?_
        refine v_i2l (pc := 77) hX d_Mo_year_77 ?_
        refine v_lconst (pc := 78) (v := 0) hX (by decide) d_Mo_year_78 ?_
        refine v_ldc2_w (pc := 79) hX kl_Mo_208 d_Mo_year_79 ?_
        refine f_callS (pc := 82) hX k_Mo_in ks_Mo_in ml_Mo_104 (C_Mo_in) rfl rfl rfl (Nat.le_of_ble_eq_true rfl) (Nat.le_of_ble_eq_true rfl) (Nat.le_of_ble_eq_true rfl) d_Mo_year_82 ?_
        rw [rL_rg (L := 0) (H := 20) rfl rfl]
        refine f_ifeqB (pc := 85) (tgt := 93) hX d_Mo_year_85 rfl (fun h85 => ?_) (fun h85 => ?_)
        · refine v_aload_n (pc := 93) hX rfl d_Mo_year_93 ?_
          refine v_bipush (pc := 94) (v := (-2)) hX (by decide) d_Mo_year_94 ?_
          refine f_callV (pc := 96) hX k_Mo_refused ki_Mo_refused kv_Mo_refused ml_Mo_149 (C_Mo_refused) rfl rfl rfl rfl rfl (Nat.le_of_ble_eq_true rfl) (Nat.le_of_ble_eq_true rfl) (Nat.le_of_ble_eq_true rfl) d_Mo_year_96 ?_
          exact f_iret (pc := 99) hX hR (rfl) (rfl) d_Mo_year_99
        · refine v_iload (pc := 88) hX rfl d_Mo_year_88 ?_
          refine v_if_ne (pc := 90) (tgt := 100) hX d_Mo_year_90 rfl (fun h90 => False.elim (by rw [h72, h85, td] at hb; cases hb)) (fun h90 => ?_)
          refine v_aload_n (pc := 93) hX rfl d_Mo_year_93 ?_
          refine v_bipush (pc := 94) (v := (-2)) hX (by decide) d_Mo_year_94 ?_
          refine f_callV (pc := 96) hX k_Mo_refused ki_Mo_refused kv_Mo_refused ml_Mo_149 (C_Mo_refused) rfl rfl rfl rfl rfl (Nat.le_of_ble_eq_true rfl) (Nat.le_of_ble_eq_true rfl) (Nat.le_of_ble_eq_true rfl) d_Mo_year_96 ?_
          exact f_iret (pc := 99) hX hR (rfl) (rfl) d_Mo_year_99
    · refine v_iload (pc := 41) hX rfl d_Mo_year_41 ?_
      refine v_i2l (pc := 43) hX d_Mo_year_43 ?_
      refine v_ldc2_w (pc := 44) hX kl_Mo_208 d_Mo_year_44 ?_
      refine v_ldc2_w (pc := 47) hX kl_Mo_210 d_Mo_year_47 ?_
      refine f_callS (pc := 50) hX k_Mo_in ks_Mo_in ml_Mo_104 (C_Mo_in) rfl rfl rfl (Nat.le_of_ble_eq_true rfl) (Nat.le_of_ble_eq_true rfl) (Nat.le_of_ble_eq_true rfl) d_Mo_year_50 ?_
      rw [rL_rg (L := 20) (H := 23) rfl rfl]
      refine f_ifeqB (pc := 53) (tgt := 60) hX d_Mo_year_53 rfl (fun h53 => ?_) (fun h53 => ?_)
      · have td : tdB y = false := by unfold tdB; rw [h23, h38, h53]; rfl
        refine v_iconst (pc := 60) (v := 0) hX (by decide) d_Mo_year_60 ?_
        refine v_istore (pc := 61) (lo' := [some (vR _), some (vI _), some (vI _), some (vI _), some (vI _), some (vI _), some (vI _), none, none, none]) hX (Nat.le_of_ble_eq_true rfl) rfl d_Mo_year_61 ?_
        refine v_iload_n (pc := 63) hX rfl d_Mo_year_63 ?_
        refine v_i2l (pc := 64) hX d_Mo_year_64 ?_
        refine v_lconst (pc := 65) (v := 0) hX (by decide) d_Mo_year_65 ?_
        refine v_ldc2_w (pc := 66) hX kl_Mo_152 d_Mo_year_66 ?_
        refine f_callS (pc := 69) hX k_Mo_in ks_Mo_in ml_Mo_104 (C_Mo_in) rfl rfl rfl (Nat.le_of_ble_eq_true rfl) (Nat.le_of_ble_eq_true rfl) (Nat.le_of_ble_eq_true rfl) d_Mo_year_69 ?_
        rw [rL_rg (L := 0) (H := 2) rfl rfl]
        refine f_ifeqB (pc := 72) (tgt := 93) hX d_Mo_year_72 rfl (fun h72 => ?_) (fun h72 => ?_)
        · refine v_aload_n (pc := 93) hX rfl d_Mo_year_93 ?_
          refine v_bipush (pc := 94) (v := (-2)) hX (by decide) d_Mo_year_94 ?_
          refine f_callV (pc := 96) hX k_Mo_refused ki_Mo_refused kv_Mo_refused ml_Mo_149 (C_Mo_refused) rfl rfl rfl rfl rfl (Nat.le_of_ble_eq_true rfl) (Nat.le_of_ble_eq_true rfl) (Nat.le_of_ble_eq_true rfl) d_Mo_year_96 ?_
          exact f_iret (pc := 99) hX hR (rfl) (rfl) d_Mo_year_99
        · refine v_iload (pc := 75) hX rfl d_Mo_year_75 ?_
          refine v_i2l (pc := 77) hX d_Mo_year_77 ?_
          refine v_lconst (pc := 78) (v := 0) hX (by decide) d_Mo_year_78 ?_
          refine v_ldc2_w (pc := 79) hX kl_Mo_208 d_Mo_year_79 ?_
          refine f_callS (pc := 82) hX k_Mo_in ks_Mo_in ml_Mo_104 (C_Mo_in) rfl rfl rfl (Nat.le_of_ble_eq_true rfl) (Nat.le_of_ble_eq_true rfl) (Nat.le_of_ble_eq_true rfl) d_Mo_year_82 ?_
          rw [rL_rg (L := 0) (H := 20) rfl rfl]
          refine f_ifeqB (pc := 85) (tgt := 93) hX d_Mo_year_85 rfl (fun h85 => ?_) (fun h85 => ?_)
          · refine v_aload_n (pc := 93) hX rfl d_Mo_year_93 ?_
            refine v_bipush (pc := 94) (v := (-2)) hX (by decide) d_Mo_year_94 ?_
            refine f_callV (pc := 96) hX k_Mo_refused ki_Mo_refused kv_Mo_refused ml_Mo_149 (C_Mo_refused) rfl rfl rfl rfl rfl (Nat.le_of_ble_eq_true rfl) (Nat.le_of_ble_eq_true rfl) (Nat.le_of_ble_eq_true rfl) d_Mo_year_96 ?_
            exact f_iret (pc := 99) hX hR (rfl) (rfl) d_Mo_year_99
          · refine v_iload (pc := 88) hX rfl d_Mo_year_88 ?_
            refine v_if_ne (pc := 90) (tgt := 100) hX d_Mo_year_90 rfl (fun h90 => False.elim (by revert h90; decide)) (fun h90 => ?_)
            refine v_aload_n (pc := 93) hX rfl d_Mo_year_93 ?_
            refine v_bipush (pc := 94) (v := (-2)) hX (by decide) d_Mo_year_94 ?_
            refine f_callV (pc := 96) hX k_Mo_refused ki_Mo_refused kv_Mo_refused ml_Mo_149 (C_Mo_refused) rfl rfl rfl rfl rfl (Nat.le_of_ble_eq_true rfl) (Nat.le_of_ble_eq_true rfl) (Nat.le_of_ble_eq_true rfl) d_Mo_year_96 ?_
            exact f_iret (pc := 99) hX hR (rfl) (rfl) d_Mo_year_99
      · have td : tdB y = true := by unfold tdB; rw [h23, h38, h53]; rfl
        refine v_iconst (pc := 56) (v := 1) hX (by decide) d_Mo_year_56 ?_
        refine v_goto (pc := 57) (tgt := 61) hX d_Mo_year_57 rfl ?_
        refine v_istore (pc := 61) (lo' := [some (vR _), some (vI _), some (vI _), some (vI _), some (vI _), some (vI _), some (vI _), none, none, none]) hX (Nat.le_of_ble_eq_true rfl) rfl d_Mo_year_61 ?_
        refine v_iload_n (pc := 63) hX rfl d_Mo_year_63 ?_
        refine v_i2l (pc := 64) hX d_Mo_year_64 ?_
        refine v_lconst (pc := 65) (v := 0) hX (by decide) d_Mo_year_65 ?_
        refine v_ldc2_w (pc := 66) hX kl_Mo_152 d_Mo_year_66 ?_
        refine f_callS (pc := 69) hX k_Mo_in ks_Mo_in ml_Mo_104 (C_Mo_in) rfl rfl rfl (Nat.le_of_ble_eq_true rfl) (Nat.le_of_ble_eq_true rfl) (Nat.le_of_ble_eq_true rfl) d_Mo_year_69 ?_
        rw [rL_rg (L := 0) (H := 2) rfl rfl]
        refine f_ifeqB (pc := 72) (tgt := 93) hX d_Mo_year_72 rfl (fun h72 => ?_) (fun h72 => ?_)
        · refine v_aload_n (pc := 93) hX rfl d_Mo_year_93 ?_
          refine v_bipush (pc := 94) (v := (-2)) hX (by decide) d_Mo_year_94 ?_
          refine f_callV (pc := 96) hX k_Mo_refused ki_Mo_refused kv_Mo_refused ml_Mo_149 (C_Mo_refused) rfl rfl rfl rfl rfl (Nat.le_of_ble_eq_true rfl) (Nat.le_of_ble_eq_true rfl) (Nat.le_of_ble_eq_true rfl) d_Mo_year_96 ?_
          exact f_iret (pc := 99) hX hR (rfl) (rfl) d_Mo_year_99
        · refine v_iload (pc := 75) hX rfl d_Mo_year_75 ?_
          refine v_i2l (pc := 77) hX d_Mo_year_77 ?_
          refine v_lconst (pc := 78) (v := 0) hX (by decide) d_Mo_year_78 ?_
          refine v_ldc2_w (pc := 79) hX kl_Mo_208 d_Mo_year_79 ?_
          refine f_callS (pc := 82) hX k_Mo_in ks_Mo_in ml_Mo_104 (C_Mo_in) rfl rfl rfl (Nat.le_of_ble_eq_true rfl) (Nat.le_of_ble_eq_true rfl) (Nat.le_of_ble_eq_true rfl) d_Mo_year_82 ?_
          rw [rL_rg (L := 0) (H := 20) rfl rfl]
          refine f_ifeqB (pc := 85) (tgt := 93) hX d_Mo_year_85 rfl (fun h85 => ?_) (fun h85 => ?_)
          · refine v_aload_n (pc := 93) hX rfl d_Mo_year_93 ?_
            refine v_bipush (pc := 94) (v := (-2)) hX (by decide) d_Mo_year_94 ?_
            refine f_callV (pc := 96) hX k_Mo_refused ki_Mo_refused kv_Mo_refused ml_Mo_149 (C_Mo_refused) rfl rfl rfl rfl rfl (Nat.le_of_ble_eq_true rfl) (Nat.le_of_ble_eq_true rfl) (Nat.le_of_ble_eq_true rfl) d_Mo_year_96 ?_
            exact f_iret (pc := 99) hX hR (rfl) (rfl) d_Mo_year_99
          · refine v_iload (pc := 88) hX rfl d_Mo_year_88 ?_
            refine v_if_ne (pc := 90) (tgt := 100) hX d_Mo_year_90 rfl (fun h90 => False.elim (by rw [h72, h85, td] at hb; cases hb)) (fun h90 => ?_)
            refine v_aload_n (pc := 93) hX rfl d_Mo_year_93 ?_
            refine v_bipush (pc := 94) (v := (-2)) hX (by decide) d_Mo_year_94 ?_
            refine f_callV (pc := 96) hX k_Mo_refused ki_Mo_refused kv_Mo_refused ml_Mo_149 (C_Mo_refused) rfl rfl rfl rfl rfl (Nat.le_of_ble_eq_true rfl) (Nat.le_of_ble_eq_true rfl) (Nat.le_of_ble_eq_true rfl) d_Mo_year_96 ?_
            exact f_iret (pc := 99) hX hR (rfl) (rfl) d_Mo_year_99
theorem C_Mo_year_no {M : MM} {k m n : Nat} {J : JT} {u v y : Int32} (hJ : MJ M n J) (hk : k < 4) (hu : rg u 0 2 = true) (hm : m < 21) (hy : tdB y = true) (h0 : n = 0) : AF y_Mo_year c_Mo_year 10 (some .int) 7 [vR 36, vI (i3 k), vI u, vI v, vI (i3 m), vI y] (M) (some (vI (-3))) (upM M 36 0 0) := by
  have h6 := hJ.1
  have hM := hJ.2.1
  refine AF.of k_Mo_year (lo := [some (vR 36), some (vI (i3 k)), some (vI u), some (vI v), some (vI (i3 m)), some (vI y), none, none, none, none]) rfl (Nat.le_of_ble_eq_true rfl) (fun X hX hR => ?_)
  refine v_iload_n (pc := 0) hX rfl d_Mo_year_0 ?_
  refine f_callS (pc := 1) hX k_Mo_noSheet ks_Mo_noSheet ml_Mo_145 (C_Mo_noSheet) rfl rfl rfl (Nat.le_of_ble_eq_true rfl) (Nat.le_of_ble_eq_true rfl) (Nat.le_of_ble_eq_true rfl) d_Mo_year_1 ?_
  rw [show rg (i3 k) 0 3 = true from rg_i3 (n := 4) hk (by decide)]
  refine f_ifeqB (pc := 4) (tgt := 13) hX d_Mo_year_4 rfl (fun h4 => ?_) (fun h4 => False.elim (absurd h4 (by decide)))
  refine v_iload (pc := 13) hX rfl d_Mo_year_13 ?_
  refine v_i2l (pc := 15) hX d_Mo_year_15 ?_
  refine v_lconst (pc := 16) (v := 0) hX (by decide) d_Mo_year_16 ?_
  refine v_ldc2_w (pc := 17) hX kl_Mo_202 d_Mo_year_17 ?_
  refine f_callS (pc := 20) hX k_Mo_in ks_Mo_in ml_Mo_104 (C_Mo_in) rfl rfl rfl (Nat.le_of_ble_eq_true rfl) (Nat.le_of_ble_eq_true rfl) (Nat.le_of_ble_eq_true rfl) d_Mo_year_20 ?_
  rw [rL_rg (L := 0) (H := 3) rfl rfl]
  refine f_ifneB (pc := 23) (tgt := 56) hX d_Mo_year_23 rfl (fun h23 => ?_) (fun h23 => ?_)
  · have td : tdB y = true := by unfold tdB; rw [h23]; rfl
    refine v_iconst (pc := 56) (v := 1) hX (by decide) d_Mo_year_56 ?_
    refine v_goto (pc := 57) (tgt := 61) hX d_Mo_year_57 rfl ?_
    refine v_istore (pc := 61) (lo' := [some (vR _), some (vI _), some (vI _), some (vI _), some (vI _), some (vI _), some (vI _), none, none, none]) hX (Nat.le_of_ble_eq_true rfl) rfl d_Mo_year_61 ?_
    refine v_iload_n (pc := 63) hX rfl d_Mo_year_63 ?_
    refine v_i2l (pc := 64) hX d_Mo_year_64 ?_
    refine v_lconst (pc := 65) (v := 0) hX (by decide) d_Mo_year_65 ?_
    refine v_ldc2_w (pc := 66) hX kl_Mo_152 d_Mo_year_66 ?_
    refine f_callS (pc := 69) hX k_Mo_in ks_Mo_in ml_Mo_104 (C_Mo_in) rfl rfl rfl (Nat.le_of_ble_eq_true rfl) (Nat.le_of_ble_eq_true rfl) (Nat.le_of_ble_eq_true rfl) d_Mo_year_69 ?_
    rw [rL_rg (L := 0) (H := 2) rfl rfl]
    refine f_ifeqB (pc := 72) (tgt := 93) hX d_Mo_year_72 rfl (fun h72 => False.elim (by rw [hu] at h72; cases h72)) (fun h72 => ?_)
    refine v_iload (pc := 75) hX rfl d_Mo_year_75 ?_
    refine v_i2l (pc := 77) hX d_Mo_year_77 ?_
    refine v_lconst (pc := 78) (v := 0) hX (by decide) d_Mo_year_78 ?_
    refine v_ldc2_w (pc := 79) hX kl_Mo_208 d_Mo_year_79 ?_
    refine f_callS (pc := 82) hX k_Mo_in ks_Mo_in ml_Mo_104 (C_Mo_in) rfl rfl rfl (Nat.le_of_ble_eq_true rfl) (Nat.le_of_ble_eq_true rfl) (Nat.le_of_ble_eq_true rfl) d_Mo_year_82 ?_
    rw [rL_rg (L := 0) (H := 20) rfl rfl]
    refine f_ifeqB (pc := 85) (tgt := 93) hX d_Mo_year_85 rfl (fun h85 => False.elim (by rw [show rg (i3 m) 0 20 = true from rg_i3 (n := 21) hm (by decide)] at h85; cases h85)) (fun h85 => ?_)
    refine v_iload (pc := 88) hX rfl d_Mo_year_88 ?_
    refine v_if_ne (pc := 90) (tgt := 100) hX d_Mo_year_90 rfl (fun h90 => ?_) (fun h90 => False.elim (by revert h90; decide))
    refine v_aload_n (pc := 100) hX rfl d_Mo_year_100 ?_
    refine g_getI (pc := 101) hX fl_Mo_101 rfl rfl d_Mo_year_101 ?_
    rw [hM]
    refine v_if_ne (pc := 104) (tgt := 114) hX d_Mo_year_104 rfl (fun h104 => False.elim (h104 (by rw [h0]; rfl))) (fun h104 => ?_)
    refine v_aload_n (pc := 107) hX rfl d_Mo_year_107 ?_
    refine v_bipush (pc := 108) (v := (-3)) hX (by decide) d_Mo_year_108 ?_
    refine f_callV (pc := 110) hX k_Mo_refused ki_Mo_refused kv_Mo_refused ml_Mo_149 (C_Mo_refused) rfl rfl rfl rfl rfl (Nat.le_of_ble_eq_true rfl) (Nat.le_of_ble_eq_true rfl) (Nat.le_of_ble_eq_true rfl) d_Mo_year_110 ?_
    exact f_iret (pc := 113) hX hR (rfl) (rfl) d_Mo_year_113
  · refine v_iload (pc := 26) hX rfl d_Mo_year_26 ?_
    refine v_i2l (pc := 28) hX d_Mo_year_28 ?_
    refine v_ldc2_w (pc := 29) hX kl_Mo_204 d_Mo_year_29 ?_
    refine v_ldc2_w (pc := 32) hX kl_Mo_206 d_Mo_year_32 ?_
    refine f_callS (pc := 35) hX k_Mo_in ks_Mo_in ml_Mo_104 (C_Mo_in) rfl rfl rfl (Nat.le_of_ble_eq_true rfl) (Nat.le_of_ble_eq_true rfl) (Nat.le_of_ble_eq_true rfl) d_Mo_year_35 ?_
    rw [rL_rg (L := 10) (H := 15) rfl rfl]
    refine f_ifneB (pc := 38) (tgt := 56) hX d_Mo_year_38 rfl (fun h38 => ?_) (fun h38 => ?_)
    · have td : tdB y = true := by unfold tdB; rw [h23, h38]; rfl
      refine v_iconst (pc := 56) (v := 1) hX (by decide) d_Mo_year_56 ?_
      refine v_goto (pc := 57) (tgt := 61) hX d_Mo_year_57 rfl ?_
      refine v_istore (pc := 61) (lo' := [some (vR _), some (vI _), some (vI _), some (vI _), some (vI _), some (vI _), some (vI _), none, none, none]) hX (Nat.le_of_ble_eq_true rfl) rfl d_Mo_year_61 ?_
      refine v_iload_n (pc := 63) hX rfl d_Mo_year_63 ?_
      refine v_i2l (pc := 64) hX d_Mo_year_64 ?_
      refine v_lconst (pc := 65) (v := 0) hX (by decide) d_Mo_year_65 ?_
      refine v_ldc2_w (pc := 66) hX kl_Mo_152 d_Mo_year_66 ?_
      refine f_callS (pc := 69) hX k_Mo_in ks_Mo_in ml_Mo_104 (C_Mo_in) rfl rfl rfl (Nat.le_of_ble_eq_true rfl) (Nat.le_of_ble_eq_true rfl) (Nat.le_of_ble_eq_true rfl) d_Mo_year_69 ?_
      rw [rL_rg (L := 0) (H := 2) rfl rfl]
      refine f_ifeqB (pc := 72) (tgt := 93) hX d_Mo_year_72 rfl (fun h72 => False.elim (by rw [hu] at h72; cases h72)) (fun h72 => ?_)
      refine v_iload (pc := 75) hX rfl d_Mo_year_75 ?_
      refine v_i2l (pc := 77) hX d_Mo_year_77 ?_
      refine v_lconst (pc := 78) (v := 0) hX (by decide) d_Mo_year_78 ?_
      refine v_ldc2_w (pc := 79) hX kl_Mo_208 d_Mo_year_79 ?_
      refine f_callS (pc := 82) hX k_Mo_in ks_Mo_in ml_Mo_104 (C_Mo_in) rfl rfl rfl (Nat.le_of_ble_eq_true rfl) (Nat.le_of_ble_eq_true rfl) (Nat.le_of_ble_eq_true rfl) d_Mo_year_82 ?_
      rw [rL_rg (L := 0) (H := 20) rfl rfl]
      refine f_ifeqB (pc := 85) (tgt := 93) hX d_Mo_year_85 rfl (fun h85 => False.elim (by rw [show rg (i3 m) 0 20 = true from rg_i3 (n := 21) hm (by decide)] at h85; cases h85)) (fun h85 => ?_)
      refine v_iload (pc := 88) hX rfl d_Mo_year_88 ?_
      refine v_if_ne (pc := 90) (tgt := 100) hX d_Mo_year_90 rfl (fun h90 => ?_) (fun h90 => False.elim (by revert h90; decide))
      refine v_aload_n (pc := 100) hX rfl d_Mo_year_100 ?_
      refine g_getI (pc := 101) hX fl_Mo_101 rfl rfl d_Mo_year_101 ?_
      rw [hM]
      refine v_if_ne (pc := 104) (tgt := 114) hX d_Mo_year_104 rfl (fun h104 => False.elim (h104 (by rw [h0]; rfl))) (fun h104 => ?_)
      refine v_aload_n (pc := 107) hX rfl d_Mo_year_107 ?_
      refine v_bipush (pc := 108) (v := (-3)) hX (by decide) d_Mo_year_108 ?_
      refine f_callV (pc := 110) hX k_Mo_refused ki_Mo_refused kv_Mo_refused ml_Mo_149 (C_Mo_refused) rfl rfl rfl rfl rfl (Nat.le_of_ble_eq_true rfl) (Nat.le_of_ble_eq_true rfl) (Nat.le_of_ble_eq_true rfl) d_Mo_year_110 ?_
      exact f_iret (pc := 113) hX hR (rfl) (rfl) d_Mo_year_113
    · refine v_iload (pc := 41) hX rfl d_Mo_year_41 ?_
      refine v_i2l (pc := 43) hX d_Mo_year_43 ?_
      refine v_ldc2_w (pc := 44) hX kl_Mo_208 d_Mo_year_44 ?_
      refine v_ldc2_w (pc := 47) hX kl_Mo_210 d_Mo_year_47 ?_
      refine f_callS (pc := 50) hX k_Mo_in ks_Mo_in ml_Mo_104 (C_Mo_in) rfl rfl rfl (Nat.le_of_ble_eq_true rfl) (Nat.le_of_ble_eq_true rfl) (Nat.le_of_ble_eq_true rfl) d_Mo_year_50 ?_
      rw [rL_rg (L := 20) (H := 23) rfl rfl]
      refine f_ifeqB (pc := 53) (tgt := 60) hX d_Mo_year_53 rfl (fun h53 => False.elim (by have td : tdB y = false := (by unfold tdB; rw [h23, h38, h53]; rfl); rw [td] at hy; cases hy)) (fun h53 => ?_)
      refine v_iconst (pc := 56) (v := 1) hX (by decide) d_Mo_year_56 ?_
      refine v_goto (pc := 57) (tgt := 61) hX d_Mo_year_57 rfl ?_
      refine v_istore (pc := 61) (lo' := [some (vR _), some (vI _), some (vI _), some (vI _), some (vI _), some (vI _), some (vI _), none, none, none]) hX (Nat.le_of_ble_eq_true rfl) rfl d_Mo_year_61 ?_
      refine v_iload_n (pc := 63) hX rfl d_Mo_year_63 ?_
      refine v_i2l (pc := 64) hX d_Mo_year_64 ?_
      refine v_lconst (pc := 65) (v := 0) hX (by decide) d_Mo_year_65 ?_
      refine v_ldc2_w (pc := 66) hX kl_Mo_152 d_Mo_year_66 ?_
      refine f_callS (pc := 69) hX k_Mo_in ks_Mo_in ml_Mo_104 (C_Mo_in) rfl rfl rfl (Nat.le_of_ble_eq_true rfl) (Nat.le_of_ble_eq_true rfl) (Nat.le_of_ble_eq_true rfl) d_Mo_year_69 ?_
      rw [rL_rg (L := 0) (H := 2) rfl rfl]
      refine f_ifeqB (pc := 72) (tgt := 93) hX d_Mo_year_72 rfl (fun h72 => False.elim (by rw [hu] at h72; cases h72)) (fun h72 => ?_)
      refine v_iload (pc := 75) hX rfl d_Mo_year_75 ?_
      refine v_i2l (pc := 77) hX d_Mo_year_77 ?_
      refine v_lconst (pc := 78) (v := 0) hX (by decide) d_Mo_year_78 ?_
      refine v_ldc2_w (pc := 79) hX kl_Mo_208 d_Mo_year_79 ?_
      refine f_callS (pc := 82) hX k_Mo_in ks_Mo_in ml_Mo_104 (C_Mo_in) rfl rfl rfl (Nat.le_of_ble_eq_true rfl) (Nat.le_of_ble_eq_true rfl) (Nat.le_of_ble_eq_true rfl) d_Mo_year_82 ?_
      rw [rL_rg (L := 0) (H := 20) rfl rfl]
      refine f_ifeqB (pc := 85) (tgt := 93) hX d_Mo_year_85 rfl (fun h85 => False.elim (by rw [show rg (i3 m) 0 20 = true from rg_i3 (n := 21) hm (by decide)] at h85; cases h85)) (fun h85 => ?_)
      refine v_iload (pc := 88) hX rfl d_Mo_year_88 ?_
      refine v_if_ne (pc := 90) (tgt := 100) hX d_Mo_year_90 rfl (fun h90 => ?_) (fun h90 => False.elim (by revert h90; decide))
      refine v_aload_n (pc := 100) hX rfl d_Mo_year_100 ?_
      refine g_getI (pc := 101) hX fl_Mo_101 rfl rfl d_Mo_year_101 ?_
      rw [hM]
      refine v_if_ne (pc := 104) (tgt := 114) hX d_Mo_year_104 rfl (fun h104 => False.elim (h104 (by rw [h0]; rfl))) (fun h104 => ?_)
      refine v_aload_n (pc := 107) hX rfl d_Mo_year_107 ?_
      refine v_bipush (pc := 108) (v := (-3)) hX (by decide) d_Mo_year_108 ?_
      refine f_callV (pc := 110) hX k_Mo_refused ki_Mo_refused kv_Mo_refused ml_Mo_149 (C_Mo_refused) rfl rfl rfl rfl rfl (Nat.le_of_ble_eq_true rfl) (Nat.le_of_ble_eq_true rfl) (Nat.le_of_ble_eq_true rfl) d_Mo_year_110 ?_
      exact f_iret (pc := 113) hX hR (rfl) (rfl) d_Mo_year_113
theorem C_Mo_year_fail {M : MM} {k m n : Nat} {J : JT} {u v y : Int32} (hJ : MJ M n J) (hk : k < 4) (hu : rg u 0 2 = true) (hm : m < 21) (hy : tdB y = true) {zs : Nat → Nat} {ln : Nat → Int32} {C : JT} (hZ : MZ M zs ln C) (h0 : ¬ n = 0) (hf : ¬ flt (zs k) (ln k) u v (i3 (2 * m)) = 0) : AF y_Mo_year c_Mo_year 10 (some .int) 7 [vR 36, vI (i3 k), vI u, vI v, vI (i3 m), vI y] (M) (some (vI (-10 - flt (zs k) (ln k) u v (i3 (2 * m))))) (upM M 36 0 (flt (zs k) (ln k) u v (i3 (2 * m)))) := by
  have h6 := hJ.1
  have hM := hJ.2.1
  refine AF.of k_Mo_year (lo := [some (vR 36), some (vI (i3 k)), some (vI u), some (vI v), some (vI (i3 m)), some (vI y), none, none, none, none]) rfl (Nat.le_of_ble_eq_true rfl) (fun X hX hR => ?_)
  refine v_iload_n (pc := 0) hX rfl d_Mo_year_0 ?_
  refine f_callS (pc := 1) hX k_Mo_noSheet ks_Mo_noSheet ml_Mo_145 (C_Mo_noSheet) rfl rfl rfl (Nat.le_of_ble_eq_true rfl) (Nat.le_of_ble_eq_true rfl) (Nat.le_of_ble_eq_true rfl) d_Mo_year_1 ?_
  rw [show rg (i3 k) 0 3 = true from rg_i3 (n := 4) hk (by decide)]
  refine f_ifeqB (pc := 4) (tgt := 13) hX d_Mo_year_4 rfl (fun h4 => ?_) (fun h4 => False.elim (absurd h4 (by decide)))
  refine v_iload (pc := 13) hX rfl d_Mo_year_13 ?_
  refine v_i2l (pc := 15) hX d_Mo_year_15 ?_
  refine v_lconst (pc := 16) (v := 0) hX (by decide) d_Mo_year_16 ?_
  refine v_ldc2_w (pc := 17) hX kl_Mo_202 d_Mo_year_17 ?_
  refine f_callS (pc := 20) hX k_Mo_in ks_Mo_in ml_Mo_104 (C_Mo_in) rfl rfl rfl (Nat.le_of_ble_eq_true rfl) (Nat.le_of_ble_eq_true rfl) (Nat.le_of_ble_eq_true rfl) d_Mo_year_20 ?_
  rw [rL_rg (L := 0) (H := 3) rfl rfl]
  refine f_ifneB (pc := 23) (tgt := 56) hX d_Mo_year_23 rfl (fun h23 => ?_) (fun h23 => ?_)
  · have td : tdB y = true := by unfold tdB; rw [h23]; rfl
    refine v_iconst (pc := 56) (v := 1) hX (by decide) d_Mo_year_56 ?_
    refine v_goto (pc := 57) (tgt := 61) hX d_Mo_year_57 rfl ?_
    refine v_istore (pc := 61) (lo' := [some (vR _), some (vI _), some (vI _), some (vI _), some (vI _), some (vI _), some (vI _), none, none, none]) hX (Nat.le_of_ble_eq_true rfl) rfl d_Mo_year_61 ?_
    refine v_iload_n (pc := 63) hX rfl d_Mo_year_63 ?_
    refine v_i2l (pc := 64) hX d_Mo_year_64 ?_
    refine v_lconst (pc := 65) (v := 0) hX (by decide) d_Mo_year_65 ?_
    refine v_ldc2_w (pc := 66) hX kl_Mo_152 d_Mo_year_66 ?_
    refine f_callS (pc := 69) hX k_Mo_in ks_Mo_in ml_Mo_104 (C_Mo_in) rfl rfl rfl (Nat.le_of_ble_eq_true rfl) (Nat.le_of_ble_eq_true rfl) (Nat.le_of_ble_eq_true rfl) d_Mo_year_69 ?_
    rw [rL_rg (L := 0) (H := 2) rfl rfl]
    refine f_ifeqB (pc := 72) (tgt := 93) hX d_Mo_year_72 rfl (fun h72 => False.elim (by rw [hu] at h72; cases h72)) (fun h72 => ?_)
    refine v_iload (pc := 75) hX rfl d_Mo_year_75 ?_
    refine v_i2l (pc := 77) hX d_Mo_year_77 ?_
    refine v_lconst (pc := 78) (v := 0) hX (by decide) d_Mo_year_78 ?_
    refine v_ldc2_w (pc := 79) hX kl_Mo_208 d_Mo_year_79 ?_
    refine f_callS (pc := 82) hX k_Mo_in ks_Mo_in ml_Mo_104 (C_Mo_in) rfl rfl rfl (Nat.le_of_ble_eq_true rfl) (Nat.le_of_ble_eq_true rfl) (Nat.le_of_ble_eq_true rfl) d_Mo_year_82 ?_
    rw [rL_rg (L := 0) (H := 20) rfl rfl]
    refine f_ifeqB (pc := 85) (tgt := 93) hX d_Mo_year_85 rfl (fun h85 => False.elim (by rw [show rg (i3 m) 0 20 = true from rg_i3 (n := 21) hm (by decide)] at h85; cases h85)) (fun h85 => ?_)
    refine v_iload (pc := 88) hX rfl d_Mo_year_88 ?_
    refine v_if_ne (pc := 90) (tgt := 100) hX d_Mo_year_90 rfl (fun h90 => ?_) (fun h90 => False.elim (by revert h90; decide))
    refine v_aload_n (pc := 100) hX rfl d_Mo_year_100 ?_
    refine g_getI (pc := 101) hX fl_Mo_101 rfl rfl d_Mo_year_101 ?_
    rw [hM]
    refine v_if_ne (pc := 104) (tgt := 114) hX d_Mo_year_104 rfl (fun h104 => ?_) (fun h104 => False.elim (i3_ne0 h0 (by omega) h104))
    refine v_aload_n (pc := 114) hX rfl d_Mo_year_114 ?_
    refine v_iload_n (pc := 115) hX rfl d_Mo_year_115 ?_
    refine v_iload_n (pc := 116) hX rfl d_Mo_year_116 ?_
    refine v_iload_n (pc := 117) hX rfl d_Mo_year_117 ?_
    refine v_ldc2_w (pc := 118) hX kl_Mo_152 d_Mo_year_118 ?_
    refine v_iload (pc := 121) hX rfl d_Mo_year_121 ?_
    refine v_i2l (pc := 123) hX d_Mo_year_123 ?_
    refine v_lmul (pc := 124) hX d_Mo_year_124 ?_
    refine f_callV (pc := 125) hX k_Mo_cellsBarred ki_Mo_cellsBarred kv_Mo_cellsBarred ml_Mo_154 (C_Mo_cb_fail hZ hk (by rw [two_l (by omega), i3_int (by omega)]; omega) hf) rfl rfl rfl rfl rfl (Nat.le_of_ble_eq_true rfl) (Nat.le_of_ble_eq_true rfl) (Nat.le_of_ble_eq_true rfl) d_Mo_year_125 ?_
    refine v_istore (pc := 128) (lo' := [some (vR _), some (vI _), some (vI _), some (vI _), some (vI _), some (vI _), some (vI _), some (vI _), none, none]) hX (Nat.le_of_ble_eq_true rfl) rfl d_Mo_year_128 ?_
    refine v_iload (pc := 130) hX rfl d_Mo_year_130 ?_
    refine v_if_ge (pc := 132) (tgt := 138) hX d_Mo_year_132 rfl (fun h132 => False.elim (absurd h132 (Int32.not_le.mpr flt_neg))) (fun h132 => ?_)
    refine v_iload (pc := 135) hX rfl d_Mo_year_135 ?_
    exact f_iret (pc := 137) hX hR (rfl) (rfl) d_Mo_year_137
  · refine v_iload (pc := 26) hX rfl d_Mo_year_26 ?_
    refine v_i2l (pc := 28) hX d_Mo_year_28 ?_
    refine v_ldc2_w (pc := 29) hX kl_Mo_204 d_Mo_year_29 ?_
    refine v_ldc2_w (pc := 32) hX kl_Mo_206 d_Mo_year_32 ?_
    refine f_callS (pc := 35) hX k_Mo_in ks_Mo_in ml_Mo_104 (C_Mo_in) rfl rfl rfl (Nat.le_of_ble_eq_true rfl) (Nat.le_of_ble_eq_true rfl) (Nat.le_of_ble_eq_true rfl) d_Mo_year_35 ?_
    rw [rL_rg (L := 10) (H := 15) rfl rfl]
    refine f_ifneB (pc := 38) (tgt := 56) hX d_Mo_year_38 rfl (fun h38 => ?_) (fun h38 => ?_)
    · have td : tdB y = true := by unfold tdB; rw [h23, h38]; rfl
      refine v_iconst (pc := 56) (v := 1) hX (by decide) d_Mo_year_56 ?_
      refine v_goto (pc := 57) (tgt := 61) hX d_Mo_year_57 rfl ?_
      refine v_istore (pc := 61) (lo' := [some (vR _), some (vI _), some (vI _), some (vI _), some (vI _), some (vI _), some (vI _), none, none, none]) hX (Nat.le_of_ble_eq_true rfl) rfl d_Mo_year_61 ?_
      refine v_iload_n (pc := 63) hX rfl d_Mo_year_63 ?_
      refine v_i2l (pc := 64) hX d_Mo_year_64 ?_
      refine v_lconst (pc := 65) (v := 0) hX (by decide) d_Mo_year_65 ?_
      refine v_ldc2_w (pc := 66) hX kl_Mo_152 d_Mo_year_66 ?_
      refine f_callS (pc := 69) hX k_Mo_in ks_Mo_in ml_Mo_104 (C_Mo_in) rfl rfl rfl (Nat.le_of_ble_eq_true rfl) (Nat.le_of_ble_eq_true rfl) (Nat.le_of_ble_eq_true rfl) d_Mo_year_69 ?_
      rw [rL_rg (L := 0) (H := 2) rfl rfl]
      refine f_ifeqB (pc := 72) (tgt := 93) hX d_Mo_year_72 rfl (fun h72 => False.elim (by rw [hu] at h72; cases h72)) (fun h72 => ?_)
      refine v_iload (pc := 75) hX rfl d_Mo_year_75 ?_
      refine v_i2l (pc := 77) hX d_Mo_year_77 ?_
      refine v_lconst (pc := 78) (v := 0) hX (by decide) d_Mo_year_78 ?_
      refine v_ldc2_w (pc := 79) hX kl_Mo_208 d_Mo_year_79 ?_
      refine f_callS (pc := 82) hX k_Mo_in ks_Mo_in ml_Mo_104 (C_Mo_in) rfl rfl rfl (Nat.le_of_ble_eq_true rfl) (Nat.le_of_ble_eq_true rfl) (Nat.le_of_ble_eq_true rfl) d_Mo_year_82 ?_
      rw [rL_rg (L := 0) (H := 20) rfl rfl]
      refine f_ifeqB (pc := 85) (tgt := 93) hX d_Mo_year_85 rfl (fun h85 => False.elim (by rw [show rg (i3 m) 0 20 = true from rg_i3 (n := 21) hm (by decide)] at h85; cases h85)) (fun h85 => ?_)
      refine v_iload (pc := 88) hX rfl d_Mo_year_88 ?_
      refine v_if_ne (pc := 90) (tgt := 100) hX d_Mo_year_90 rfl (fun h90 => ?_) (fun h90 => False.elim (by revert h90; decide))
      refine v_aload_n (pc := 100) hX rfl d_Mo_year_100 ?_
      refine g_getI (pc := 101) hX fl_Mo_101 rfl rfl d_Mo_year_101 ?_
      rw [hM]
      refine v_if_ne (pc := 104) (tgt := 114) hX d_Mo_year_104 rfl (fun h104 => ?_) (fun h104 => False.elim (i3_ne0 h0 (by omega) h104))
      refine v_aload_n (pc := 114) hX rfl d_Mo_year_114 ?_
      refine v_iload_n (pc := 115) hX rfl d_Mo_year_115 ?_
      refine v_iload_n (pc := 116) hX rfl d_Mo_year_116 ?_
      refine v_iload_n (pc := 117) hX rfl d_Mo_year_117 ?_
      refine v_ldc2_w (pc := 118) hX kl_Mo_152 d_Mo_year_118 ?_
      refine v_iload (pc := 121) hX rfl d_Mo_year_121 ?_
      refine v_i2l (pc := 123) hX d_Mo_year_123 ?_
      refine v_lmul (pc := 124) hX d_Mo_year_124 ?_
      refine f_callV (pc := 125) hX k_Mo_cellsBarred ki_Mo_cellsBarred kv_Mo_cellsBarred ml_Mo_154 (C_Mo_cb_fail hZ hk (by rw [two_l (by omega), i3_int (by omega)]; omega) hf) rfl rfl rfl rfl rfl (Nat.le_of_ble_eq_true rfl) (Nat.le_of_ble_eq_true rfl) (Nat.le_of_ble_eq_true rfl) d_Mo_year_125 ?_
      refine v_istore (pc := 128) (lo' := [some (vR _), some (vI _), some (vI _), some (vI _), some (vI _), some (vI _), some (vI _), some (vI _), none, none]) hX (Nat.le_of_ble_eq_true rfl) rfl d_Mo_year_128 ?_
      refine v_iload (pc := 130) hX rfl d_Mo_year_130 ?_
      refine v_if_ge (pc := 132) (tgt := 138) hX d_Mo_year_132 rfl (fun h132 => False.elim (absurd h132 (Int32.not_le.mpr flt_neg))) (fun h132 => ?_)
      refine v_iload (pc := 135) hX rfl d_Mo_year_135 ?_
      exact f_iret (pc := 137) hX hR (rfl) (rfl) d_Mo_year_137
    · refine v_iload (pc := 41) hX rfl d_Mo_year_41 ?_
      refine v_i2l (pc := 43) hX d_Mo_year_43 ?_
      refine v_ldc2_w (pc := 44) hX kl_Mo_208 d_Mo_year_44 ?_
      refine v_ldc2_w (pc := 47) hX kl_Mo_210 d_Mo_year_47 ?_
      refine f_callS (pc := 50) hX k_Mo_in ks_Mo_in ml_Mo_104 (C_Mo_in) rfl rfl rfl (Nat.le_of_ble_eq_true rfl) (Nat.le_of_ble_eq_true rfl) (Nat.le_of_ble_eq_true rfl) d_Mo_year_50 ?_
      rw [rL_rg (L := 20) (H := 23) rfl rfl]
      refine f_ifeqB (pc := 53) (tgt := 60) hX d_Mo_year_53 rfl (fun h53 => False.elim (by have td : tdB y = false := (by unfold tdB; rw [h23, h38, h53]; rfl); rw [td] at hy; cases hy)) (fun h53 => ?_)
      refine v_iconst (pc := 56) (v := 1) hX (by decide) d_Mo_year_56 ?_
      refine v_goto (pc := 57) (tgt := 61) hX d_Mo_year_57 rfl ?_
      refine v_istore (pc := 61) (lo' := [some (vR _), some (vI _), some (vI _), some (vI _), some (vI _), some (vI _), some (vI _), none, none, none]) hX (Nat.le_of_ble_eq_true rfl) rfl d_Mo_year_61 ?_
      refine v_iload_n (pc := 63) hX rfl d_Mo_year_63 ?_
      refine v_i2l (pc := 64) hX d_Mo_year_64 ?_
      refine v_lconst (pc := 65) (v := 0) hX (by decide) d_Mo_year_65 ?_
      refine v_ldc2_w (pc := 66) hX kl_Mo_152 d_Mo_year_66 ?_
      refine f_callS (pc := 69) hX k_Mo_in ks_Mo_in ml_Mo_104 (C_Mo_in) rfl rfl rfl (Nat.le_of_ble_eq_true rfl) (Nat.le_of_ble_eq_true rfl) (Nat.le_of_ble_eq_true rfl) d_Mo_year_69 ?_
      rw [rL_rg (L := 0) (H := 2) rfl rfl]
      refine f_ifeqB (pc := 72) (tgt := 93) hX d_Mo_year_72 rfl (fun h72 => False.elim (by rw [hu] at h72; cases h72)) (fun h72 => ?_)
      refine v_iload (pc := 75) hX rfl d_Mo_year_75 ?_
      refine v_i2l (pc := 77) hX d_Mo_year_77 ?_
      refine v_lconst (pc := 78) (v := 0) hX (by decide) d_Mo_year_78 ?_
      refine v_ldc2_w (pc := 79) hX kl_Mo_208 d_Mo_year_79 ?_
      refine f_callS (pc := 82) hX k_Mo_in ks_Mo_in ml_Mo_104 (C_Mo_in) rfl rfl rfl (Nat.le_of_ble_eq_true rfl) (Nat.le_of_ble_eq_true rfl) (Nat.le_of_ble_eq_true rfl) d_Mo_year_82 ?_
      rw [rL_rg (L := 0) (H := 20) rfl rfl]
      refine f_ifeqB (pc := 85) (tgt := 93) hX d_Mo_year_85 rfl (fun h85 => False.elim (by rw [show rg (i3 m) 0 20 = true from rg_i3 (n := 21) hm (by decide)] at h85; cases h85)) (fun h85 => ?_)
      refine v_iload (pc := 88) hX rfl d_Mo_year_88 ?_
      refine v_if_ne (pc := 90) (tgt := 100) hX d_Mo_year_90 rfl (fun h90 => ?_) (fun h90 => False.elim (by revert h90; decide))
      refine v_aload_n (pc := 100) hX rfl d_Mo_year_100 ?_
      refine g_getI (pc := 101) hX fl_Mo_101 rfl rfl d_Mo_year_101 ?_
      rw [hM]
      refine v_if_ne (pc := 104) (tgt := 114) hX d_Mo_year_104 rfl (fun h104 => ?_) (fun h104 => False.elim (i3_ne0 h0 (by omega) h104))
      refine v_aload_n (pc := 114) hX rfl d_Mo_year_114 ?_
      refine v_iload_n (pc := 115) hX rfl d_Mo_year_115 ?_
      refine v_iload_n (pc := 116) hX rfl d_Mo_year_116 ?_
      refine v_iload_n (pc := 117) hX rfl d_Mo_year_117 ?_
      refine v_ldc2_w (pc := 118) hX kl_Mo_152 d_Mo_year_118 ?_
      refine v_iload (pc := 121) hX rfl d_Mo_year_121 ?_
      refine v_i2l (pc := 123) hX d_Mo_year_123 ?_
      refine v_lmul (pc := 124) hX d_Mo_year_124 ?_
      refine f_callV (pc := 125) hX k_Mo_cellsBarred ki_Mo_cellsBarred kv_Mo_cellsBarred ml_Mo_154 (C_Mo_cb_fail hZ hk (by rw [two_l (by omega), i3_int (by omega)]; omega) hf) rfl rfl rfl rfl rfl (Nat.le_of_ble_eq_true rfl) (Nat.le_of_ble_eq_true rfl) (Nat.le_of_ble_eq_true rfl) d_Mo_year_125 ?_
      refine v_istore (pc := 128) (lo' := [some (vR _), some (vI _), some (vI _), some (vI _), some (vI _), some (vI _), some (vI _), some (vI _), none, none]) hX (Nat.le_of_ble_eq_true rfl) rfl d_Mo_year_128 ?_
      refine v_iload (pc := 130) hX rfl d_Mo_year_130 ?_
      refine v_if_ge (pc := 132) (tgt := 138) hX d_Mo_year_132 rfl (fun h132 => False.elim (absurd h132 (Int32.not_le.mpr flt_neg))) (fun h132 => ?_)
      refine v_iload (pc := 135) hX rfl d_Mo_year_135 ?_
      exact f_iret (pc := 137) hX hR (rfl) (rfl) d_Mo_year_137
theorem C_Mo_year_unk {M : MM} {k m n nd a : Nat} {J B : JT} {y : Int32} (hJ : MJ M n J) (hB : MB M nd B) (hk : k < 4) (hm : m < 21) (hy : tdB y = true) {zs : Nat → Nat} {ln : Nat → Int32} {C : JT} (hZ : MZ M zs ln C) (hu : rg (ln k) 0 2 = true) (h0 : ¬ n = 0) (hz : zs k ≠ 0) (ham : a + 2 * m ≤ zs k - 1) (hat : allB (fun p => rg (C k (a + 2 * p)) 0 ((nd : Int) - 1) && rg (C k (a + (2 * p + 1))) 0 ((n : Int) - 1)) m = false) : AF y_Mo_year c_Mo_year 10 (some .int) 7 [vR 36, vI (i3 k), vI (ln k), vI (i3 a), vI (i3 m), vI y] (M) (some (vI (-1))) (upM M 36 0 0) := by
  have h6 := hJ.1
  have hM := hJ.2.1
  have h4 := hB.1
  have hM7 := hB.2.1
  obtain ⟨z1, z2, z3⟩ := hZ k hk
  have hq : ∀ t, t < 2 * m → M 62 (60 * k + a + t) = (fun t => C k (a + t)) t := fun t ht => by rw [show 60 * k + a + t = 60 * k + (a + t) by omega]; exact (z3 hz).2 _ (by omega)
  refine AF.of k_Mo_year (lo := [some (vR 36), some (vI (i3 k)), some (vI (ln k)), some (vI (i3 a)), some (vI (i3 m)), some (vI y), none, none, none, none]) rfl (Nat.le_of_ble_eq_true rfl) (fun X hX hR => ?_)
  refine v_iload_n (pc := 0) hX rfl d_Mo_year_0 ?_
  refine f_callS (pc := 1) hX k_Mo_noSheet ks_Mo_noSheet ml_Mo_145 (C_Mo_noSheet) rfl rfl rfl (Nat.le_of_ble_eq_true rfl) (Nat.le_of_ble_eq_true rfl) (Nat.le_of_ble_eq_true rfl) d_Mo_year_1 ?_
  rw [show rg (i3 k) 0 3 = true from rg_i3 (n := 4) hk (by decide)]
  refine f_ifeqB (pc := 4) (tgt := 13) hX d_Mo_year_4 rfl (fun h4 => ?_) (fun h4 => False.elim (absurd h4 (by decide)))
  refine v_iload (pc := 13) hX rfl d_Mo_year_13 ?_
  refine v_i2l (pc := 15) hX d_Mo_year_15 ?_
  refine v_lconst (pc := 16) (v := 0) hX (by decide) d_Mo_year_16 ?_
  refine v_ldc2_w (pc := 17) hX kl_Mo_202 d_Mo_year_17 ?_
  refine f_callS (pc := 20) hX k_Mo_in ks_Mo_in ml_Mo_104 (C_Mo_in) rfl rfl rfl (Nat.le_of_ble_eq_true rfl) (Nat.le_of_ble_eq_true rfl) (Nat.le_of_ble_eq_true rfl) d_Mo_year_20 ?_
  rw [rL_rg (L := 0) (H := 3) rfl rfl]
  refine f_ifneB (pc := 23) (tgt := 56) hX d_Mo_year_23 rfl (fun h23 => ?_) (fun h23 => ?_)
  · have td : tdB y = true := by unfold tdB; rw [h23]; rfl
    refine v_iconst (pc := 56) (v := 1) hX (by decide) d_Mo_year_56 ?_
    refine v_goto (pc := 57) (tgt := 61) hX d_Mo_year_57 rfl ?_
    refine v_istore (pc := 61) (lo' := [some (vR _), some (vI _), some (vI _), some (vI _), some (vI _), some (vI _), some (vI _), none, none, none]) hX (Nat.le_of_ble_eq_true rfl) rfl d_Mo_year_61 ?_
    refine v_iload_n (pc := 63) hX rfl d_Mo_year_63 ?_
    refine v_i2l (pc := 64) hX d_Mo_year_64 ?_
    refine v_lconst (pc := 65) (v := 0) hX (by decide) d_Mo_year_65 ?_
    refine v_ldc2_w (pc := 66) hX kl_Mo_152 d_Mo_year_66 ?_
    refine f_callS (pc := 69) hX k_Mo_in ks_Mo_in ml_Mo_104 (C_Mo_in) rfl rfl rfl (Nat.le_of_ble_eq_true rfl) (Nat.le_of_ble_eq_true rfl) (Nat.le_of_ble_eq_true rfl) d_Mo_year_69 ?_
    rw [rL_rg (L := 0) (H := 2) rfl rfl]
    refine f_ifeqB (pc := 72) (tgt := 93) hX d_Mo_year_72 rfl (fun h72 => False.elim (by rw [hu] at h72; cases h72)) (fun h72 => ?_)
    refine v_iload (pc := 75) hX rfl d_Mo_year_75 ?_
    refine v_i2l (pc := 77) hX d_Mo_year_77 ?_
    refine v_lconst (pc := 78) (v := 0) hX (by decide) d_Mo_year_78 ?_
    refine v_ldc2_w (pc := 79) hX kl_Mo_208 d_Mo_year_79 ?_
    refine f_callS (pc := 82) hX k_Mo_in ks_Mo_in ml_Mo_104 (C_Mo_in) rfl rfl rfl (Nat.le_of_ble_eq_true rfl) (Nat.le_of_ble_eq_true rfl) (Nat.le_of_ble_eq_true rfl) d_Mo_year_82 ?_
    rw [rL_rg (L := 0) (H := 20) rfl rfl]
    refine f_ifeqB (pc := 85) (tgt := 93) hX d_Mo_year_85 rfl (fun h85 => False.elim (by rw [show rg (i3 m) 0 20 = true from rg_i3 (n := 21) hm (by decide)] at h85; cases h85)) (fun h85 => ?_)
    refine v_iload (pc := 88) hX rfl d_Mo_year_88 ?_
    refine v_if_ne (pc := 90) (tgt := 100) hX d_Mo_year_90 rfl (fun h90 => ?_) (fun h90 => False.elim (by revert h90; decide))
    refine v_aload_n (pc := 100) hX rfl d_Mo_year_100 ?_
    refine g_getI (pc := 101) hX fl_Mo_101 rfl rfl d_Mo_year_101 ?_
    rw [hM]
    refine v_if_ne (pc := 104) (tgt := 114) hX d_Mo_year_104 rfl (fun h104 => ?_) (fun h104 => False.elim (i3_ne0 h0 (by omega) h104))
    refine v_aload_n (pc := 114) hX rfl d_Mo_year_114 ?_
    refine v_iload_n (pc := 115) hX rfl d_Mo_year_115 ?_
    refine v_iload_n (pc := 116) hX rfl d_Mo_year_116 ?_
    refine v_iload_n (pc := 117) hX rfl d_Mo_year_117 ?_
    refine v_ldc2_w (pc := 118) hX kl_Mo_152 d_Mo_year_118 ?_
    refine v_iload (pc := 121) hX rfl d_Mo_year_121 ?_
    refine v_i2l (pc := 123) hX d_Mo_year_123 ?_
    refine v_lmul (pc := 124) hX d_Mo_year_124 ?_
    refine f_callV (pc := 125) hX k_Mo_cellsBarred ki_Mo_cellsBarred kv_Mo_cellsBarred ml_Mo_154 (C_Mo_cb_ok (m := 2 * m) hZ hk (by rw [two_l (by omega)]; omega) hz ham) rfl rfl rfl rfl rfl (Nat.le_of_ble_eq_true rfl) (Nat.le_of_ble_eq_true rfl) (Nat.le_of_ble_eq_true rfl) d_Mo_year_125 ?_
    refine v_istore (pc := 128) (lo' := [some (vR _), some (vI _), some (vI _), some (vI _), some (vI _), some (vI _), some (vI _), some (vI _), none, none]) hX (Nat.le_of_ble_eq_true rfl) rfl d_Mo_year_128 ?_
    refine v_iload (pc := 130) hX rfl d_Mo_year_130 ?_
    refine v_if_ge (pc := 132) (tgt := 138) hX d_Mo_year_132 rfl (fun h132 => ?_) (fun h132 => False.elim (h132 (Int32.le_refl _)))
    refine v_aload_n (pc := 138) hX rfl d_Mo_year_138 ?_
    refine v_bipush (pc := 139) (v := 60) hX (by decide) d_Mo_year_139 ?_
    refine v_iload_n (pc := 141) hX rfl d_Mo_year_141 ?_
    refine v_imul (pc := 142) hX d_Mo_year_142 ?_
    refine v_iload_n (pc := 143) hX rfl d_Mo_year_143 ?_
    refine v_iadd (pc := 144) hX d_Mo_year_144 ?_
    rw [i3_60]
    refine v_iload (pc := 145) hX rfl d_Mo_year_145 ?_
    refine f_callV (pc := 147) hX k_Mo_arePairs ki_Mo_arePairs kv_Mo_arePairs ml_Mo_212 (C_Mo_arePairs hJ hB (by omega) hq) rfl rfl rfl rfl rfl (Nat.le_of_ble_eq_true rfl) (Nat.le_of_ble_eq_true rfl) (Nat.le_of_ble_eq_true rfl) d_Mo_year_147 ?_
    refine f_ifneB (pc := 150) (tgt := 159) hX d_Mo_year_150 rfl (fun h150 => False.elim (by rw [show allB (fun p => rg ((fun t => C k (a + t)) (2 * p)) 0 ((nd : Int) - 1) && rg ((fun t => C k (a + t)) (2 * p + 1)) 0 ((n : Int) - 1)) m = false from hat] at h150; cases h150)) (fun h150 => ?_)
    refine v_aload_n (pc := 153) hX rfl d_Mo_year_153 ?_
    refine v_iconst (pc := 154) (v := (-1)) hX (by decide) d_Mo_year_154 ?_
    refine f_callV (pc := 155) hX k_Mo_refused ki_Mo_refused kv_Mo_refused ml_Mo_149 (C_Mo_refused) rfl rfl rfl rfl rfl (Nat.le_of_ble_eq_true rfl) (Nat.le_of_ble_eq_true rfl) (Nat.le_of_ble_eq_true rfl) d_Mo_year_155 ?_
    exact f_iret (pc := 158) hX hR (rfl) (rfl) d_Mo_year_158
  · refine v_iload (pc := 26) hX rfl d_Mo_year_26 ?_
    refine v_i2l (pc := 28) hX d_Mo_year_28 ?_
    refine v_ldc2_w (pc := 29) hX kl_Mo_204 d_Mo_year_29 ?_
    refine v_ldc2_w (pc := 32) hX kl_Mo_206 d_Mo_year_32 ?_
    refine f_callS (pc := 35) hX k_Mo_in ks_Mo_in ml_Mo_104 (C_Mo_in) rfl rfl rfl (Nat.le_of_ble_eq_true rfl) (Nat.le_of_ble_eq_true rfl) (Nat.le_of_ble_eq_true rfl) d_Mo_year_35 ?_
    rw [rL_rg (L := 10) (H := 15) rfl rfl]
    refine f_ifneB (pc := 38) (tgt := 56) hX d_Mo_year_38 rfl (fun h38 => ?_) (fun h38 => ?_)
    · have td : tdB y = true := by unfold tdB; rw [h23, h38]; rfl
      refine v_iconst (pc := 56) (v := 1) hX (by decide) d_Mo_year_56 ?_
      refine v_goto (pc := 57) (tgt := 61) hX d_Mo_year_57 rfl ?_
      refine v_istore (pc := 61) (lo' := [some (vR _), some (vI _), some (vI _), some (vI _), some (vI _), some (vI _), some (vI _), none, none, none]) hX (Nat.le_of_ble_eq_true rfl) rfl d_Mo_year_61 ?_
      refine v_iload_n (pc := 63) hX rfl d_Mo_year_63 ?_
      refine v_i2l (pc := 64) hX d_Mo_year_64 ?_
      refine v_lconst (pc := 65) (v := 0) hX (by decide) d_Mo_year_65 ?_
      refine v_ldc2_w (pc := 66) hX kl_Mo_152 d_Mo_year_66 ?_
      refine f_callS (pc := 69) hX k_Mo_in ks_Mo_in ml_Mo_104 (C_Mo_in) rfl rfl rfl (Nat.le_of_ble_eq_true rfl) (Nat.le_of_ble_eq_true rfl) (Nat.le_of_ble_eq_true rfl) d_Mo_year_69 ?_
      rw [rL_rg (L := 0) (H := 2) rfl rfl]
      refine f_ifeqB (pc := 72) (tgt := 93) hX d_Mo_year_72 rfl (fun h72 => False.elim (by rw [hu] at h72; cases h72)) (fun h72 => ?_)
      refine v_iload (pc := 75) hX rfl d_Mo_year_75 ?_
      refine v_i2l (pc := 77) hX d_Mo_year_77 ?_
      refine v_lconst (pc := 78) (v := 0) hX (by decide) d_Mo_year_78 ?_
      refine v_ldc2_w (pc := 79) hX kl_Mo_208 d_Mo_year_79 ?_
      refine f_callS (pc := 82) hX k_Mo_in ks_Mo_in ml_Mo_104 (C_Mo_in) rfl rfl rfl (Nat.le_of_ble_eq_true rfl) (Nat.le_of_ble_eq_true rfl) (Nat.le_of_ble_eq_true rfl) d_Mo_year_82 ?_
      rw [rL_rg (L := 0) (H := 20) rfl rfl]
      refine f_ifeqB (pc := 85) (tgt := 93) hX d_Mo_year_85 rfl (fun h85 => False.elim (by rw [show rg (i3 m) 0 20 = true from rg_i3 (n := 21) hm (by decide)] at h85; cases h85)) (fun h85 => ?_)
      refine v_iload (pc := 88) hX rfl d_Mo_year_88 ?_
      refine v_if_ne (pc := 90) (tgt := 100) hX d_Mo_year_90 rfl (fun h90 => ?_) (fun h90 => False.elim (by revert h90; decide))
      refine v_aload_n (pc := 100) hX rfl d_Mo_year_100 ?_
      refine g_getI (pc := 101) hX fl_Mo_101 rfl rfl d_Mo_year_101 ?_
      rw [hM]
      refine v_if_ne (pc := 104) (tgt := 114) hX d_Mo_year_104 rfl (fun h104 => ?_) (fun h104 => False.elim (i3_ne0 h0 (by omega) h104))
      refine v_aload_n (pc := 114) hX rfl d_Mo_year_114 ?_
      refine v_iload_n (pc := 115) hX rfl d_Mo_year_115 ?_
      refine v_iload_n (pc := 116) hX rfl d_Mo_year_116 ?_
      refine v_iload_n (pc := 117) hX rfl d_Mo_year_117 ?_
      refine v_ldc2_w (pc := 118) hX kl_Mo_152 d_Mo_year_118 ?_
      refine v_iload (pc := 121) hX rfl d_Mo_year_121 ?_
      refine v_i2l (pc := 123) hX d_Mo_year_123 ?_
      refine v_lmul (pc := 124) hX d_Mo_year_124 ?_
      refine f_callV (pc := 125) hX k_Mo_cellsBarred ki_Mo_cellsBarred kv_Mo_cellsBarred ml_Mo_154 (C_Mo_cb_ok (m := 2 * m) hZ hk (by rw [two_l (by omega)]; omega) hz ham) rfl rfl rfl rfl rfl (Nat.le_of_ble_eq_true rfl) (Nat.le_of_ble_eq_true rfl) (Nat.le_of_ble_eq_true rfl) d_Mo_year_125 ?_
      refine v_istore (pc := 128) (lo' := [some (vR _), some (vI _), some (vI _), some (vI _), some (vI _), some (vI _), some (vI _), some (vI _), none, none]) hX (Nat.le_of_ble_eq_true rfl) rfl d_Mo_year_128 ?_
      refine v_iload (pc := 130) hX rfl d_Mo_year_130 ?_
      refine v_if_ge (pc := 132) (tgt := 138) hX d_Mo_year_132 rfl (fun h132 => ?_) (fun h132 => False.elim (h132 (Int32.le_refl _)))
      refine v_aload_n (pc := 138) hX rfl d_Mo_year_138 ?_
      refine v_bipush (pc := 139) (v := 60) hX (by decide) d_Mo_year_139 ?_
      refine v_iload_n (pc := 141) hX rfl d_Mo_year_141 ?_
      refine v_imul (pc := 142) hX d_Mo_year_142 ?_
      refine v_iload_n (pc := 143) hX rfl d_Mo_year_143 ?_
      refine v_iadd (pc := 144) hX d_Mo_year_144 ?_
      rw [i3_60]
      refine v_iload (pc := 145) hX rfl d_Mo_year_145 ?_
      refine f_callV (pc := 147) hX k_Mo_arePairs ki_Mo_arePairs kv_Mo_arePairs ml_Mo_212 (C_Mo_arePairs hJ hB (by omega) hq) rfl rfl rfl rfl rfl (Nat.le_of_ble_eq_true rfl) (Nat.le_of_ble_eq_true rfl) (Nat.le_of_ble_eq_true rfl) d_Mo_year_147 ?_
      refine f_ifneB (pc := 150) (tgt := 159) hX d_Mo_year_150 rfl (fun h150 => False.elim (by rw [show allB (fun p => rg ((fun t => C k (a + t)) (2 * p)) 0 ((nd : Int) - 1) && rg ((fun t => C k (a + t)) (2 * p + 1)) 0 ((n : Int) - 1)) m = false from hat] at h150; cases h150)) (fun h150 => ?_)
      refine v_aload_n (pc := 153) hX rfl d_Mo_year_153 ?_
      refine v_iconst (pc := 154) (v := (-1)) hX (by decide) d_Mo_year_154 ?_
      refine f_callV (pc := 155) hX k_Mo_refused ki_Mo_refused kv_Mo_refused ml_Mo_149 (C_Mo_refused) rfl rfl rfl rfl rfl (Nat.le_of_ble_eq_true rfl) (Nat.le_of_ble_eq_true rfl) (Nat.le_of_ble_eq_true rfl) d_Mo_year_155 ?_
      exact f_iret (pc := 158) hX hR (rfl) (rfl) d_Mo_year_158
    · refine v_iload (pc := 41) hX rfl d_Mo_year_41 ?_
      refine v_i2l (pc := 43) hX d_Mo_year_43 ?_
      refine v_ldc2_w (pc := 44) hX kl_Mo_208 d_Mo_year_44 ?_
      refine v_ldc2_w (pc := 47) hX kl_Mo_210 d_Mo_year_47 ?_
      refine f_callS (pc := 50) hX k_Mo_in ks_Mo_in ml_Mo_104 (C_Mo_in) rfl rfl rfl (Nat.le_of_ble_eq_true rfl) (Nat.le_of_ble_eq_true rfl) (Nat.le_of_ble_eq_true rfl) d_Mo_year_50 ?_
      rw [rL_rg (L := 20) (H := 23) rfl rfl]
      refine f_ifeqB (pc := 53) (tgt := 60) hX d_Mo_year_53 rfl (fun h53 => False.elim (by have td : tdB y = false := (by unfold tdB; rw [h23, h38, h53]; rfl); rw [td] at hy; cases hy)) (fun h53 => ?_)
      refine v_iconst (pc := 56) (v := 1) hX (by decide) d_Mo_year_56 ?_
      refine v_goto (pc := 57) (tgt := 61) hX d_Mo_year_57 rfl ?_
      refine v_istore (pc := 61) (lo' := [some (vR _), some (vI _), some (vI _), some (vI _), some (vI _), some (vI _), some (vI _), none, none, none]) hX (Nat.le_of_ble_eq_true rfl) rfl d_Mo_year_61 ?_
      refine v_iload_n (pc := 63) hX rfl d_Mo_year_63 ?_
      refine v_i2l (pc := 64) hX d_Mo_year_64 ?_
      refine v_lconst (pc := 65) (v := 0) hX (by decide) d_Mo_year_65 ?_
      refine v_ldc2_w (pc := 66) hX kl_Mo_152 d_Mo_year_66 ?_
      refine f_callS (pc := 69) hX k_Mo_in ks_Mo_in ml_Mo_104 (C_Mo_in) rfl rfl rfl (Nat.le_of_ble_eq_true rfl) (Nat.le_of_ble_eq_true rfl) (Nat.le_of_ble_eq_true rfl) d_Mo_year_69 ?_
      rw [rL_rg (L := 0) (H := 2) rfl rfl]
      refine f_ifeqB (pc := 72) (tgt := 93) hX d_Mo_year_72 rfl (fun h72 => False.elim (by rw [hu] at h72; cases h72)) (fun h72 => ?_)
      refine v_iload (pc := 75) hX rfl d_Mo_year_75 ?_
      refine v_i2l (pc := 77) hX d_Mo_year_77 ?_
      refine v_lconst (pc := 78) (v := 0) hX (by decide) d_Mo_year_78 ?_
      refine v_ldc2_w (pc := 79) hX kl_Mo_208 d_Mo_year_79 ?_
      refine f_callS (pc := 82) hX k_Mo_in ks_Mo_in ml_Mo_104 (C_Mo_in) rfl rfl rfl (Nat.le_of_ble_eq_true rfl) (Nat.le_of_ble_eq_true rfl) (Nat.le_of_ble_eq_true rfl) d_Mo_year_82 ?_
      rw [rL_rg (L := 0) (H := 20) rfl rfl]
      refine f_ifeqB (pc := 85) (tgt := 93) hX d_Mo_year_85 rfl (fun h85 => False.elim (by rw [show rg (i3 m) 0 20 = true from rg_i3 (n := 21) hm (by decide)] at h85; cases h85)) (fun h85 => ?_)
      refine v_iload (pc := 88) hX rfl d_Mo_year_88 ?_
      refine v_if_ne (pc := 90) (tgt := 100) hX d_Mo_year_90 rfl (fun h90 => ?_) (fun h90 => False.elim (by revert h90; decide))
      refine v_aload_n (pc := 100) hX rfl d_Mo_year_100 ?_
      refine g_getI (pc := 101) hX fl_Mo_101 rfl rfl d_Mo_year_101 ?_
      rw [hM]
      refine v_if_ne (pc := 104) (tgt := 114) hX d_Mo_year_104 rfl (fun h104 => ?_) (fun h104 => False.elim (i3_ne0 h0 (by omega) h104))
      refine v_aload_n (pc := 114) hX rfl d_Mo_year_114 ?_
      refine v_iload_n (pc := 115) hX rfl d_Mo_year_115 ?_
      refine v_iload_n (pc := 116) hX rfl d_Mo_year_116 ?_
      refine v_iload_n (pc := 117) hX rfl d_Mo_year_117 ?_
      refine v_ldc2_w (pc := 118) hX kl_Mo_152 d_Mo_year_118 ?_
      refine v_iload (pc := 121) hX rfl d_Mo_year_121 ?_
      refine v_i2l (pc := 123) hX d_Mo_year_123 ?_
      refine v_lmul (pc := 124) hX d_Mo_year_124 ?_
      refine f_callV (pc := 125) hX k_Mo_cellsBarred ki_Mo_cellsBarred kv_Mo_cellsBarred ml_Mo_154 (C_Mo_cb_ok (m := 2 * m) hZ hk (by rw [two_l (by omega)]; omega) hz ham) rfl rfl rfl rfl rfl (Nat.le_of_ble_eq_true rfl) (Nat.le_of_ble_eq_true rfl) (Nat.le_of_ble_eq_true rfl) d_Mo_year_125 ?_
      refine v_istore (pc := 128) (lo' := [some (vR _), some (vI _), some (vI _), some (vI _), some (vI _), some (vI _), some (vI _), some (vI _), none, none]) hX (Nat.le_of_ble_eq_true rfl) rfl d_Mo_year_128 ?_
      refine v_iload (pc := 130) hX rfl d_Mo_year_130 ?_
      refine v_if_ge (pc := 132) (tgt := 138) hX d_Mo_year_132 rfl (fun h132 => ?_) (fun h132 => False.elim (h132 (Int32.le_refl _)))
      refine v_aload_n (pc := 138) hX rfl d_Mo_year_138 ?_
      refine v_bipush (pc := 139) (v := 60) hX (by decide) d_Mo_year_139 ?_
      refine v_iload_n (pc := 141) hX rfl d_Mo_year_141 ?_
      refine v_imul (pc := 142) hX d_Mo_year_142 ?_
      refine v_iload_n (pc := 143) hX rfl d_Mo_year_143 ?_
      refine v_iadd (pc := 144) hX d_Mo_year_144 ?_
      rw [i3_60]
      refine v_iload (pc := 145) hX rfl d_Mo_year_145 ?_
      refine f_callV (pc := 147) hX k_Mo_arePairs ki_Mo_arePairs kv_Mo_arePairs ml_Mo_212 (C_Mo_arePairs hJ hB (by omega) hq) rfl rfl rfl rfl rfl (Nat.le_of_ble_eq_true rfl) (Nat.le_of_ble_eq_true rfl) (Nat.le_of_ble_eq_true rfl) d_Mo_year_147 ?_
      refine f_ifneB (pc := 150) (tgt := 159) hX d_Mo_year_150 rfl (fun h150 => False.elim (by rw [show allB (fun p => rg ((fun t => C k (a + t)) (2 * p)) 0 ((nd : Int) - 1) && rg ((fun t => C k (a + t)) (2 * p + 1)) 0 ((n : Int) - 1)) m = false from hat] at h150; cases h150)) (fun h150 => ?_)
      refine v_aload_n (pc := 153) hX rfl d_Mo_year_153 ?_
      refine v_iconst (pc := 154) (v := (-1)) hX (by decide) d_Mo_year_154 ?_
      refine f_callV (pc := 155) hX k_Mo_refused ki_Mo_refused kv_Mo_refused ml_Mo_149 (C_Mo_refused) rfl rfl rfl rfl rfl (Nat.le_of_ble_eq_true rfl) (Nat.le_of_ble_eq_true rfl) (Nat.le_of_ble_eq_true rfl) d_Mo_year_155 ?_
      exact f_iret (pc := 158) hX hR (rfl) (rfl) d_Mo_year_158
set_option maxHeartbeats 8000000 in
theorem C_Mo_year_ok {M : MM} {k m n nd a : Nat} {J B : JT} {y : Int32} (hJ : MJ M n J) (hB : MB M nd B) (hk : k < 4) (hm : m < 21) (hy : tdB y = true) {zs : Nat → Nat} {ln : Nat → Int32} {C : JT} (hZ : MZ M zs ln C) (hu : rg (ln k) 0 2 = true) (h0 : ¬ n = 0) (hz : zs k ≠ 0) (ham : a + 2 * m ≤ zs k - 1) (hat : allB (fun p => rg (C k (a + 2 * p)) 0 ((nd : Int) - 1) && rg (C k (a + (2 * p + 1))) 0 ((n : Int) - 1)) m = true) {pb pj : Nat → Nat} (hpb : ∀ p, p < m → pb p < nd ∧ C k (a + 2 * p) = i3 (pb p)) (hpj : ∀ p, p < m → pj p < n ∧ C k (a + (2 * p + 1)) = i3 (pj p)) : AF y_Mo_year c_Mo_year 10 (some .int) 7 [vR 36, vI (i3 k), vI (ln k), vI (i3 a), vI (i3 m), vI y] (M) (some (vI (yaN n nd (yr J B pb pj m) y))) (upM (cpF (cpF M 54 (fun i => J i 3) n) 55 (fun i => B i 2) nd) 36 0 0) := by
  have h6 := hJ.1
  have hM := hJ.2.1
  have h4 := hB.1
  have hM7 := hB.2.1
  obtain ⟨z1, z2, z3⟩ := hZ k hk
  have hq : ∀ t, t < 2 * m → M 62 (60 * k + a + t) = (fun t => C k (a + t)) t := fun t ht => by rw [show 60 * k + a + t = 60 * k + (a + t) by omega]; exact (z3 hz).2 _ (by omega)
  have hJ1 : MJ (cpF (cpF M 54 (fun i => J i 3) n) 55 (fun i => B i 2) nd) n J := hJ.eq (by rw [cpF_ne (by decide), cpF_ne (by decide)]) (fun a h1 h2 i => by rw [cpF_ne (by omega), cpF_ne (by omega)])
  have hB1 : MB (cpF (cpF M 54 (fun i => J i 3) n) 55 (fun i => B i 2) nd) nd B := hB.eq (by rw [cpF_ne (by decide), cpF_ne (by decide)]) (fun a h1 h2 i => by rw [cpF_ne (by omega), cpF_ne (by omega)])
  have hq1 : ∀ t, t < 2 * m → (cpF (cpF M 54 (fun i => J i 3) n) 55 (fun i => B i 2) nd) 62 (60 * k + a + t) = (fun t => C k (a + t)) t := fun t ht => by rw [cpF_ne (by decide), cpF_ne (by decide)]; exact hq t ht
  refine AF.of k_Mo_year (lo := [some (vR 36), some (vI (i3 k)), some (vI (ln k)), some (vI (i3 a)), some (vI (i3 m)), some (vI y), none, none, none, none]) rfl (Nat.le_of_ble_eq_true rfl) (fun X hX hR => ?_)
  refine v_iload_n (pc := 0) hX rfl d_Mo_year_0 ?_
  refine f_callS (pc := 1) hX k_Mo_noSheet ks_Mo_noSheet ml_Mo_145 (C_Mo_noSheet) rfl rfl rfl (Nat.le_of_ble_eq_true rfl) (Nat.le_of_ble_eq_true rfl) (Nat.le_of_ble_eq_true rfl) d_Mo_year_1 ?_
  rw [show rg (i3 k) 0 3 = true from rg_i3 (n := 4) hk (by decide)]
  refine f_ifeqB (pc := 4) (tgt := 13) hX d_Mo_year_4 rfl (fun h4 => ?_) (fun h4 => False.elim (absurd h4 (by decide)))
  refine v_iload (pc := 13) hX rfl d_Mo_year_13 ?_
  refine v_i2l (pc := 15) hX d_Mo_year_15 ?_
  refine v_lconst (pc := 16) (v := 0) hX (by decide) d_Mo_year_16 ?_
  refine v_ldc2_w (pc := 17) hX kl_Mo_202 d_Mo_year_17 ?_
  refine f_callS (pc := 20) hX k_Mo_in ks_Mo_in ml_Mo_104 (C_Mo_in) rfl rfl rfl (Nat.le_of_ble_eq_true rfl) (Nat.le_of_ble_eq_true rfl) (Nat.le_of_ble_eq_true rfl) d_Mo_year_20 ?_
  rw [rL_rg (L := 0) (H := 3) rfl rfl]
  refine f_ifneB (pc := 23) (tgt := 56) hX d_Mo_year_23 rfl (fun h23 => ?_) (fun h23 => ?_)
  · have td : tdB y = true := by unfold tdB; rw [h23]; rfl
    refine v_iconst (pc := 56) (v := 1) hX (by decide) d_Mo_year_56 ?_
    refine v_goto (pc := 57) (tgt := 61) hX d_Mo_year_57 rfl ?_
    refine v_istore (pc := 61) (lo' := [some (vR _), some (vI _), some (vI _), some (vI _), some (vI _), some (vI _), some (vI _), none, none, none]) hX (Nat.le_of_ble_eq_true rfl) rfl d_Mo_year_61 ?_
    refine v_iload_n (pc := 63) hX rfl d_Mo_year_63 ?_
    refine v_i2l (pc := 64) hX d_Mo_year_64 ?_
    refine v_lconst (pc := 65) (v := 0) hX (by decide) d_Mo_year_65 ?_
    refine v_ldc2_w (pc := 66) hX kl_Mo_152 d_Mo_year_66 ?_
    refine f_callS (pc := 69) hX k_Mo_in ks_Mo_in ml_Mo_104 (C_Mo_in) rfl rfl rfl (Nat.le_of_ble_eq_true rfl) (Nat.le_of_ble_eq_true rfl) (Nat.le_of_ble_eq_true rfl) d_Mo_year_69 ?_
    rw [rL_rg (L := 0) (H := 2) rfl rfl]
    refine f_ifeqB (pc := 72) (tgt := 93) hX d_Mo_year_72 rfl (fun h72 => False.elim (by rw [hu] at h72; cases h72)) (fun h72 => ?_)
    refine v_iload (pc := 75) hX rfl d_Mo_year_75 ?_
    refine v_i2l (pc := 77) hX d_Mo_year_77 ?_
    refine v_lconst (pc := 78) (v := 0) hX (by decide) d_Mo_year_78 ?_
    refine v_ldc2_w (pc := 79) hX kl_Mo_208 d_Mo_year_79 ?_
    refine f_callS (pc := 82) hX k_Mo_in ks_Mo_in ml_Mo_104 (C_Mo_in) rfl rfl rfl (Nat.le_of_ble_eq_true rfl) (Nat.le_of_ble_eq_true rfl) (Nat.le_of_ble_eq_true rfl) d_Mo_year_82 ?_
    rw [rL_rg (L := 0) (H := 20) rfl rfl]
    refine f_ifeqB (pc := 85) (tgt := 93) hX d_Mo_year_85 rfl (fun h85 => False.elim (by rw [show rg (i3 m) 0 20 = true from rg_i3 (n := 21) hm (by decide)] at h85; cases h85)) (fun h85 => ?_)
    refine v_iload (pc := 88) hX rfl d_Mo_year_88 ?_
    refine v_if_ne (pc := 90) (tgt := 100) hX d_Mo_year_90 rfl (fun h90 => ?_) (fun h90 => False.elim (by revert h90; decide))
    refine v_aload_n (pc := 100) hX rfl d_Mo_year_100 ?_
    refine g_getI (pc := 101) hX fl_Mo_101 rfl rfl d_Mo_year_101 ?_
    rw [hM]
    refine v_if_ne (pc := 104) (tgt := 114) hX d_Mo_year_104 rfl (fun h104 => ?_) (fun h104 => False.elim (i3_ne0 h0 (by omega) h104))
    refine v_aload_n (pc := 114) hX rfl d_Mo_year_114 ?_
    refine v_iload_n (pc := 115) hX rfl d_Mo_year_115 ?_
    refine v_iload_n (pc := 116) hX rfl d_Mo_year_116 ?_
    refine v_iload_n (pc := 117) hX rfl d_Mo_year_117 ?_
    refine v_ldc2_w (pc := 118) hX kl_Mo_152 d_Mo_year_118 ?_
    refine v_iload (pc := 121) hX rfl d_Mo_year_121 ?_
    refine v_i2l (pc := 123) hX d_Mo_year_123 ?_
    refine v_lmul (pc := 124) hX d_Mo_year_124 ?_
    refine f_callV (pc := 125) hX k_Mo_cellsBarred ki_Mo_cellsBarred kv_Mo_cellsBarred ml_Mo_154 (C_Mo_cb_ok (m := 2 * m) hZ hk (by rw [two_l (by omega)]; omega) hz ham) rfl rfl rfl rfl rfl (Nat.le_of_ble_eq_true rfl) (Nat.le_of_ble_eq_true rfl) (Nat.le_of_ble_eq_true rfl) d_Mo_year_125 ?_
    refine v_istore (pc := 128) (lo' := [some (vR _), some (vI _), some (vI _), some (vI _), some (vI _), some (vI _), some (vI _), some (vI _), none, none]) hX (Nat.le_of_ble_eq_true rfl) rfl d_Mo_year_128 ?_
    refine v_iload (pc := 130) hX rfl d_Mo_year_130 ?_
    refine v_if_ge (pc := 132) (tgt := 138) hX d_Mo_year_132 rfl (fun h132 => ?_) (fun h132 => False.elim (h132 (Int32.le_refl _)))
    refine v_aload_n (pc := 138) hX rfl d_Mo_year_138 ?_
    refine v_bipush (pc := 139) (v := 60) hX (by decide) d_Mo_year_139 ?_
    refine v_iload_n (pc := 141) hX rfl d_Mo_year_141 ?_
    refine v_imul (pc := 142) hX d_Mo_year_142 ?_
    refine v_iload_n (pc := 143) hX rfl d_Mo_year_143 ?_
    refine v_iadd (pc := 144) hX d_Mo_year_144 ?_
    rw [i3_60]
    refine v_iload (pc := 145) hX rfl d_Mo_year_145 ?_
    refine f_callV (pc := 147) hX k_Mo_arePairs ki_Mo_arePairs kv_Mo_arePairs ml_Mo_212 (C_Mo_arePairs hJ hB (by omega) hq) rfl rfl rfl rfl rfl (Nat.le_of_ble_eq_true rfl) (Nat.le_of_ble_eq_true rfl) (Nat.le_of_ble_eq_true rfl) d_Mo_year_147 ?_
    refine f_ifneB (pc := 150) (tgt := 159) hX d_Mo_year_150 rfl (fun h150 => ?_) (fun h150 => False.elim (by rw [show allB (fun p => rg ((fun t => C k (a + t)) (2 * p)) 0 ((nd : Int) - 1) && rg ((fun t => C k (a + t)) (2 * p + 1)) 0 ((n : Int) - 1)) m = true from hat] at h150; cases h150))
    refine v_iconst (pc := 159) (v := 0) hX (by decide) d_Mo_year_159 ?_
    refine v_istore (pc := 160) (lo' := [some (vR _), some (vI _), some (vI _), some (vI _), some (vI _), some (vI _), some (vI _), some (vI _), some (vI _), none]) hX (Nat.le_of_ble_eq_true rfl) rfl d_Mo_year_160 ?_
    refine VW.fg [true, true, true, true, true, true, false, false, true, true] ?_
    refine VW.cast (lo' := [some (vR 36), some (vI (i3 k)), some (vI (ln k)), some (vI (i3 a)), some (vI (i3 m)), some (vI y), none, none, some (vI (i3 0)), none]) (st' := []) (G' := gM (cpF M 54 (fun i => J i 3) 0)) rfl rfl (by rw [cpF_0]) ?_
    refine v_for (X := X) (head := 162) (n) (fun kk => [some (vR 36), some (vI (i3 k)), some (vI (ln k)), some (vI (i3 a)), some (vI (i3 m)), some (vI y), none, none, some (vI (i3 kk)), none]) (fun kk => cpF M 54 (fun i => J i 3) kk) (fun x hx ih162 => ?_) ?_
    · show VW X 162 [some (vR 36), some (vI (i3 k)), some (vI (ln k)), some (vI (i3 a)), some (vI (i3 m)), some (vI y), none, none, some (vI (i3 x)), none] [] (gM (cpF M 54 (fun i => J i 3) x))
      refine v_iload (pc := 162) hX rfl d_Mo_year_162 ?_
      refine v_aload_n (pc := 164) hX rfl d_Mo_year_164 ?_
      refine g_getI (pc := 165) hX fl_Mo_101 rfl rfl d_Mo_year_165 ?_
      rw [cpF_ne (by decide), hM]
      refine v_icmp_ge (pc := 168) (tgt := 191) hX d_Mo_year_168 rfl (fun h168 => False.elim (i3_ge_abs hx (by omega) h168)) (fun h168 => ?_)
      refine v_aload_n (pc := 171) hX rfl d_Mo_year_171 ?_
      refine g_getR (pc := 172) hX fl_Mo_61 rfl rfl nf_36_23 d_Mo_year_172 ?_
      refine v_iload (pc := 175) hX rfl d_Mo_year_175 ?_
      refine v_aload_n (pc := 177) hX rfl d_Mo_year_177 ?_
      refine g_getR (pc := 178) hX fl_Mo_19 rfl rfl nf_36_5 d_Mo_year_178 ?_
      refine v_iload (pc := 181) hX rfl d_Mo_year_181 ?_
      refine g_iald (pc := 183) hX rfl (IX.of (n := 6) (by omega) (by decide)) d_Mo_year_183 ?_
      rw [cpF_ne (by decide), show M 40 x = J x 3 from hJ.2.2.1 x hx 3 (by decide)]
      refine g_iast (pc := 184) hX rfl (IX.of (n := 6) (by omega) (by decide)) d_Mo_year_184 ?_
      refine v_iinc (pc := 185) (lo' := [some (vR _), some (vI _), some (vI _), some (vI _), some (vI _), some (vI _), none, none, some (vI _), none]) hX rfl rfl d_Mo_year_185 ?_
      refine v_goto (pc := 188) (tgt := 162) hX d_Mo_year_188 rfl ?_
      exact VW.cast (by rw [i3_succ]; rfl) rfl (by rw [cpF_s]) ih162
    · show VW X 162 [some (vR 36), some (vI (i3 k)), some (vI (ln k)), some (vI (i3 a)), some (vI (i3 m)), some (vI y), none, none, some (vI (i3 (n))), none] [] (gM (cpF M 54 (fun i => J i 3) (n)))
      refine v_iload (pc := 162) hX rfl d_Mo_year_162 ?_
      refine v_aload_n (pc := 164) hX rfl d_Mo_year_164 ?_
      refine g_getI (pc := 165) hX fl_Mo_101 rfl rfl d_Mo_year_165 ?_
      rw [cpF_ne (by decide), hM]
      refine v_icmp_ge (pc := 168) (tgt := 191) hX d_Mo_year_168 rfl (fun h168 => ?_) (fun h168 => False.elim (absurd (Int32.le_refl _) h168))
      refine v_iconst (pc := 191) (v := 0) hX (by decide) d_Mo_year_191 ?_
      refine v_istore (pc := 192) (lo' := [some (vR _), some (vI _), some (vI _), some (vI _), some (vI _), some (vI _), none, none, some (vI _), none]) hX (Nat.le_of_ble_eq_true rfl) rfl d_Mo_year_192 ?_
      refine VW.cast (lo' := [some (vR 36), some (vI (i3 k)), some (vI (ln k)), some (vI (i3 a)), some (vI (i3 m)), some (vI y), none, none, some (vI (i3 0)), none]) (st' := []) (G' := gM (cpF (cpF M 54 (fun i => J i 3) n) 55 (fun i => B i 2) 0)) rfl rfl (by rw [cpF_0]) ?_
      refine v_for (X := X) (head := 194) (nd) (fun kk => [some (vR 36), some (vI (i3 k)), some (vI (ln k)), some (vI (i3 a)), some (vI (i3 m)), some (vI y), none, none, some (vI (i3 kk)), none]) (fun kk => cpF (cpF M 54 (fun i => J i 3) n) 55 (fun i => B i 2) kk) (fun x hx ih194 => ?_) ?_
      · show VW X 194 [some (vR 36), some (vI (i3 k)), some (vI (ln k)), some (vI (i3 a)), some (vI (i3 m)), some (vI y), none, none, some (vI (i3 x)), none] [] (gM (cpF (cpF M 54 (fun i => J i 3) n) 55 (fun i => B i 2) x))
        refine v_iload (pc := 194) hX rfl d_Mo_year_194 ?_
        refine v_aload_n (pc := 196) hX rfl d_Mo_year_196 ?_
        refine g_getI (pc := 197) hX fl_Mo_108 rfl rfl d_Mo_year_197 ?_
        rw [cpF_ne (by decide), cpF_ne (by decide), hM7]
        refine v_icmp_ge (pc := 200) (tgt := 223) hX d_Mo_year_200 rfl (fun h200 => False.elim (i3_ge_abs hx (by omega) h200)) (fun h200 => ?_)
        refine v_aload_n (pc := 203) hX rfl d_Mo_year_203 ?_
        refine g_getR (pc := 204) hX fl_Mo_64 rfl rfl nf_36_24 d_Mo_year_204 ?_
        refine v_iload (pc := 207) hX rfl d_Mo_year_207 ?_
        refine v_aload_n (pc := 209) hX rfl d_Mo_year_209 ?_
        refine g_getR (pc := 210) hX fl_Mo_31 rfl rfl nf_36_10 d_Mo_year_210 ?_
        refine v_iload (pc := 213) hX rfl d_Mo_year_213 ?_
        refine g_iald (pc := 215) hX rfl (IX.of (n := 4) (by omega) (by decide)) d_Mo_year_215 ?_
        rw [cpF_ne (by decide), cpF_ne (by decide), show M 44 x = B x 2 from hB.2.2.1 x hx 2 (by decide)]
        refine g_iast (pc := 216) hX rfl (IX.of (n := 4) (by omega) (by decide)) d_Mo_year_216 ?_
        refine v_iinc (pc := 217) (lo' := [some (vR _), some (vI _), some (vI _), some (vI _), some (vI _), some (vI _), none, none, some (vI _), none]) hX rfl rfl d_Mo_year_217 ?_
        refine v_goto (pc := 220) (tgt := 194) hX d_Mo_year_220 rfl ?_
        exact VW.cast (by rw [i3_succ]; rfl) rfl (by rw [cpF_s]) ih194
      · show VW X 194 [some (vR 36), some (vI (i3 k)), some (vI (ln k)), some (vI (i3 a)), some (vI (i3 m)), some (vI y), none, none, some (vI (i3 (nd))), none] [] (gM (cpF (cpF M 54 (fun i => J i 3) n) 55 (fun i => B i 2) (nd)))
        refine v_iload (pc := 194) hX rfl d_Mo_year_194 ?_
        refine v_aload_n (pc := 196) hX rfl d_Mo_year_196 ?_
        refine g_getI (pc := 197) hX fl_Mo_108 rfl rfl d_Mo_year_197 ?_
        rw [cpF_ne (by decide), cpF_ne (by decide), hM7]
        refine v_icmp_ge (pc := 200) (tgt := 223) hX d_Mo_year_200 rfl (fun h200 => ?_) (fun h200 => False.elim (absurd (Int32.le_refl _) h200))
        refine v_aload_n (pc := 223) hX rfl d_Mo_year_223 ?_
        refine v_bipush (pc := 224) (v := 60) hX (by decide) d_Mo_year_224 ?_
        refine v_iload_n (pc := 226) hX rfl d_Mo_year_226 ?_
        refine v_imul (pc := 227) hX d_Mo_year_227 ?_
        refine v_iload_n (pc := 228) hX rfl d_Mo_year_228 ?_
        refine v_iadd (pc := 229) hX d_Mo_year_229 ?_
        rw [i3_60]
        refine v_iload (pc := 230) hX rfl d_Mo_year_230 ?_
        refine v_iload (pc := 232) hX rfl d_Mo_year_232 ?_
        refine f_callV (pc := 234) hX k_Mo_yearBy ki_Mo_yearBy kv_Mo_yearBy ml_Mo_215 (C_Mo_yearBy hJ1 hB1 (by omega) hq1 hm hy hpb hpj) rfl rfl rfl rfl rfl (Nat.le_of_ble_eq_true rfl) (Nat.le_of_ble_eq_true rfl) (Nat.le_of_ble_eq_true rfl) d_Mo_year_234 ?_
        refine v_istore (pc := 237) (lo' := [some (vR _), some (vI _), some (vI _), some (vI _), some (vI _), some (vI _), none, none, some (vI _), none]) hX (Nat.le_of_ble_eq_true rfl) rfl d_Mo_year_237 ?_
        refine v_iconst (pc := 239) (v := 0) hX (by decide) d_Mo_year_239 ?_
        refine v_istore (pc := 240) (lo' := [some (vR _), some (vI _), some (vI _), some (vI _), some (vI _), some (vI _), none, none, some (vI _), some (vI _)]) hX (Nat.le_of_ble_eq_true rfl) rfl d_Mo_year_240 ?_
        refine VW.cast (lo' := [some (vR 36), some (vI (i3 k)), some (vI (ln k)), some (vI (i3 a)), some (vI (i3 m)), some (vI y), none, none, some (vI (yaN n nd (yr J B pb pj m) y)), some (vI (i3 0))]) (st' := []) (G' := gM (cpF (YX (cpF (cpF M 54 (fun i => J i 3) n) 55 (fun i => B i 2) nd) n nd (yr J B pb pj m)) 40 (fun i => J i 3) 0)) rfl rfl (by rw [cpF_0]) ?_
        refine v_for (X := X) (head := 242) (n) (fun kk => [some (vR 36), some (vI (i3 k)), some (vI (ln k)), some (vI (i3 a)), some (vI (i3 m)), some (vI y), none, none, some (vI (yaN n nd (yr J B pb pj m) y)), some (vI (i3 kk))]) (fun kk => cpF (YX (cpF (cpF M 54 (fun i => J i 3) n) 55 (fun i => B i 2) nd) n nd (yr J B pb pj m)) 40 (fun i => J i 3) kk) (fun x hx ih242 => ?_) ?_
        · show VW X 242 [some (vR 36), some (vI (i3 k)), some (vI (ln k)), some (vI (i3 a)), some (vI (i3 m)), some (vI y), none, none, some (vI (yaN n nd (yr J B pb pj m) y)), some (vI (i3 x))] [] (gM (cpF (YX (cpF (cpF M 54 (fun i => J i 3) n) 55 (fun i => B i 2) nd) n nd (yr J B pb pj m)) 40 (fun i => J i 3) x))
          refine v_iload (pc := 242) hX rfl d_Mo_year_242 ?_
          refine v_aload_n (pc := 244) hX rfl d_Mo_year_244 ?_
          refine g_getI (pc := 245) hX fl_Mo_101 rfl rfl d_Mo_year_245 ?_
          rw [cpF_ne (by decide), YX_ne (by decide) (by decide), hJ1.2.1]
          refine v_icmp_ge (pc := 248) (tgt := 271) hX d_Mo_year_248 rfl (fun h248 => False.elim (i3_ge_abs hx (by omega) h248)) (fun h248 => ?_)
          refine v_aload_n (pc := 251) hX rfl d_Mo_year_251 ?_
          refine g_getR (pc := 252) hX fl_Mo_19 rfl rfl nf_36_5 d_Mo_year_252 ?_
          refine v_iload (pc := 255) hX rfl d_Mo_year_255 ?_
          refine v_aload_n (pc := 257) hX rfl d_Mo_year_257 ?_
          refine g_getR (pc := 258) hX fl_Mo_61 rfl rfl nf_36_23 d_Mo_year_258 ?_
          refine v_iload (pc := 261) hX rfl d_Mo_year_261 ?_
          refine g_iald (pc := 263) hX rfl (IX.of (n := 6) (by omega) (by decide)) d_Mo_year_263 ?_
          rw [cpF_ne (by decide), YX_ne (by decide) (by decide), cpF_ne (by decide), cpF_in hx]
          refine g_iast (pc := 264) hX rfl (IX.of (n := 6) (by omega) (by decide)) d_Mo_year_264 ?_
          refine v_iinc (pc := 265) (lo' := [some (vR _), some (vI _), some (vI _), some (vI _), some (vI _), some (vI _), none, none, some (vI _), some (vI _)]) hX rfl rfl d_Mo_year_265 ?_
          refine v_goto (pc := 268) (tgt := 242) hX d_Mo_year_268 rfl ?_
          exact VW.cast (by rw [i3_succ]; rfl) rfl (by rw [cpF_s]) ih242
        · show VW X 242 [some (vR 36), some (vI (i3 k)), some (vI (ln k)), some (vI (i3 a)), some (vI (i3 m)), some (vI y), none, none, some (vI (yaN n nd (yr J B pb pj m) y)), some (vI (i3 (n)))] [] (gM (cpF (YX (cpF (cpF M 54 (fun i => J i 3) n) 55 (fun i => B i 2) nd) n nd (yr J B pb pj m)) 40 (fun i => J i 3) (n)))
          refine v_iload (pc := 242) hX rfl d_Mo_year_242 ?_
          refine v_aload_n (pc := 244) hX rfl d_Mo_year_244 ?_
          refine g_getI (pc := 245) hX fl_Mo_101 rfl rfl d_Mo_year_245 ?_
          rw [cpF_ne (by decide), YX_ne (by decide) (by decide), hJ1.2.1]
          refine v_icmp_ge (pc := 248) (tgt := 271) hX d_Mo_year_248 rfl (fun h248 => ?_) (fun h248 => False.elim (absurd (Int32.le_refl _) h248))
          refine v_iconst (pc := 271) (v := 0) hX (by decide) d_Mo_year_271 ?_
          refine v_istore (pc := 272) (lo' := [some (vR _), some (vI _), some (vI _), some (vI _), some (vI _), some (vI _), none, none, some (vI _), some (vI _)]) hX (Nat.le_of_ble_eq_true rfl) rfl d_Mo_year_272 ?_
          refine VW.cast (lo' := [some (vR 36), some (vI (i3 k)), some (vI (ln k)), some (vI (i3 a)), some (vI (i3 m)), some (vI y), none, none, some (vI (yaN n nd (yr J B pb pj m) y)), some (vI (i3 0))]) (st' := []) (G' := gM (cpF (cpF (YX (cpF (cpF M 54 (fun i => J i 3) n) 55 (fun i => B i 2) nd) n nd (yr J B pb pj m)) 40 (fun i => J i 3) n) 44 (fun i => B i 2) 0)) rfl rfl (by rw [cpF_0]) ?_
          refine v_for (X := X) (head := 274) (nd) (fun kk => [some (vR 36), some (vI (i3 k)), some (vI (ln k)), some (vI (i3 a)), some (vI (i3 m)), some (vI y), none, none, some (vI (yaN n nd (yr J B pb pj m) y)), some (vI (i3 kk))]) (fun kk => cpF (cpF (YX (cpF (cpF M 54 (fun i => J i 3) n) 55 (fun i => B i 2) nd) n nd (yr J B pb pj m)) 40 (fun i => J i 3) n) 44 (fun i => B i 2) kk) (fun x hx ih274 => ?_) ?_
          · show VW X 274 [some (vR 36), some (vI (i3 k)), some (vI (ln k)), some (vI (i3 a)), some (vI (i3 m)), some (vI y), none, none, some (vI (yaN n nd (yr J B pb pj m) y)), some (vI (i3 x))] [] (gM (cpF (cpF (YX (cpF (cpF M 54 (fun i => J i 3) n) 55 (fun i => B i 2) nd) n nd (yr J B pb pj m)) 40 (fun i => J i 3) n) 44 (fun i => B i 2) x))
            refine v_iload (pc := 274) hX rfl d_Mo_year_274 ?_
            refine v_aload_n (pc := 276) hX rfl d_Mo_year_276 ?_
            refine g_getI (pc := 277) hX fl_Mo_108 rfl rfl d_Mo_year_277 ?_
            rw [cpF_ne (by decide), cpF_ne (by decide), YX_ne (by decide) (by decide), hB1.2.1]
            refine v_icmp_ge (pc := 280) (tgt := 303) hX d_Mo_year_280 rfl (fun h280 => False.elim (i3_ge_abs hx (by omega) h280)) (fun h280 => ?_)
            refine v_aload_n (pc := 283) hX rfl d_Mo_year_283 ?_
            refine g_getR (pc := 284) hX fl_Mo_31 rfl rfl nf_36_10 d_Mo_year_284 ?_
            refine v_iload (pc := 287) hX rfl d_Mo_year_287 ?_
            refine v_aload_n (pc := 289) hX rfl d_Mo_year_289 ?_
            refine g_getR (pc := 290) hX fl_Mo_64 rfl rfl nf_36_24 d_Mo_year_290 ?_
            refine v_iload (pc := 293) hX rfl d_Mo_year_293 ?_
            refine g_iald (pc := 295) hX rfl (IX.of (n := 4) (by omega) (by decide)) d_Mo_year_295 ?_
            rw [cpF_ne (by decide), cpF_ne (by decide), YX_ne (by decide) (by decide), cpF_in hx]
            refine g_iast (pc := 296) hX rfl (IX.of (n := 4) (by omega) (by decide)) d_Mo_year_296 ?_
            refine v_iinc (pc := 297) (lo' := [some (vR _), some (vI _), some (vI _), some (vI _), some (vI _), some (vI _), none, none, some (vI _), some (vI _)]) hX rfl rfl d_Mo_year_297 ?_
            refine v_goto (pc := 300) (tgt := 274) hX d_Mo_year_300 rfl ?_
            exact VW.cast (by rw [i3_succ]; rfl) rfl (by rw [cpF_s]) ih274
          · show VW X 274 [some (vR 36), some (vI (i3 k)), some (vI (ln k)), some (vI (i3 a)), some (vI (i3 m)), some (vI y), none, none, some (vI (yaN n nd (yr J B pb pj m) y)), some (vI (i3 (nd)))] [] (gM (cpF (cpF (YX (cpF (cpF M 54 (fun i => J i 3) n) 55 (fun i => B i 2) nd) n nd (yr J B pb pj m)) 40 (fun i => J i 3) n) 44 (fun i => B i 2) (nd)))
            rw [YX_end hJ1 hB1]
            refine v_iload (pc := 274) hX rfl d_Mo_year_274 ?_
            refine v_aload_n (pc := 276) hX rfl d_Mo_year_276 ?_
            refine g_getI (pc := 277) hX fl_Mo_108 rfl rfl d_Mo_year_277 ?_
            rw [hB1.2.1]
            refine v_icmp_ge (pc := 280) (tgt := 303) hX d_Mo_year_280 rfl (fun h280 => ?_) (fun h280 => False.elim (absurd (Int32.le_refl _) h280))
            refine v_aload_n (pc := 303) hX rfl d_Mo_year_303 ?_
            refine v_iload (pc := 304) hX rfl d_Mo_year_304 ?_
            refine f_callV (pc := 306) hX k_Mo_refused ki_Mo_refused kv_Mo_refused ml_Mo_149 (C_Mo_refused) rfl rfl rfl rfl rfl (Nat.le_of_ble_eq_true rfl) (Nat.le_of_ble_eq_true rfl) (Nat.le_of_ble_eq_true rfl) d_Mo_year_306 ?_
            exact f_iret (pc := 309) hX hR (rfl) (rfl) d_Mo_year_309
  · refine v_iload (pc := 26) hX rfl d_Mo_year_26 ?_
    refine v_i2l (pc := 28) hX d_Mo_year_28 ?_
    refine v_ldc2_w (pc := 29) hX kl_Mo_204 d_Mo_year_29 ?_
    refine v_ldc2_w (pc := 32) hX kl_Mo_206 d_Mo_year_32 ?_
    refine f_callS (pc := 35) hX k_Mo_in ks_Mo_in ml_Mo_104 (C_Mo_in) rfl rfl rfl (Nat.le_of_ble_eq_true rfl) (Nat.le_of_ble_eq_true rfl) (Nat.le_of_ble_eq_true rfl) d_Mo_year_35 ?_
    rw [rL_rg (L := 10) (H := 15) rfl rfl]
    refine f_ifneB (pc := 38) (tgt := 56) hX d_Mo_year_38 rfl (fun h38 => ?_) (fun h38 => ?_)
    · have td : tdB y = true := by unfold tdB; rw [h23, h38]; rfl
      refine v_iconst (pc := 56) (v := 1) hX (by decide) d_Mo_year_56 ?_
      refine v_goto (pc := 57) (tgt := 61) hX d_Mo_year_57 rfl ?_
      refine v_istore (pc := 61) (lo' := [some (vR _), some (vI _), some (vI _), some (vI _), some (vI _), some (vI _), some (vI _), none, none, none]) hX (Nat.le_of_ble_eq_true rfl) rfl d_Mo_year_61 ?_
      refine v_iload_n (pc := 63) hX rfl d_Mo_year_63 ?_
      refine v_i2l (pc := 64) hX d_Mo_year_64 ?_
      refine v_lconst (pc := 65) (v := 0) hX (by decide) d_Mo_year_65 ?_
      refine v_ldc2_w (pc := 66) hX kl_Mo_152 d_Mo_year_66 ?_
      refine f_callS (pc := 69) hX k_Mo_in ks_Mo_in ml_Mo_104 (C_Mo_in) rfl rfl rfl (Nat.le_of_ble_eq_true rfl) (Nat.le_of_ble_eq_true rfl) (Nat.le_of_ble_eq_true rfl) d_Mo_year_69 ?_
      rw [rL_rg (L := 0) (H := 2) rfl rfl]
      refine f_ifeqB (pc := 72) (tgt := 93) hX d_Mo_year_72 rfl (fun h72 => False.elim (by rw [hu] at h72; cases h72)) (fun h72 => ?_)
      refine v_iload (pc := 75) hX rfl d_Mo_year_75 ?_
      refine v_i2l (pc := 77) hX d_Mo_year_77 ?_
      refine v_lconst (pc := 78) (v := 0) hX (by decide) d_Mo_year_78 ?_
      refine v_ldc2_w (pc := 79) hX kl_Mo_208 d_Mo_year_79 ?_
      refine f_callS (pc := 82) hX k_Mo_in ks_Mo_in ml_Mo_104 (C_Mo_in) rfl rfl rfl (Nat.le_of_ble_eq_true rfl) (Nat.le_of_ble_eq_true rfl) (Nat.le_of_ble_eq_true rfl) d_Mo_year_82 ?_
      rw [rL_rg (L := 0) (H := 20) rfl rfl]
      refine f_ifeqB (pc := 85) (tgt := 93) hX d_Mo_year_85 rfl (fun h85 => False.elim (by rw [show rg (i3 m) 0 20 = true from rg_i3 (n := 21) hm (by decide)] at h85; cases h85)) (fun h85 => ?_)
      refine v_iload (pc := 88) hX rfl d_Mo_year_88 ?_
      refine v_if_ne (pc := 90) (tgt := 100) hX d_Mo_year_90 rfl (fun h90 => ?_) (fun h90 => False.elim (by revert h90; decide))
      refine v_aload_n (pc := 100) hX rfl d_Mo_year_100 ?_
      refine g_getI (pc := 101) hX fl_Mo_101 rfl rfl d_Mo_year_101 ?_
      rw [hM]
      refine v_if_ne (pc := 104) (tgt := 114) hX d_Mo_year_104 rfl (fun h104 => ?_) (fun h104 => False.elim (i3_ne0 h0 (by omega) h104))
      refine v_aload_n (pc := 114) hX rfl d_Mo_year_114 ?_
      refine v_iload_n (pc := 115) hX rfl d_Mo_year_115 ?_
      refine v_iload_n (pc := 116) hX rfl d_Mo_year_116 ?_
      refine v_iload_n (pc := 117) hX rfl d_Mo_year_117 ?_
      refine v_ldc2_w (pc := 118) hX kl_Mo_152 d_Mo_year_118 ?_
      refine v_iload (pc := 121) hX rfl d_Mo_year_121 ?_
      refine v_i2l (pc := 123) hX d_Mo_year_123 ?_
      refine v_lmul (pc := 124) hX d_Mo_year_124 ?_
      refine f_callV (pc := 125) hX k_Mo_cellsBarred ki_Mo_cellsBarred kv_Mo_cellsBarred ml_Mo_154 (C_Mo_cb_ok (m := 2 * m) hZ hk (by rw [two_l (by omega)]; omega) hz ham) rfl rfl rfl rfl rfl (Nat.le_of_ble_eq_true rfl) (Nat.le_of_ble_eq_true rfl) (Nat.le_of_ble_eq_true rfl) d_Mo_year_125 ?_
      refine v_istore (pc := 128) (lo' := [some (vR _), some (vI _), some (vI _), some (vI _), some (vI _), some (vI _), some (vI _), some (vI _), none, none]) hX (Nat.le_of_ble_eq_true rfl) rfl d_Mo_year_128 ?_
      refine v_iload (pc := 130) hX rfl d_Mo_year_130 ?_
      refine v_if_ge (pc := 132) (tgt := 138) hX d_Mo_year_132 rfl (fun h132 => ?_) (fun h132 => False.elim (h132 (Int32.le_refl _)))
      refine v_aload_n (pc := 138) hX rfl d_Mo_year_138 ?_
      refine v_bipush (pc := 139) (v := 60) hX (by decide) d_Mo_year_139 ?_
      refine v_iload_n (pc := 141) hX rfl d_Mo_year_141 ?_
      refine v_imul (pc := 142) hX d_Mo_year_142 ?_
      refine v_iload_n (pc := 143) hX rfl d_Mo_year_143 ?_
      refine v_iadd (pc := 144) hX d_Mo_year_144 ?_
      rw [i3_60]
      refine v_iload (pc := 145) hX rfl d_Mo_year_145 ?_
      refine f_callV (pc := 147) hX k_Mo_arePairs ki_Mo_arePairs kv_Mo_arePairs ml_Mo_212 (C_Mo_arePairs hJ hB (by omega) hq) rfl rfl rfl rfl rfl (Nat.le_of_ble_eq_true rfl) (Nat.le_of_ble_eq_true rfl) (Nat.le_of_ble_eq_true rfl) d_Mo_year_147 ?_
      refine f_ifneB (pc := 150) (tgt := 159) hX d_Mo_year_150 rfl (fun h150 => ?_) (fun h150 => False.elim (by rw [show allB (fun p => rg ((fun t => C k (a + t)) (2 * p)) 0 ((nd : Int) - 1) && rg ((fun t => C k (a + t)) (2 * p + 1)) 0 ((n : Int) - 1)) m = true from hat] at h150; cases h150))
      refine v_iconst (pc := 159) (v := 0) hX (by decide) d_Mo_year_159 ?_
      refine v_istore (pc := 160) (lo' := [some (vR _), some (vI _), some (vI _), some (vI _), some (vI _), some (vI _), some (vI _), some (vI _), some (vI _), none]) hX (Nat.le_of_ble_eq_true rfl) rfl d_Mo_year_160 ?_
      refine VW.fg [true, true, true, true, true, true, false, false, true, true] ?_
      refine VW.cast (lo' := [some (vR 36), some (vI (i3 k)), some (vI (ln k)), some (vI (i3 a)), some (vI (i3 m)), some (vI y), none, none, some (vI (i3 0)), none]) (st' := []) (G' := gM (cpF M 54 (fun i => J i 3) 0)) rfl rfl (by rw [cpF_0]) ?_
      refine v_for (X := X) (head := 162) (n) (fun kk => [some (vR 36), some (vI (i3 k)), some (vI (ln k)), some (vI (i3 a)), some (vI (i3 m)), some (vI y), none, none, some (vI (i3 kk)), none]) (fun kk => cpF M 54 (fun i => J i 3) kk) (fun x hx ih162 => ?_) ?_
      · show VW X 162 [some (vR 36), some (vI (i3 k)), some (vI (ln k)), some (vI (i3 a)), some (vI (i3 m)), some (vI y), none, none, some (vI (i3 x)), none] [] (gM (cpF M 54 (fun i => J i 3) x))
        refine v_iload (pc := 162) hX rfl d_Mo_year_162 ?_
        refine v_aload_n (pc := 164) hX rfl d_Mo_year_164 ?_
        refine g_getI (pc := 165) hX fl_Mo_101 rfl rfl d_Mo_year_165 ?_
        rw [cpF_ne (by decide), hM]
        refine v_icmp_ge (pc := 168) (tgt := 191) hX d_Mo_year_168 rfl (fun h168 => False.elim (i3_ge_abs hx (by omega) h168)) (fun h168 => ?_)
        refine v_aload_n (pc := 171) hX rfl d_Mo_year_171 ?_
        refine g_getR (pc := 172) hX fl_Mo_61 rfl rfl nf_36_23 d_Mo_year_172 ?_
        refine v_iload (pc := 175) hX rfl d_Mo_year_175 ?_
        refine v_aload_n (pc := 177) hX rfl d_Mo_year_177 ?_
        refine g_getR (pc := 178) hX fl_Mo_19 rfl rfl nf_36_5 d_Mo_year_178 ?_
        refine v_iload (pc := 181) hX rfl d_Mo_year_181 ?_
        refine g_iald (pc := 183) hX rfl (IX.of (n := 6) (by omega) (by decide)) d_Mo_year_183 ?_
        rw [cpF_ne (by decide), show M 40 x = J x 3 from hJ.2.2.1 x hx 3 (by decide)]
        refine g_iast (pc := 184) hX rfl (IX.of (n := 6) (by omega) (by decide)) d_Mo_year_184 ?_
        refine v_iinc (pc := 185) (lo' := [some (vR _), some (vI _), some (vI _), some (vI _), some (vI _), some (vI _), none, none, some (vI _), none]) hX rfl rfl d_Mo_year_185 ?_
        refine v_goto (pc := 188) (tgt := 162) hX d_Mo_year_188 rfl ?_
        exact VW.cast (by rw [i3_succ]; rfl) rfl (by rw [cpF_s]) ih162
      · show VW X 162 [some (vR 36), some (vI (i3 k)), some (vI (ln k)), some (vI (i3 a)), some (vI (i3 m)), some (vI y), none, none, some (vI (i3 (n))), none] [] (gM (cpF M 54 (fun i => J i 3) (n)))
        refine v_iload (pc := 162) hX rfl d_Mo_year_162 ?_
        refine v_aload_n (pc := 164) hX rfl d_Mo_year_164 ?_
        refine g_getI (pc := 165) hX fl_Mo_101 rfl rfl d_Mo_year_165 ?_
        rw [cpF_ne (by decide), hM]
        refine v_icmp_ge (pc := 168) (tgt := 191) hX d_Mo_year_168 rfl (fun h168 => ?_) (fun h168 => False.elim (absurd (Int32.le_refl _) h168))
        refine v_iconst (pc := 191) (v := 0) hX (by decide) d_Mo_year_191 ?_
        refine v_istore (pc := 192) (lo' := [some (vR _), some (vI _), some (vI _), some (vI _), some (vI _), some (vI _), none, none, some (vI _), none]) hX (Nat.le_of_ble_eq_true rfl) rfl d_Mo_year_192 ?_
        refine VW.cast (lo' := [some (vR 36), some (vI (i3 k)), some (vI (ln k)), some (vI (i3 a)), some (vI (i3 m)), some (vI y), none, none, some (vI (i3 0)), none]) (st' := []) (G' := gM (cpF (cpF M 54 (fun i => J i 3) n) 55 (fun i => B i 2) 0)) rfl rfl (by rw [cpF_0]) ?_
        refine v_for (X := X) (head := 194) (nd) (fun kk => [some (vR 36), some (vI (i3 k)), some (vI (ln k)), some (vI (i3 a)), some (vI (i3 m)), some (vI y), none, none, some (vI (i3 kk)), none]) (fun kk => cpF (cpF M 54 (fun i => J i 3) n) 55 (fun i => B i 2) kk) (fun x hx ih194 => ?_) ?_
        · show VW X 194 [some (vR 36), some (vI (i3 k)), some (vI (ln k)), some (vI (i3 a)), some (vI (i3 m)), some (vI y), none, none, some (vI (i3 x)), none] [] (gM (cpF (cpF M 54 (fun i => J i 3) n) 55 (fun i => B i 2) x))
          refine v_iload (pc := 194) hX rfl d_Mo_year_194 ?_
          refine v_aload_n (pc := 196) hX rfl d_Mo_year_196 ?_
          refine g_getI (pc := 197) hX fl_Mo_108 rfl rfl d_Mo_year_197 ?_
          rw [cpF_ne (by decide), cpF_ne (by decide), hM7]
          refine v_icmp_ge (pc := 200) (tgt := 223) hX d_Mo_year_200 rfl (fun h200 => False.elim (i3_ge_abs hx (by omega) h200)) (fun h200 => ?_)
          refine v_aload_n (pc := 203) hX rfl d_Mo_year_203 ?_
          refine g_getR (pc := 204) hX fl_Mo_64 rfl rfl nf_36_24 d_Mo_year_204 ?_
          refine v_iload (pc := 207) hX rfl d_Mo_year_207 ?_
          refine v_aload_n (pc := 209) hX rfl d_Mo_year_209 ?_
          refine g_getR (pc := 210) hX fl_Mo_31 rfl rfl nf_36_10 d_Mo_year_210 ?_
          refine v_iload (pc := 213) hX rfl d_Mo_year_213 ?_
          refine g_iald (pc := 215) hX rfl (IX.of (n := 4) (by omega) (by decide)) d_Mo_year_215 ?_
          rw [cpF_ne (by decide), cpF_ne (by decide), show M 44 x = B x 2 from hB.2.2.1 x hx 2 (by decide)]
          refine g_iast (pc := 216) hX rfl (IX.of (n := 4) (by omega) (by decide)) d_Mo_year_216 ?_
          refine v_iinc (pc := 217) (lo' := [some (vR _), some (vI _), some (vI _), some (vI _), some (vI _), some (vI _), none, none, some (vI _), none]) hX rfl rfl d_Mo_year_217 ?_
          refine v_goto (pc := 220) (tgt := 194) hX d_Mo_year_220 rfl ?_
          exact VW.cast (by rw [i3_succ]; rfl) rfl (by rw [cpF_s]) ih194
        · show VW X 194 [some (vR 36), some (vI (i3 k)), some (vI (ln k)), some (vI (i3 a)), some (vI (i3 m)), some (vI y), none, none, some (vI (i3 (nd))), none] [] (gM (cpF (cpF M 54 (fun i => J i 3) n) 55 (fun i => B i 2) (nd)))
          refine v_iload (pc := 194) hX rfl d_Mo_year_194 ?_
          refine v_aload_n (pc := 196) hX rfl d_Mo_year_196 ?_
          refine g_getI (pc := 197) hX fl_Mo_108 rfl rfl d_Mo_year_197 ?_
          rw [cpF_ne (by decide), cpF_ne (by decide), hM7]
          refine v_icmp_ge (pc := 200) (tgt := 223) hX d_Mo_year_200 rfl (fun h200 => ?_) (fun h200 => False.elim (absurd (Int32.le_refl _) h200))
          refine v_aload_n (pc := 223) hX rfl d_Mo_year_223 ?_
          refine v_bipush (pc := 224) (v := 60) hX (by decide) d_Mo_year_224 ?_
          refine v_iload_n (pc := 226) hX rfl d_Mo_year_226 ?_
          refine v_imul (pc := 227) hX d_Mo_year_227 ?_
          refine v_iload_n (pc := 228) hX rfl d_Mo_year_228 ?_
          refine v_iadd (pc := 229) hX d_Mo_year_229 ?_
          rw [i3_60]
          refine v_iload (pc := 230) hX rfl d_Mo_year_230 ?_
          refine v_iload (pc := 232) hX rfl d_Mo_year_232 ?_
          refine f_callV (pc := 234) hX k_Mo_yearBy ki_Mo_yearBy kv_Mo_yearBy ml_Mo_215 (C_Mo_yearBy hJ1 hB1 (by omega) hq1 hm hy hpb hpj) rfl rfl rfl rfl rfl (Nat.le_of_ble_eq_true rfl) (Nat.le_of_ble_eq_true rfl) (Nat.le_of_ble_eq_true rfl) d_Mo_year_234 ?_
          refine v_istore (pc := 237) (lo' := [some (vR _), some (vI _), some (vI _), some (vI _), some (vI _), some (vI _), none, none, some (vI _), none]) hX (Nat.le_of_ble_eq_true rfl) rfl d_Mo_year_237 ?_
          refine v_iconst (pc := 239) (v := 0) hX (by decide) d_Mo_year_239 ?_
          refine v_istore (pc := 240) (lo' := [some (vR _), some (vI _), some (vI _), some (vI _), some (vI _), some (vI _), none, none, some (vI _), some (vI _)]) hX (Nat.le_of_ble_eq_true rfl) rfl d_Mo_year_240 ?_
          refine VW.cast (lo' := [some (vR 36), some (vI (i3 k)), some (vI (ln k)), some (vI (i3 a)), some (vI (i3 m)), some (vI y), none, none, some (vI (yaN n nd (yr J B pb pj m) y)), some (vI (i3 0))]) (st' := []) (G' := gM (cpF (YX (cpF (cpF M 54 (fun i => J i 3) n) 55 (fun i => B i 2) nd) n nd (yr J B pb pj m)) 40 (fun i => J i 3) 0)) rfl rfl (by rw [cpF_0]) ?_
          refine v_for (X := X) (head := 242) (n) (fun kk => [some (vR 36), some (vI (i3 k)), some (vI (ln k)), some (vI (i3 a)), some (vI (i3 m)), some (vI y), none, none, some (vI (yaN n nd (yr J B pb pj m) y)), some (vI (i3 kk))]) (fun kk => cpF (YX (cpF (cpF M 54 (fun i => J i 3) n) 55 (fun i => B i 2) nd) n nd (yr J B pb pj m)) 40 (fun i => J i 3) kk) (fun x hx ih242 => ?_) ?_
          · show VW X 242 [some (vR 36), some (vI (i3 k)), some (vI (ln k)), some (vI (i3 a)), some (vI (i3 m)), some (vI y), none, none, some (vI (yaN n nd (yr J B pb pj m) y)), some (vI (i3 x))] [] (gM (cpF (YX (cpF (cpF M 54 (fun i => J i 3) n) 55 (fun i => B i 2) nd) n nd (yr J B pb pj m)) 40 (fun i => J i 3) x))
            refine v_iload (pc := 242) hX rfl d_Mo_year_242 ?_
            refine v_aload_n (pc := 244) hX rfl d_Mo_year_244 ?_
            refine g_getI (pc := 245) hX fl_Mo_101 rfl rfl d_Mo_year_245 ?_
            rw [cpF_ne (by decide), YX_ne (by decide) (by decide), hJ1.2.1]
            refine v_icmp_ge (pc := 248) (tgt := 271) hX d_Mo_year_248 rfl (fun h248 => False.elim (i3_ge_abs hx (by omega) h248)) (fun h248 => ?_)
            refine v_aload_n (pc := 251) hX rfl d_Mo_year_251 ?_
            refine g_getR (pc := 252) hX fl_Mo_19 rfl rfl nf_36_5 d_Mo_year_252 ?_
            refine v_iload (pc := 255) hX rfl d_Mo_year_255 ?_
            refine v_aload_n (pc := 257) hX rfl d_Mo_year_257 ?_
            refine g_getR (pc := 258) hX fl_Mo_61 rfl rfl nf_36_23 d_Mo_year_258 ?_
            refine v_iload (pc := 261) hX rfl d_Mo_year_261 ?_
            refine g_iald (pc := 263) hX rfl (IX.of (n := 6) (by omega) (by decide)) d_Mo_year_263 ?_
            rw [cpF_ne (by decide), YX_ne (by decide) (by decide), cpF_ne (by decide), cpF_in hx]
            refine g_iast (pc := 264) hX rfl (IX.of (n := 6) (by omega) (by decide)) d_Mo_year_264 ?_
            refine v_iinc (pc := 265) (lo' := [some (vR _), some (vI _), some (vI _), some (vI _), some (vI _), some (vI _), none, none, some (vI _), some (vI _)]) hX rfl rfl d_Mo_year_265 ?_
            refine v_goto (pc := 268) (tgt := 242) hX d_Mo_year_268 rfl ?_
            exact VW.cast (by rw [i3_succ]; rfl) rfl (by rw [cpF_s]) ih242
          · show VW X 242 [some (vR 36), some (vI (i3 k)), some (vI (ln k)), some (vI (i3 a)), some (vI (i3 m)), some (vI y), none, none, some (vI (yaN n nd (yr J B pb pj m) y)), some (vI (i3 (n)))] [] (gM (cpF (YX (cpF (cpF M 54 (fun i => J i 3) n) 55 (fun i => B i 2) nd) n nd (yr J B pb pj m)) 40 (fun i => J i 3) (n)))
            refine v_iload (pc := 242) hX rfl d_Mo_year_242 ?_
            refine v_aload_n (pc := 244) hX rfl d_Mo_year_244 ?_
            refine g_getI (pc := 245) hX fl_Mo_101 rfl rfl d_Mo_year_245 ?_
            rw [cpF_ne (by decide), YX_ne (by decide) (by decide), hJ1.2.1]
            refine v_icmp_ge (pc := 248) (tgt := 271) hX d_Mo_year_248 rfl (fun h248 => ?_) (fun h248 => False.elim (absurd (Int32.le_refl _) h248))
            refine v_iconst (pc := 271) (v := 0) hX (by decide) d_Mo_year_271 ?_
            refine v_istore (pc := 272) (lo' := [some (vR _), some (vI _), some (vI _), some (vI _), some (vI _), some (vI _), none, none, some (vI _), some (vI _)]) hX (Nat.le_of_ble_eq_true rfl) rfl d_Mo_year_272 ?_
            refine VW.cast (lo' := [some (vR 36), some (vI (i3 k)), some (vI (ln k)), some (vI (i3 a)), some (vI (i3 m)), some (vI y), none, none, some (vI (yaN n nd (yr J B pb pj m) y)), some (vI (i3 0))]) (st' := []) (G' := gM (cpF (cpF (YX (cpF (cpF M 54 (fun i => J i 3) n) 55 (fun i => B i 2) nd) n nd (yr J B pb pj m)) 40 (fun i => J i 3) n) 44 (fun i => B i 2) 0)) rfl rfl (by rw [cpF_0]) ?_
            refine v_for (X := X) (head := 274) (nd) (fun kk => [some (vR 36), some (vI (i3 k)), some (vI (ln k)), some (vI (i3 a)), some (vI (i3 m)), some (vI y), none, none, some (vI (yaN n nd (yr J B pb pj m) y)), some (vI (i3 kk))]) (fun kk => cpF (cpF (YX (cpF (cpF M 54 (fun i => J i 3) n) 55 (fun i => B i 2) nd) n nd (yr J B pb pj m)) 40 (fun i => J i 3) n) 44 (fun i => B i 2) kk) (fun x hx ih274 => ?_) ?_
            · show VW X 274 [some (vR 36), some (vI (i3 k)), some (vI (ln k)), some (vI (i3 a)), some (vI (i3 m)), some (vI y), none, none, some (vI (yaN n nd (yr J B pb pj m) y)), some (vI (i3 x))] [] (gM (cpF (cpF (YX (cpF (cpF M 54 (fun i => J i 3) n) 55 (fun i => B i 2) nd) n nd (yr J B pb pj m)) 40 (fun i => J i 3) n) 44 (fun i => B i 2) x))
              refine v_iload (pc := 274) hX rfl d_Mo_year_274 ?_
              refine v_aload_n (pc := 276) hX rfl d_Mo_year_276 ?_
              refine g_getI (pc := 277) hX fl_Mo_108 rfl rfl d_Mo_year_277 ?_
              rw [cpF_ne (by decide), cpF_ne (by decide), YX_ne (by decide) (by decide), hB1.2.1]
              refine v_icmp_ge (pc := 280) (tgt := 303) hX d_Mo_year_280 rfl (fun h280 => False.elim (i3_ge_abs hx (by omega) h280)) (fun h280 => ?_)
              refine v_aload_n (pc := 283) hX rfl d_Mo_year_283 ?_
              refine g_getR (pc := 284) hX fl_Mo_31 rfl rfl nf_36_10 d_Mo_year_284 ?_
              refine v_iload (pc := 287) hX rfl d_Mo_year_287 ?_
              refine v_aload_n (pc := 289) hX rfl d_Mo_year_289 ?_
              refine g_getR (pc := 290) hX fl_Mo_64 rfl rfl nf_36_24 d_Mo_year_290 ?_
              refine v_iload (pc := 293) hX rfl d_Mo_year_293 ?_
              refine g_iald (pc := 295) hX rfl (IX.of (n := 4) (by omega) (by decide)) d_Mo_year_295 ?_
              rw [cpF_ne (by decide), cpF_ne (by decide), YX_ne (by decide) (by decide), cpF_in hx]
              refine g_iast (pc := 296) hX rfl (IX.of (n := 4) (by omega) (by decide)) d_Mo_year_296 ?_
              refine v_iinc (pc := 297) (lo' := [some (vR _), some (vI _), some (vI _), some (vI _), some (vI _), some (vI _), none, none, some (vI _), some (vI _)]) hX rfl rfl d_Mo_year_297 ?_
              refine v_goto (pc := 300) (tgt := 274) hX d_Mo_year_300 rfl ?_
              exact VW.cast (by rw [i3_succ]; rfl) rfl (by rw [cpF_s]) ih274
            · show VW X 274 [some (vR 36), some (vI (i3 k)), some (vI (ln k)), some (vI (i3 a)), some (vI (i3 m)), some (vI y), none, none, some (vI (yaN n nd (yr J B pb pj m) y)), some (vI (i3 (nd)))] [] (gM (cpF (cpF (YX (cpF (cpF M 54 (fun i => J i 3) n) 55 (fun i => B i 2) nd) n nd (yr J B pb pj m)) 40 (fun i => J i 3) n) 44 (fun i => B i 2) (nd)))
              rw [YX_end hJ1 hB1]
              refine v_iload (pc := 274) hX rfl d_Mo_year_274 ?_
              refine v_aload_n (pc := 276) hX rfl d_Mo_year_276 ?_
              refine g_getI (pc := 277) hX fl_Mo_108 rfl rfl d_Mo_year_277 ?_
              rw [hB1.2.1]
              refine v_icmp_ge (pc := 280) (tgt := 303) hX d_Mo_year_280 rfl (fun h280 => ?_) (fun h280 => False.elim (absurd (Int32.le_refl _) h280))
              refine v_aload_n (pc := 303) hX rfl d_Mo_year_303 ?_
              refine v_iload (pc := 304) hX rfl d_Mo_year_304 ?_
              refine f_callV (pc := 306) hX k_Mo_refused ki_Mo_refused kv_Mo_refused ml_Mo_149 (C_Mo_refused) rfl rfl rfl rfl rfl (Nat.le_of_ble_eq_true rfl) (Nat.le_of_ble_eq_true rfl) (Nat.le_of_ble_eq_true rfl) d_Mo_year_306 ?_
              exact f_iret (pc := 309) hX hR (rfl) (rfl) d_Mo_year_309
    · refine v_iload (pc := 41) hX rfl d_Mo_year_41 ?_
      refine v_i2l (pc := 43) hX d_Mo_year_43 ?_
      refine v_ldc2_w (pc := 44) hX kl_Mo_208 d_Mo_year_44 ?_
      refine v_ldc2_w (pc := 47) hX kl_Mo_210 d_Mo_year_47 ?_
      refine f_callS (pc := 50) hX k_Mo_in ks_Mo_in ml_Mo_104 (C_Mo_in) rfl rfl rfl (Nat.le_of_ble_eq_true rfl) (Nat.le_of_ble_eq_true rfl) (Nat.le_of_ble_eq_true rfl) d_Mo_year_50 ?_
      rw [rL_rg (L := 20) (H := 23) rfl rfl]
      refine f_ifeqB (pc := 53) (tgt := 60) hX d_Mo_year_53 rfl (fun h53 => False.elim (by have td : tdB y = false := (by unfold tdB; rw [h23, h38, h53]; rfl); rw [td] at hy; cases hy)) (fun h53 => ?_)
      refine v_iconst (pc := 56) (v := 1) hX (by decide) d_Mo_year_56 ?_
      refine v_goto (pc := 57) (tgt := 61) hX d_Mo_year_57 rfl ?_
      refine v_istore (pc := 61) (lo' := [some (vR _), some (vI _), some (vI _), some (vI _), some (vI _), some (vI _), some (vI _), none, none, none]) hX (Nat.le_of_ble_eq_true rfl) rfl d_Mo_year_61 ?_
      refine v_iload_n (pc := 63) hX rfl d_Mo_year_63 ?_
      refine v_i2l (pc := 64) hX d_Mo_year_64 ?_
      refine v_lconst (pc := 65) (v := 0) hX (by decide) d_Mo_year_65 ?_
      refine v_ldc2_w (pc := 66) hX kl_Mo_152 d_Mo_year_66 ?_
      refine f_callS (pc := 69) hX k_Mo_in ks_Mo_in ml_Mo_104 (C_Mo_in) rfl rfl rfl (Nat.le_of_ble_eq_true rfl) (Nat.le_of_ble_eq_true rfl) (Nat.le_of_ble_eq_true rfl) d_Mo_year_69 ?_
      rw [rL_rg (L := 0) (H := 2) rfl rfl]
      refine f_ifeqB (pc := 72) (tgt := 93) hX d_Mo_year_72 rfl (fun h72 => False.elim (by rw [hu] at h72; cases h72)) (fun h72 => ?_)
      refine v_iload (pc := 75) hX rfl d_Mo_year_75 ?_
      refine v_i2l (pc := 77) hX d_Mo_year_77 ?_
      refine v_lconst (pc := 78) (v := 0) hX (by decide) d_Mo_year_78 ?_
      refine v_ldc2_w (pc := 79) hX kl_Mo_208 d_Mo_year_79 ?_
      refine f_callS (pc := 82) hX k_Mo_in ks_Mo_in ml_Mo_104 (C_Mo_in) rfl rfl rfl (Nat.le_of_ble_eq_true rfl) (Nat.le_of_ble_eq_true rfl) (Nat.le_of_ble_eq_true rfl) d_Mo_year_82 ?_
      rw [rL_rg (L := 0) (H := 20) rfl rfl]
      refine f_ifeqB (pc := 85) (tgt := 93) hX d_Mo_year_85 rfl (fun h85 => False.elim (by rw [show rg (i3 m) 0 20 = true from rg_i3 (n := 21) hm (by decide)] at h85; cases h85)) (fun h85 => ?_)
      refine v_iload (pc := 88) hX rfl d_Mo_year_88 ?_
      refine v_if_ne (pc := 90) (tgt := 100) hX d_Mo_year_90 rfl (fun h90 => ?_) (fun h90 => False.elim (by revert h90; decide))
      refine v_aload_n (pc := 100) hX rfl d_Mo_year_100 ?_
      refine g_getI (pc := 101) hX fl_Mo_101 rfl rfl d_Mo_year_101 ?_
      rw [hM]
      refine v_if_ne (pc := 104) (tgt := 114) hX d_Mo_year_104 rfl (fun h104 => ?_) (fun h104 => False.elim (i3_ne0 h0 (by omega) h104))
      refine v_aload_n (pc := 114) hX rfl d_Mo_year_114 ?_
      refine v_iload_n (pc := 115) hX rfl d_Mo_year_115 ?_
      refine v_iload_n (pc := 116) hX rfl d_Mo_year_116 ?_
      refine v_iload_n (pc := 117) hX rfl d_Mo_year_117 ?_
      refine v_ldc2_w (pc := 118) hX kl_Mo_152 d_Mo_year_118 ?_
      refine v_iload (pc := 121) hX rfl d_Mo_year_121 ?_
      refine v_i2l (pc := 123) hX d_Mo_year_123 ?_
      refine v_lmul (pc := 124) hX d_Mo_year_124 ?_
      refine f_callV (pc := 125) hX k_Mo_cellsBarred ki_Mo_cellsBarred kv_Mo_cellsBarred ml_Mo_154 (C_Mo_cb_ok (m := 2 * m) hZ hk (by rw [two_l (by omega)]; omega) hz ham) rfl rfl rfl rfl rfl (Nat.le_of_ble_eq_true rfl) (Nat.le_of_ble_eq_true rfl) (Nat.le_of_ble_eq_true rfl) d_Mo_year_125 ?_
      refine v_istore (pc := 128) (lo' := [some (vR _), some (vI _), some (vI _), some (vI _), some (vI _), some (vI _), some (vI _), some (vI _), none, none]) hX (Nat.le_of_ble_eq_true rfl) rfl d_Mo_year_128 ?_
      refine v_iload (pc := 130) hX rfl d_Mo_year_130 ?_
      refine v_if_ge (pc := 132) (tgt := 138) hX d_Mo_year_132 rfl (fun h132 => ?_) (fun h132 => False.elim (h132 (Int32.le_refl _)))
      refine v_aload_n (pc := 138) hX rfl d_Mo_year_138 ?_
      refine v_bipush (pc := 139) (v := 60) hX (by decide) d_Mo_year_139 ?_
      refine v_iload_n (pc := 141) hX rfl d_Mo_year_141 ?_
      refine v_imul (pc := 142) hX d_Mo_year_142 ?_
      refine v_iload_n (pc := 143) hX rfl d_Mo_year_143 ?_
      refine v_iadd (pc := 144) hX d_Mo_year_144 ?_
      rw [i3_60]
      refine v_iload (pc := 145) hX rfl d_Mo_year_145 ?_
      refine f_callV (pc := 147) hX k_Mo_arePairs ki_Mo_arePairs kv_Mo_arePairs ml_Mo_212 (C_Mo_arePairs hJ hB (by omega) hq) rfl rfl rfl rfl rfl (Nat.le_of_ble_eq_true rfl) (Nat.le_of_ble_eq_true rfl) (Nat.le_of_ble_eq_true rfl) d_Mo_year_147 ?_
      refine f_ifneB (pc := 150) (tgt := 159) hX d_Mo_year_150 rfl (fun h150 => ?_) (fun h150 => False.elim (by rw [show allB (fun p => rg ((fun t => C k (a + t)) (2 * p)) 0 ((nd : Int) - 1) && rg ((fun t => C k (a + t)) (2 * p + 1)) 0 ((n : Int) - 1)) m = true from hat] at h150; cases h150))
      refine v_iconst (pc := 159) (v := 0) hX (by decide) d_Mo_year_159 ?_
      refine v_istore (pc := 160) (lo' := [some (vR _), some (vI _), some (vI _), some (vI _), some (vI _), some (vI _), some (vI _), some (vI _), some (vI _), none]) hX (Nat.le_of_ble_eq_true rfl) rfl d_Mo_year_160 ?_
      refine VW.fg [true, true, true, true, true, true, false, false, true, true] ?_
      refine VW.cast (lo' := [some (vR 36), some (vI (i3 k)), some (vI (ln k)), some (vI (i3 a)), some (vI (i3 m)), some (vI y), none, none, some (vI (i3 0)), none]) (st' := []) (G' := gM (cpF M 54 (fun i => J i 3) 0)) rfl rfl (by rw [cpF_0]) ?_
      refine v_for (X := X) (head := 162) (n) (fun kk => [some (vR 36), some (vI (i3 k)), some (vI (ln k)), some (vI (i3 a)), some (vI (i3 m)), some (vI y), none, none, some (vI (i3 kk)), none]) (fun kk => cpF M 54 (fun i => J i 3) kk) (fun x hx ih162 => ?_) ?_
      · show VW X 162 [some (vR 36), some (vI (i3 k)), some (vI (ln k)), some (vI (i3 a)), some (vI (i3 m)), some (vI y), none, none, some (vI (i3 x)), none] [] (gM (cpF M 54 (fun i => J i 3) x))
        refine v_iload (pc := 162) hX rfl d_Mo_year_162 ?_
        refine v_aload_n (pc := 164) hX rfl d_Mo_year_164 ?_
        refine g_getI (pc := 165) hX fl_Mo_101 rfl rfl d_Mo_year_165 ?_
        rw [cpF_ne (by decide), hM]
        refine v_icmp_ge (pc := 168) (tgt := 191) hX d_Mo_year_168 rfl (fun h168 => False.elim (i3_ge_abs hx (by omega) h168)) (fun h168 => ?_)
        refine v_aload_n (pc := 171) hX rfl d_Mo_year_171 ?_
        refine g_getR (pc := 172) hX fl_Mo_61 rfl rfl nf_36_23 d_Mo_year_172 ?_
        refine v_iload (pc := 175) hX rfl d_Mo_year_175 ?_
        refine v_aload_n (pc := 177) hX rfl d_Mo_year_177 ?_
        refine g_getR (pc := 178) hX fl_Mo_19 rfl rfl nf_36_5 d_Mo_year_178 ?_
        refine v_iload (pc := 181) hX rfl d_Mo_year_181 ?_
        refine g_iald (pc := 183) hX rfl (IX.of (n := 6) (by omega) (by decide)) d_Mo_year_183 ?_
        rw [cpF_ne (by decide), show M 40 x = J x 3 from hJ.2.2.1 x hx 3 (by decide)]
        refine g_iast (pc := 184) hX rfl (IX.of (n := 6) (by omega) (by decide)) d_Mo_year_184 ?_
        refine v_iinc (pc := 185) (lo' := [some (vR _), some (vI _), some (vI _), some (vI _), some (vI _), some (vI _), none, none, some (vI _), none]) hX rfl rfl d_Mo_year_185 ?_
        refine v_goto (pc := 188) (tgt := 162) hX d_Mo_year_188 rfl ?_
        exact VW.cast (by rw [i3_succ]; rfl) rfl (by rw [cpF_s]) ih162
      · show VW X 162 [some (vR 36), some (vI (i3 k)), some (vI (ln k)), some (vI (i3 a)), some (vI (i3 m)), some (vI y), none, none, some (vI (i3 (n))), none] [] (gM (cpF M 54 (fun i => J i 3) (n)))
        refine v_iload (pc := 162) hX rfl d_Mo_year_162 ?_
        refine v_aload_n (pc := 164) hX rfl d_Mo_year_164 ?_
        refine g_getI (pc := 165) hX fl_Mo_101 rfl rfl d_Mo_year_165 ?_
        rw [cpF_ne (by decide), hM]
        refine v_icmp_ge (pc := 168) (tgt := 191) hX d_Mo_year_168 rfl (fun h168 => ?_) (fun h168 => False.elim (absurd (Int32.le_refl _) h168))
        refine v_iconst (pc := 191) (v := 0) hX (by decide) d_Mo_year_191 ?_
        refine v_istore (pc := 192) (lo' := [some (vR _), some (vI _), some (vI _), some (vI _), some (vI _), some (vI _), none, none, some (vI _), none]) hX (Nat.le_of_ble_eq_true rfl) rfl d_Mo_year_192 ?_
        refine VW.cast (lo' := [some (vR 36), some (vI (i3 k)), some (vI (ln k)), some (vI (i3 a)), some (vI (i3 m)), some (vI y), none, none, some (vI (i3 0)), none]) (st' := []) (G' := gM (cpF (cpF M 54 (fun i => J i 3) n) 55 (fun i => B i 2) 0)) rfl rfl (by rw [cpF_0]) ?_
        refine v_for (X := X) (head := 194) (nd) (fun kk => [some (vR 36), some (vI (i3 k)), some (vI (ln k)), some (vI (i3 a)), some (vI (i3 m)), some (vI y), none, none, some (vI (i3 kk)), none]) (fun kk => cpF (cpF M 54 (fun i => J i 3) n) 55 (fun i => B i 2) kk) (fun x hx ih194 => ?_) ?_
        · show VW X 194 [some (vR 36), some (vI (i3 k)), some (vI (ln k)), some (vI (i3 a)), some (vI (i3 m)), some (vI y), none, none, some (vI (i3 x)), none] [] (gM (cpF (cpF M 54 (fun i => J i 3) n) 55 (fun i => B i 2) x))
          refine v_iload (pc := 194) hX rfl d_Mo_year_194 ?_
          refine v_aload_n (pc := 196) hX rfl d_Mo_year_196 ?_
          refine g_getI (pc := 197) hX fl_Mo_108 rfl rfl d_Mo_year_197 ?_
          rw [cpF_ne (by decide), cpF_ne (by decide), hM7]
          refine v_icmp_ge (pc := 200) (tgt := 223) hX d_Mo_year_200 rfl (fun h200 => False.elim (i3_ge_abs hx (by omega) h200)) (fun h200 => ?_)
          refine v_aload_n (pc := 203) hX rfl d_Mo_year_203 ?_
          refine g_getR (pc := 204) hX fl_Mo_64 rfl rfl nf_36_24 d_Mo_year_204 ?_
          refine v_iload (pc := 207) hX rfl d_Mo_year_207 ?_
          refine v_aload_n (pc := 209) hX rfl d_Mo_year_209 ?_
          refine g_getR (pc := 210) hX fl_Mo_31 rfl rfl nf_36_10 d_Mo_year_210 ?_
          refine v_iload (pc := 213) hX rfl d_Mo_year_213 ?_
          refine g_iald (pc := 215) hX rfl (IX.of (n := 4) (by omega) (by decide)) d_Mo_year_215 ?_
          rw [cpF_ne (by decide), cpF_ne (by decide), show M 44 x = B x 2 from hB.2.2.1 x hx 2 (by decide)]
          refine g_iast (pc := 216) hX rfl (IX.of (n := 4) (by omega) (by decide)) d_Mo_year_216 ?_
          refine v_iinc (pc := 217) (lo' := [some (vR _), some (vI _), some (vI _), some (vI _), some (vI _), some (vI _), none, none, some (vI _), none]) hX rfl rfl d_Mo_year_217 ?_
          refine v_goto (pc := 220) (tgt := 194) hX d_Mo_year_220 rfl ?_
          exact VW.cast (by rw [i3_succ]; rfl) rfl (by rw [cpF_s]) ih194
        · show VW X 194 [some (vR 36), some (vI (i3 k)), some (vI (ln k)), some (vI (i3 a)), some (vI (i3 m)), some (vI y), none, none, some (vI (i3 (nd))), none] [] (gM (cpF (cpF M 54 (fun i => J i 3) n) 55 (fun i => B i 2) (nd)))
          refine v_iload (pc := 194) hX rfl d_Mo_year_194 ?_
          refine v_aload_n (pc := 196) hX rfl d_Mo_year_196 ?_
          refine g_getI (pc := 197) hX fl_Mo_108 rfl rfl d_Mo_year_197 ?_
          rw [cpF_ne (by decide), cpF_ne (by decide), hM7]
          refine v_icmp_ge (pc := 200) (tgt := 223) hX d_Mo_year_200 rfl (fun h200 => ?_) (fun h200 => False.elim (absurd (Int32.le_refl _) h200))
          refine v_aload_n (pc := 223) hX rfl d_Mo_year_223 ?_
          refine v_bipush (pc := 224) (v := 60) hX (by decide) d_Mo_year_224 ?_
          refine v_iload_n (pc := 226) hX rfl d_Mo_year_226 ?_
          refine v_imul (pc := 227) hX d_Mo_year_227 ?_
          refine v_iload_n (pc := 228) hX rfl d_Mo_year_228 ?_
          refine v_iadd (pc := 229) hX d_Mo_year_229 ?_
          rw [i3_60]
          refine v_iload (pc := 230) hX rfl d_Mo_year_230 ?_
          refine v_iload (pc := 232) hX rfl d_Mo_year_232 ?_
          refine f_callV (pc := 234) hX k_Mo_yearBy ki_Mo_yearBy kv_Mo_yearBy ml_Mo_215 (C_Mo_yearBy hJ1 hB1 (by omega) hq1 hm hy hpb hpj) rfl rfl rfl rfl rfl (Nat.le_of_ble_eq_true rfl) (Nat.le_of_ble_eq_true rfl) (Nat.le_of_ble_eq_true rfl) d_Mo_year_234 ?_
          refine v_istore (pc := 237) (lo' := [some (vR _), some (vI _), some (vI _), some (vI _), some (vI _), some (vI _), none, none, some (vI _), none]) hX (Nat.le_of_ble_eq_true rfl) rfl d_Mo_year_237 ?_
          refine v_iconst (pc := 239) (v := 0) hX (by decide) d_Mo_year_239 ?_
          refine v_istore (pc := 240) (lo' := [some (vR _), some (vI _), some (vI _), some (vI _), some (vI _), some (vI _), none, none, some (vI _), some (vI _)]) hX (Nat.le_of_ble_eq_true rfl) rfl d_Mo_year_240 ?_
          refine VW.cast (lo' := [some (vR 36), some (vI (i3 k)), some (vI (ln k)), some (vI (i3 a)), some (vI (i3 m)), some (vI y), none, none, some (vI (yaN n nd (yr J B pb pj m) y)), some (vI (i3 0))]) (st' := []) (G' := gM (cpF (YX (cpF (cpF M 54 (fun i => J i 3) n) 55 (fun i => B i 2) nd) n nd (yr J B pb pj m)) 40 (fun i => J i 3) 0)) rfl rfl (by rw [cpF_0]) ?_
          refine v_for (X := X) (head := 242) (n) (fun kk => [some (vR 36), some (vI (i3 k)), some (vI (ln k)), some (vI (i3 a)), some (vI (i3 m)), some (vI y), none, none, some (vI (yaN n nd (yr J B pb pj m) y)), some (vI (i3 kk))]) (fun kk => cpF (YX (cpF (cpF M 54 (fun i => J i 3) n) 55 (fun i => B i 2) nd) n nd (yr J B pb pj m)) 40 (fun i => J i 3) kk) (fun x hx ih242 => ?_) ?_
          · show VW X 242 [some (vR 36), some (vI (i3 k)), some (vI (ln k)), some (vI (i3 a)), some (vI (i3 m)), some (vI y), none, none, some (vI (yaN n nd (yr J B pb pj m) y)), some (vI (i3 x))] [] (gM (cpF (YX (cpF (cpF M 54 (fun i => J i 3) n) 55 (fun i => B i 2) nd) n nd (yr J B pb pj m)) 40 (fun i => J i 3) x))
            refine v_iload (pc := 242) hX rfl d_Mo_year_242 ?_
            refine v_aload_n (pc := 244) hX rfl d_Mo_year_244 ?_
            refine g_getI (pc := 245) hX fl_Mo_101 rfl rfl d_Mo_year_245 ?_
            rw [cpF_ne (by decide), YX_ne (by decide) (by decide), hJ1.2.1]
            refine v_icmp_ge (pc := 248) (tgt := 271) hX d_Mo_year_248 rfl (fun h248 => False.elim (i3_ge_abs hx (by omega) h248)) (fun h248 => ?_)
            refine v_aload_n (pc := 251) hX rfl d_Mo_year_251 ?_
            refine g_getR (pc := 252) hX fl_Mo_19 rfl rfl nf_36_5 d_Mo_year_252 ?_
            refine v_iload (pc := 255) hX rfl d_Mo_year_255 ?_
            refine v_aload_n (pc := 257) hX rfl d_Mo_year_257 ?_
            refine g_getR (pc := 258) hX fl_Mo_61 rfl rfl nf_36_23 d_Mo_year_258 ?_
            refine v_iload (pc := 261) hX rfl d_Mo_year_261 ?_
            refine g_iald (pc := 263) hX rfl (IX.of (n := 6) (by omega) (by decide)) d_Mo_year_263 ?_
            rw [cpF_ne (by decide), YX_ne (by decide) (by decide), cpF_ne (by decide), cpF_in hx]
            refine g_iast (pc := 264) hX rfl (IX.of (n := 6) (by omega) (by decide)) d_Mo_year_264 ?_
            refine v_iinc (pc := 265) (lo' := [some (vR _), some (vI _), some (vI _), some (vI _), some (vI _), some (vI _), none, none, some (vI _), some (vI _)]) hX rfl rfl d_Mo_year_265 ?_
            refine v_goto (pc := 268) (tgt := 242) hX d_Mo_year_268 rfl ?_
            exact VW.cast (by rw [i3_succ]; rfl) rfl (by rw [cpF_s]) ih242
          · show VW X 242 [some (vR 36), some (vI (i3 k)), some (vI (ln k)), some (vI (i3 a)), some (vI (i3 m)), some (vI y), none, none, some (vI (yaN n nd (yr J B pb pj m) y)), some (vI (i3 (n)))] [] (gM (cpF (YX (cpF (cpF M 54 (fun i => J i 3) n) 55 (fun i => B i 2) nd) n nd (yr J B pb pj m)) 40 (fun i => J i 3) (n)))
            refine v_iload (pc := 242) hX rfl d_Mo_year_242 ?_
            refine v_aload_n (pc := 244) hX rfl d_Mo_year_244 ?_
            refine g_getI (pc := 245) hX fl_Mo_101 rfl rfl d_Mo_year_245 ?_
            rw [cpF_ne (by decide), YX_ne (by decide) (by decide), hJ1.2.1]
            refine v_icmp_ge (pc := 248) (tgt := 271) hX d_Mo_year_248 rfl (fun h248 => ?_) (fun h248 => False.elim (absurd (Int32.le_refl _) h248))
            refine v_iconst (pc := 271) (v := 0) hX (by decide) d_Mo_year_271 ?_
            refine v_istore (pc := 272) (lo' := [some (vR _), some (vI _), some (vI _), some (vI _), some (vI _), some (vI _), none, none, some (vI _), some (vI _)]) hX (Nat.le_of_ble_eq_true rfl) rfl d_Mo_year_272 ?_
            refine VW.cast (lo' := [some (vR 36), some (vI (i3 k)), some (vI (ln k)), some (vI (i3 a)), some (vI (i3 m)), some (vI y), none, none, some (vI (yaN n nd (yr J B pb pj m) y)), some (vI (i3 0))]) (st' := []) (G' := gM (cpF (cpF (YX (cpF (cpF M 54 (fun i => J i 3) n) 55 (fun i => B i 2) nd) n nd (yr J B pb pj m)) 40 (fun i => J i 3) n) 44 (fun i => B i 2) 0)) rfl rfl (by rw [cpF_0]) ?_
            refine v_for (X := X) (head := 274) (nd) (fun kk => [some (vR 36), some (vI (i3 k)), some (vI (ln k)), some (vI (i3 a)), some (vI (i3 m)), some (vI y), none, none, some (vI (yaN n nd (yr J B pb pj m) y)), some (vI (i3 kk))]) (fun kk => cpF (cpF (YX (cpF (cpF M 54 (fun i => J i 3) n) 55 (fun i => B i 2) nd) n nd (yr J B pb pj m)) 40 (fun i => J i 3) n) 44 (fun i => B i 2) kk) (fun x hx ih274 => ?_) ?_
            · show VW X 274 [some (vR 36), some (vI (i3 k)), some (vI (ln k)), some (vI (i3 a)), some (vI (i3 m)), some (vI y), none, none, some (vI (yaN n nd (yr J B pb pj m) y)), some (vI (i3 x))] [] (gM (cpF (cpF (YX (cpF (cpF M 54 (fun i => J i 3) n) 55 (fun i => B i 2) nd) n nd (yr J B pb pj m)) 40 (fun i => J i 3) n) 44 (fun i => B i 2) x))
              refine v_iload (pc := 274) hX rfl d_Mo_year_274 ?_
              refine v_aload_n (pc := 276) hX rfl d_Mo_year_276 ?_
              refine g_getI (pc := 277) hX fl_Mo_108 rfl rfl d_Mo_year_277 ?_
              rw [cpF_ne (by decide), cpF_ne (by decide), YX_ne (by decide) (by decide), hB1.2.1]
              refine v_icmp_ge (pc := 280) (tgt := 303) hX d_Mo_year_280 rfl (fun h280 => False.elim (i3_ge_abs hx (by omega) h280)) (fun h280 => ?_)
              refine v_aload_n (pc := 283) hX rfl d_Mo_year_283 ?_
              refine g_getR (pc := 284) hX fl_Mo_31 rfl rfl nf_36_10 d_Mo_year_284 ?_
              refine v_iload (pc := 287) hX rfl d_Mo_year_287 ?_
              refine v_aload_n (pc := 289) hX rfl d_Mo_year_289 ?_
              refine g_getR (pc := 290) hX fl_Mo_64 rfl rfl nf_36_24 d_Mo_year_290 ?_
              refine v_iload (pc := 293) hX rfl d_Mo_year_293 ?_
              refine g_iald (pc := 295) hX rfl (IX.of (n := 4) (by omega) (by decide)) d_Mo_year_295 ?_
              rw [cpF_ne (by decide), cpF_ne (by decide), YX_ne (by decide) (by decide), cpF_in hx]
              refine g_iast (pc := 296) hX rfl (IX.of (n := 4) (by omega) (by decide)) d_Mo_year_296 ?_
              refine v_iinc (pc := 297) (lo' := [some (vR _), some (vI _), some (vI _), some (vI _), some (vI _), some (vI _), none, none, some (vI _), some (vI _)]) hX rfl rfl d_Mo_year_297 ?_
              refine v_goto (pc := 300) (tgt := 274) hX d_Mo_year_300 rfl ?_
              exact VW.cast (by rw [i3_succ]; rfl) rfl (by rw [cpF_s]) ih274
            · show VW X 274 [some (vR 36), some (vI (i3 k)), some (vI (ln k)), some (vI (i3 a)), some (vI (i3 m)), some (vI y), none, none, some (vI (yaN n nd (yr J B pb pj m) y)), some (vI (i3 (nd)))] [] (gM (cpF (cpF (YX (cpF (cpF M 54 (fun i => J i 3) n) 55 (fun i => B i 2) nd) n nd (yr J B pb pj m)) 40 (fun i => J i 3) n) 44 (fun i => B i 2) (nd)))
              rw [YX_end hJ1 hB1]
              refine v_iload (pc := 274) hX rfl d_Mo_year_274 ?_
              refine v_aload_n (pc := 276) hX rfl d_Mo_year_276 ?_
              refine g_getI (pc := 277) hX fl_Mo_108 rfl rfl d_Mo_year_277 ?_
              rw [hB1.2.1]
              refine v_icmp_ge (pc := 280) (tgt := 303) hX d_Mo_year_280 rfl (fun h280 => ?_) (fun h280 => False.elim (absurd (Int32.le_refl _) h280))
              refine v_aload_n (pc := 303) hX rfl d_Mo_year_303 ?_
              refine v_iload (pc := 304) hX rfl d_Mo_year_304 ?_
              refine f_callV (pc := 306) hX k_Mo_refused ki_Mo_refused kv_Mo_refused ml_Mo_149 (C_Mo_refused) rfl rfl rfl rfl rfl (Nat.le_of_ble_eq_true rfl) (Nat.le_of_ble_eq_true rfl) (Nat.le_of_ble_eq_true rfl) d_Mo_year_306 ?_
              exact f_iret (pc := 309) hX hR (rfl) (rfl) d_Mo_year_309
