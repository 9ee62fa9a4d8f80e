/-! The model: jars and deciders of a text. -/
-- the model's reading of a text: at r, x jars and y deciders read, the deciders from place P on
def RS (M : MM) (q : Nat → Int32) (r x y P : Nat) : MM := fun a i => if a = 36 ∧ i = 12 then i3 r else if a = 36 ∧ i = 13 then i3 x else if a = 36 ∧ i = 14 then i3 y else if 46 ≤ a ∧ a ≤ 50 ∧ i < x then tJf q (1 + 6 * i) (a - 46) else if 51 ≤ a ∧ a ≤ 53 ∧ i < y then tDf q (P + 5 * i) (a - 51) else M a i
theorem RS_12 {M : MM} {q : Nat → Int32} {r x y P : Nat} : RS M q r x y P 36 12 = i3 r := if_pos ⟨rfl, rfl⟩
theorem RS_13 {M : MM} {q : Nat → Int32} {r x y P : Nat} : RS M q r x y P 36 13 = i3 x := by
  unfold RS; rw [if_neg (by omega), if_pos ⟨rfl, rfl⟩]
theorem RS_14 {M : MM} {q : Nat → Int32} {r x y P : Nat} : RS M q r x y P 36 14 = i3 y := by
  unfold RS; rw [if_neg (by omega), if_neg (by omega), if_pos ⟨rfl, rfl⟩]
theorem RS_ne {M : MM} {q : Nat → Int32} {r x y P a i : Nat} (h : a ≠ 36 ∨ (i ≠ 12 ∧ i ≠ 13 ∧ i ≠ 14)) (h2 : a < 46 ∨ 53 < a) : RS M q r x y P a i = M a i := by
  unfold RS; rw [if_neg (by omega), if_neg (by omega), if_neg (by omega), if_neg (by omega), if_neg (by omega)]
theorem RS_at {M : MM} {q : Nat → Int32} {r r' x y P : Nat} : upM (RS M q r x y P) 36 12 (i3 r') = RS M q r' x y P := by
  funext a i
  simp only [upM, RS]
  by_cases h : a = 36 ∧ i = 12
  · rw [if_pos h, if_pos h]
  · rw [if_neg h, if_neg h, if_neg h]
theorem RS_0 {M : MM} {q : Nat → Int32} {P : Nat} : upM (upM (upM M 36 12 0) 36 13 0) 36 14 0 = RS M q 0 0 0 P := by
  funext a i
  simp only [upM, RS]
  by_cases h : a = 36 ∧ i = 14
  · rw [if_pos h, if_neg (by omega), if_neg (by omega), if_pos h]; rfl
  · rw [if_neg h]
    by_cases h2 : a = 36 ∧ i = 13
    · rw [if_pos h2, if_neg (by omega), if_pos h2]; rfl
    · rw [if_neg h2]
      by_cases h3 : a = 36 ∧ i = 12
      · rw [if_pos h3, if_pos h3]; rfl
      · rw [if_neg h3, if_neg h3, if_neg h2, if_neg h, if_neg (by omega), if_neg (by omega)]
theorem RS_P {M : MM} {q : Nat → Int32} {r x P P' : Nat} : RS M q r x 0 P = RS M q r x 0 P' := by
  funext a i
  simp only [RS]
  by_cases h : 51 ≤ a ∧ a ≤ 53 ∧ i < 0
  · omega
  · rw [if_neg h, if_neg h]
theorem RS_J {M : MM} {q : Nat → Int32} {r x y P : Nat} {v0 v1 v2 v3 v4 : Int32} (h0 : v0 = tJf q (1 + 6 * x) 0) (h1 : v1 = tJf q (1 + 6 * x) 1) (h2 : v2 = tJf q (1 + 6 * x) 2) (h3 : v3 = tJf q (1 + 6 * x) 3) (h4 : v4 = tJf q (1 + 6 * x) 4) :
    upM (upM (upM (upM (upM (upM (RS M q r x y P) 46 x v0) 47 x v1) 48 x v2) 49 x v3) 50 x v4) 36 13 (i3 x + 1) = RS M q r (x + 1) y P := by
  subst h0; subst h1; subst h2; subst h3; subst h4
  funext a i
  simp only [upM, RS, ← i3_succ]
  by_cases c : a = 36 ∧ i = 13
  · rw [if_pos c, if_neg (by omega), if_pos c]
  · rw [if_neg c]
    by_cases c4 : a = 50 ∧ i = x
    · rw [if_pos c4, if_neg (by omega), if_neg (by omega), if_neg (by omega), if_pos (by omega), c4.1, c4.2]
    · rw [if_neg c4]
      by_cases c3 : a = 49 ∧ i = x
      · rw [if_pos c3, if_neg (by omega), if_neg (by omega), if_neg (by omega), if_pos (by omega), c3.1, c3.2]
      · rw [if_neg c3]
        by_cases c2 : a = 48 ∧ i = x
        · rw [if_pos c2, if_neg (by omega), if_neg (by omega), if_neg (by omega), if_pos (by omega), c2.1, c2.2]
        · rw [if_neg c2]
          by_cases c1 : a = 47 ∧ i = x
          · rw [if_pos c1, if_neg (by omega), if_neg (by omega), if_neg (by omega), if_pos (by omega), c1.1, c1.2]
          · rw [if_neg c1]
            by_cases c0 : a = 46 ∧ i = x
            · rw [if_pos c0, if_neg (by omega), if_neg (by omega), if_neg (by omega), if_pos (by omega), c0.1, c0.2]
            · rw [if_neg c0]
              by_cases d1 : a = 36 ∧ i = 12
              · rw [if_pos d1, if_pos d1]
              · rw [if_neg d1, if_neg d1, if_neg c, if_neg c]
                by_cases d2 : a = 36 ∧ i = 14
                · rw [if_pos d2, if_pos d2]
                · rw [if_neg d2, if_neg d2]
                  by_cases d3 : 46 ≤ a ∧ a ≤ 50 ∧ i < x
                  · rw [if_pos d3, if_pos (by omega)]
                  · rw [if_neg d3, if_neg (show ¬ (46 ≤ a ∧ a ≤ 50 ∧ i < x + 1) by omega)]
theorem RS_D {M : MM} {q : Nat → Int32} {r x y P : Nat} {v0 v1 v2 : Int32} (h0 : v0 = tDf q (P + 5 * y) 0) (h1 : v1 = tDf q (P + 5 * y) 1) (h2 : v2 = tDf q (P + 5 * y) 2) :
    upM (upM (upM (upM (RS M q r x y P) 51 y v0) 52 y v1) 53 y v2) 36 14 (i3 y + 1) = RS M q r x (y + 1) P := by
  subst h0; subst h1; subst h2
  funext a i
  simp only [upM, RS, ← i3_succ]
  by_cases c : a = 36 ∧ i = 14
  · rw [if_pos c, if_neg (by omega), if_neg (by omega), if_pos c]
  · rw [if_neg c]
    by_cases c2 : a = 53 ∧ i = y
    · rw [if_pos c2, if_neg (by omega), if_neg (by omega), if_neg (by omega), if_neg (by omega), if_pos (by omega), c2.1, c2.2]
    · rw [if_neg c2]
      by_cases c1 : a = 52 ∧ i = y
      · rw [if_pos c1, if_neg (by omega), if_neg (by omega), if_neg (by omega), if_neg (by omega), if_pos (by omega), c1.1, c1.2]
      · rw [if_neg c1]
        by_cases c0 : a = 51 ∧ i = y
        · rw [if_pos c0, if_neg (by omega), if_neg (by omega), if_neg (by omega), if_neg (by omega), if_pos (by omega), c0.1, c0.2]
        · rw [if_neg c0]
          by_cases d1 : a = 36 ∧ i = 12
          · rw [if_pos d1, if_pos d1]
          · rw [if_neg d1, if_neg d1]
            by_cases d2 : a = 36 ∧ i = 13
            · rw [if_pos d2, if_pos d2]
            · rw [if_neg d2, if_neg d2, if_neg c, if_neg c]
              by_cases d3 : 46 ≤ a ∧ a ≤ 50 ∧ i < x
              · rw [if_pos d3, if_pos d3]
              · rw [if_neg d3, if_neg d3]
                by_cases d4 : 51 ≤ a ∧ a ≤ 53 ∧ i < y
                · rw [if_pos d4, if_pos (by omega)]
                · rw [if_neg d4, if_neg (by omega)]
def cdA (q : Nat → Int32) (m r : Nat) : Int32 := if r < m then q r else -9
theorem cdA_st {q : Nat → Int32} {m r : Nat} {sg : Int32} (h : -9 ≠ sg) : cdA q m r = sg ↔ stB q m r sg = true := by
  unfold cdA stB
  by_cases e : r < m
  · rw [if_pos e, decide_eq_true e]; simp
  · rw [if_neg e, decide_eq_false e]; simp [h]
theorem cdA_dg {q : Nat → Int32} {m r : Nat} : rg (cdA q m r - 48) 0 9 = dgB q m r := by
  unfold cdA dgB
  by_cases e : r < m
  · rw [if_pos e, decide_eq_true e]; rfl
  · rw [if_neg e, decide_eq_false e]; rfl
theorem d_Mo_codeAt_0 : decode c_Mo_codeAt 0 = .ok (.aload_n 0, 1) := by decide +kernel
theorem d_Mo_codeAt_1 : decode c_Mo_codeAt 1 = .ok (.getfield 111, 3) := by decide +kernel
theorem d_Mo_codeAt_4 : decode c_Mo_codeAt 4 = .ok (.iload_n 2, 1) := by decide +kernel
theorem d_Mo_codeAt_5 : decode c_Mo_codeAt 5 = .ok (.if_icmp .ge 17, 3) := by decide +kernel
theorem d_Mo_codeAt_8 : decode c_Mo_codeAt 8 = .ok (.aload_n 0, 1) := by decide +kernel
theorem d_Mo_codeAt_9 : decode c_Mo_codeAt 9 = .ok (.getfield 85, 3) := by decide +kernel
theorem d_Mo_codeAt_12 : decode c_Mo_codeAt 12 = .ok (.iload_n 1, 1) := by decide +kernel
theorem d_Mo_codeAt_13 : decode c_Mo_codeAt 13 = .ok (.aload_n 0, 1) := by decide +kernel
theorem d_Mo_codeAt_14 : decode c_Mo_codeAt 14 = .ok (.getfield 111, 3) := by decide +kernel
theorem d_Mo_codeAt_17 : decode c_Mo_codeAt 17 = .ok (.iadd, 1) := by decide +kernel
theorem d_Mo_codeAt_18 : decode c_Mo_codeAt 18 = .ok (.iaload, 1) := by decide +kernel
theorem d_Mo_codeAt_19 : decode c_Mo_codeAt 19 = .ok (.goto 5, 3) := by decide +kernel
theorem d_Mo_codeAt_22 : decode c_Mo_codeAt 22 = .ok (.bipush (-9), 2) := by decide +kernel
theorem d_Mo_codeAt_24 : decode c_Mo_codeAt 24 = .ok (.ireturn, 1) := by decide +kernel
theorem C_Mo_codeAt {M : MM} {F m r x y P : Nat} {q : Nat → Int32} (hF : F + m ≤ 240) (hm : m ≤ 60) (hq : ∀ t, t < m → M 62 (F + t) = q t) (hr : r ≤ 100) : AF y_Mo_codeAt c_Mo_codeAt 3 (some .int) 1 [vR 36, vI (i3 F), vI (i3 m)] (RS M q r x y P) (some (vI (cdA q m r))) (RS M q r x y P) := by
  refine AF.of k_Mo_codeAt (lo := [some (vR 36), some (vI (i3 F)), some (vI (i3 m))]) rfl (Nat.le_of_ble_eq_true rfl) (fun X hX hR => ?_)
  refine v_aload_n (pc := 0) hX rfl d_Mo_codeAt_0 ?_
  refine g_getI (pc := 1) hX fl_Mo_111 rfl rfl d_Mo_codeAt_1 ?_
  rw [RS_12]
  refine v_iload_n (pc := 4) hX rfl d_Mo_codeAt_4 ?_
  refine v_icmp_ge (pc := 5) (tgt := 22) hX d_Mo_codeAt_5 rfl (fun h5 => ?_) (fun h5 => ?_)
  · have e : ¬ r < m := Nat.not_lt.mpr ((i3_le (by omega) (by omega)).mp h5)
    refine v_bipush (pc := 22) (v := (-9)) hX (by decide) d_Mo_codeAt_22 ?_
    exact f_iret (pc := 24) hX hR (by unfold cdA; first | (rw [if_pos e, RS_ne (by omega) (by omega)]; exact hq r e) | (rw [if_neg e])) (rfl) d_Mo_codeAt_24
  · have e : r < m := Nat.lt_of_not_le (fun w => h5 ((i3_le (by omega) (by omega)).mpr w))
    refine v_aload_n (pc := 8) hX rfl d_Mo_codeAt_8 ?_
    refine g_getR (pc := 9) hX fl_Mo_85 rfl rfl nf_36_33 d_Mo_codeAt_9 ?_
    refine v_iload_n (pc := 12) hX rfl d_Mo_codeAt_12 ?_
    refine v_aload_n (pc := 13) hX rfl d_Mo_codeAt_13 ?_
    refine g_getI (pc := 14) hX fl_Mo_111 rfl rfl d_Mo_codeAt_14 ?_
    rw [RS_12]
    refine v_iadd (pc := 17) hX d_Mo_codeAt_17 ?_
    rw [← i3_add]
    refine g_iald (pc := 18) hX rfl (IX.of (n := 240) (by omega) (by decide)) d_Mo_codeAt_18 ?_
    refine v_goto (pc := 19) (tgt := 24) hX d_Mo_codeAt_19 rfl ?_
    exact f_iret (pc := 24) hX hR (by unfold cdA; first | (rw [if_pos e, RS_ne (by omega) (by omega)]; exact hq r e) | (rw [if_neg e])) (rfl) d_Mo_codeAt_24
theorem d_Mo_figure_0 : decode c_Mo_figure 0 = .ok (.iload_n 3, 1) := by decide +kernel
theorem d_Mo_figure_1 : decode c_Mo_figure 1 = .ok (.ifCond .ge 8, 3) := by decide +kernel
theorem d_Mo_figure_4 : decode c_Mo_figure 4 = .ok (.bipush (-9), 2) := by decide +kernel
theorem d_Mo_figure_6 : decode c_Mo_figure 6 = .ok (.goto 12, 3) := by decide +kernel
theorem d_Mo_figure_9 : decode c_Mo_figure 9 = .ok (.aload_n 0, 1) := by decide +kernel
theorem d_Mo_figure_10 : decode c_Mo_figure 10 = .ok (.iload_n 1, 1) := by decide +kernel
theorem d_Mo_figure_11 : decode c_Mo_figure 11 = .ok (.iload_n 2, 1) := by decide +kernel
theorem d_Mo_figure_12 : decode c_Mo_figure 12 = .ok (.invokevirtual 114, 3) := by decide +kernel
theorem d_Mo_figure_15 : decode c_Mo_figure 15 = .ok (.bipush 48, 2) := by decide +kernel
theorem d_Mo_figure_17 : decode c_Mo_figure 17 = .ok (.isub, 1) := by decide +kernel
theorem d_Mo_figure_18 : decode c_Mo_figure 18 = .ok (.istore 4, 2) := by decide +kernel
theorem d_Mo_figure_20 : decode c_Mo_figure 20 = .ok (.iload 4, 2) := by decide +kernel
theorem d_Mo_figure_22 : decode c_Mo_figure 22 = .ok (.i2l, 1) := by decide +kernel
theorem d_Mo_figure_23 : decode c_Mo_figure 23 = .ok (.lconst 0, 1) := by decide +kernel
theorem d_Mo_figure_24 : decode c_Mo_figure 24 = .ok (.ldc2_w 118, 3) := by decide +kernel
theorem d_Mo_figure_27 : decode c_Mo_figure 27 = .ok (.invokestatic 104, 3) := by decide +kernel
theorem d_Mo_figure_30 : decode c_Mo_figure 30 = .ok (.istore 5, 2) := by decide +kernel
theorem d_Mo_figure_32 : decode c_Mo_figure 32 = .ok (.aload_n 0, 1) := by decide +kernel
theorem d_Mo_figure_33 : decode c_Mo_figure 33 = .ok (.dup, 1) := by decide +kernel
theorem d_Mo_figure_34 : decode c_Mo_figure 34 = .ok (.getfield 111, 3) := by decide +kernel
theorem d_Mo_figure_37 : decode c_Mo_figure 37 = .ok (.iload 5, 2) := by decide +kernel
theorem d_Mo_figure_39 : decode c_Mo_figure 39 = .ok (.ifCond .eq 7, 3) := by decide +kernel
theorem d_Mo_figure_42 : decode c_Mo_figure 42 = .ok (.iconst 1, 1) := by decide +kernel
theorem d_Mo_figure_43 : decode c_Mo_figure 43 = .ok (.goto 4, 3) := by decide +kernel
theorem d_Mo_figure_46 : decode c_Mo_figure 46 = .ok (.iconst 0, 1) := by decide +kernel
theorem d_Mo_figure_47 : decode c_Mo_figure 47 = .ok (.iadd, 1) := by decide +kernel
theorem d_Mo_figure_48 : decode c_Mo_figure 48 = .ok (.putfield 111, 3) := by decide +kernel
theorem d_Mo_figure_51 : decode c_Mo_figure 51 = .ok (.iload 5, 2) := by decide +kernel
theorem d_Mo_figure_53 : decode c_Mo_figure 53 = .ok (.ifCond .eq 8, 3) := by decide +kernel
theorem d_Mo_figure_56 : decode c_Mo_figure 56 = .ok (.iload 4, 2) := by decide +kernel
theorem d_Mo_figure_58 : decode c_Mo_figure 58 = .ok (.goto 5, 3) := by decide +kernel
theorem d_Mo_figure_61 : decode c_Mo_figure 61 = .ok (.bipush (-9), 2) := by decide +kernel
theorem d_Mo_figure_63 : decode c_Mo_figure 63 = .ok (.ireturn, 1) := by decide +kernel
theorem C_Mo_figY {M : MM} {F m r x y P : Nat} {q : Nat → Int32} (hF : F + m ≤ 240) (hm : m ≤ 60) (hq : ∀ t, t < m → M 62 (F + t) = q t) {ah : Int32} (hr : r ≤ 100) (ha : 0 ≤ ah) (hd : dgB q m r = true) : AF y_Mo_figure c_Mo_figure 6 (some .int) 2 [vR 36, vI (i3 F), vI (i3 m), vI ah] (RS M q r x y P) (some (vI (q r - 48))) (RS M q (r + 1) x y P) := by
  have hrm := dg_lt hd
  refine AF.of k_Mo_figure (lo := [some (vR 36), some (vI (i3 F)), some (vI (i3 m)), some (vI ah), none, none]) rfl (Nat.le_of_ble_eq_true rfl) (fun X hX hR => ?_)
  refine v_iload_n (pc := 0) hX rfl d_Mo_figure_0 ?_
  refine v_if_ge (pc := 1) (tgt := 9) hX d_Mo_figure_1 rfl (fun h1 => ?_) (fun h1 => False.elim (h1 ha))
  refine v_aload_n (pc := 9) hX rfl d_Mo_figure_9 ?_
  refine v_iload_n (pc := 10) hX rfl d_Mo_figure_10 ?_
  refine v_iload_n (pc := 11) hX rfl d_Mo_figure_11 ?_
  refine f_callV (pc := 12) hX k_Mo_codeAt ki_Mo_codeAt kv_Mo_codeAt ml_Mo_114 (C_Mo_codeAt hF hm hq (by omega)) rfl rfl rfl rfl rfl (Nat.le_of_ble_eq_true rfl) (Nat.le_of_ble_eq_true rfl) (Nat.le_of_ble_eq_true rfl) d_Mo_figure_12 ?_
  refine v_bipush (pc := 15) (v := 48) hX (by decide) d_Mo_figure_15 ?_
  refine v_isub (pc := 17) hX d_Mo_figure_17 ?_
  have hdg := cdA_dg (q := q) (m := m) (r := r)
  refine v_istore (pc := 18) (lo' := [some (vR _), some (vI _), some (vI _), some (vI _), some (vI _), none]) hX (Nat.le_of_ble_eq_true rfl) rfl d_Mo_figure_18 ?_
  refine v_iload (pc := 20) hX rfl d_Mo_figure_20 ?_
  refine v_i2l (pc := 22) hX d_Mo_figure_22 ?_
  refine v_lconst (pc := 23) (v := 0) hX (by decide) d_Mo_figure_23 ?_
  refine v_ldc2_w (pc := 24) hX kl_Mo_118 d_Mo_figure_24 ?_
  refine f_callS (pc := 27) hX k_Mo_in ks_Mo_in ml_Mo_104 (C_Mo_in) rfl rfl rfl (Nat.le_of_ble_eq_true rfl) (Nat.le_of_ble_eq_true rfl) (Nat.le_of_ble_eq_true rfl) d_Mo_figure_27 ?_
  rw [rL_rg (L := 0) (H := 9) rfl rfl, cdA_dg, hd]
  refine v_istore (pc := 30) (lo' := [some (vR _), some (vI _), some (vI _), some (vI _), some (vI _), some (vI _)]) hX (Nat.le_of_ble_eq_true rfl) rfl d_Mo_figure_30 ?_
  refine v_aload_n (pc := 32) hX rfl d_Mo_figure_32 ?_
  refine v_dup (pc := 33) hX rfl d_Mo_figure_33 ?_
  refine g_getI (pc := 34) hX fl_Mo_111 rfl rfl d_Mo_figure_34 ?_
  rw [RS_12]
  refine v_iload (pc := 37) hX rfl d_Mo_figure_37 ?_
  refine f_ifeqB (pc := 39) (tgt := 46) hX d_Mo_figure_39 rfl (fun h39 => False.elim (absurd h39 (by decide))) (fun h39 => ?_)
  refine v_iconst (pc := 42) (v := 1) hX (by decide) d_Mo_figure_42 ?_
  refine v_goto (pc := 43) (tgt := 47) hX d_Mo_figure_43 rfl ?_
  refine v_iadd (pc := 47) hX d_Mo_figure_47 ?_
  refine g_putI (pc := 48) hX fl_Mo_111 rfl (finI rfl rfl) rfl rfl rfl d_Mo_figure_48 ?_
  rw [show i3 r + 1 = i3 (r + 1) from (i3_succ r).symm, RS_at]
  refine v_iload (pc := 51) hX rfl d_Mo_figure_51 ?_
  refine f_ifeqB (pc := 53) (tgt := 61) hX d_Mo_figure_53 rfl (fun h53 => False.elim (absurd h53 (by decide))) (fun h53 => ?_)
  refine v_iload (pc := 56) hX rfl d_Mo_figure_56 ?_
  refine v_goto (pc := 58) (tgt := 63) hX d_Mo_figure_58 rfl ?_
  exact f_iret (pc := 63) hX hR (by unfold cdA; rw [if_pos hrm]) (rfl) d_Mo_figure_63
theorem C_Mo_figN {M : MM} {F m r x y P : Nat} {q : Nat → Int32} (hF : F + m ≤ 240) (hm : m ≤ 60) (hq : ∀ t, t < m → M 62 (F + t) = q t) {ah : Int32} (hr : r ≤ 100) (ha : 0 ≤ ah) (hd : dgB q m r = false) : AF y_Mo_figure c_Mo_figure 6 (some .int) 2 [vR 36, vI (i3 F), vI (i3 m), vI ah] (RS M q r x y P) (some (vI (-9))) (RS M q r x y P) := by
  refine AF.of k_Mo_figure (lo := [some (vR 36), some (vI (i3 F)), some (vI (i3 m)), some (vI ah), none, none]) rfl (Nat.le_of_ble_eq_true rfl) (fun X hX hR => ?_)
  refine v_iload_n (pc := 0) hX rfl d_Mo_figure_0 ?_
  refine v_if_ge (pc := 1) (tgt := 9) hX d_Mo_figure_1 rfl (fun h1 => ?_) (fun h1 => False.elim (h1 ha))
  refine v_aload_n (pc := 9) hX rfl d_Mo_figure_9 ?_
  refine v_iload_n (pc := 10) hX rfl d_Mo_figure_10 ?_
  refine v_iload_n (pc := 11) hX rfl d_Mo_figure_11 ?_
  refine f_callV (pc := 12) hX k_Mo_codeAt ki_Mo_codeAt kv_Mo_codeAt ml_Mo_114 (C_Mo_codeAt hF hm hq (by omega)) rfl rfl rfl rfl rfl (Nat.le_of_ble_eq_true rfl) (Nat.le_of_ble_eq_true rfl) (Nat.le_of_ble_eq_true rfl) d_Mo_figure_12 ?_
  refine v_bipush (pc := 15) (v := 48) hX (by decide) d_Mo_figure_15 ?_
  refine v_isub (pc := 17) hX d_Mo_figure_17 ?_
  have hdg := cdA_dg (q := q) (m := m) (r := r)
  refine v_istore (pc := 18) (lo' := [some (vR _), some (vI _), some (vI _), some (vI _), some (vI _), none]) hX (Nat.le_of_ble_eq_true rfl) rfl d_Mo_figure_18 ?_
  refine v_iload (pc := 20) hX rfl d_Mo_figure_20 ?_
  refine v_i2l (pc := 22) hX d_Mo_figure_22 ?_
  refine v_lconst (pc := 23) (v := 0) hX (by decide) d_Mo_figure_23 ?_
  refine v_ldc2_w (pc := 24) hX kl_Mo_118 d_Mo_figure_24 ?_
  refine f_callS (pc := 27) hX k_Mo_in ks_Mo_in ml_Mo_104 (C_Mo_in) rfl rfl rfl (Nat.le_of_ble_eq_true rfl) (Nat.le_of_ble_eq_true rfl) (Nat.le_of_ble_eq_true rfl) d_Mo_figure_27 ?_
  rw [rL_rg (L := 0) (H := 9) rfl rfl, cdA_dg, hd]
  refine v_istore (pc := 30) (lo' := [some (vR _), some (vI _), some (vI _), some (vI _), some (vI _), some (vI _)]) hX (Nat.le_of_ble_eq_true rfl) rfl d_Mo_figure_30 ?_
  refine v_aload_n (pc := 32) hX rfl d_Mo_figure_32 ?_
  refine v_dup (pc := 33) hX rfl d_Mo_figure_33 ?_
  refine g_getI (pc := 34) hX fl_Mo_111 rfl rfl d_Mo_figure_34 ?_
  rw [RS_12]
  refine v_iload (pc := 37) hX rfl d_Mo_figure_37 ?_
  refine f_ifeqB (pc := 39) (tgt := 46) hX d_Mo_figure_39 rfl (fun h39 => ?_) (fun h39 => False.elim (absurd h39 (by decide)))
  refine v_iconst (pc := 46) (v := 0) hX (by decide) d_Mo_figure_46 ?_
  refine v_iadd (pc := 47) hX d_Mo_figure_47 ?_
  refine g_putI (pc := 48) hX fl_Mo_111 rfl (finI rfl rfl) rfl rfl rfl d_Mo_figure_48 ?_
  rw [Int32.add_zero, RS_at]
  refine v_iload (pc := 51) hX rfl d_Mo_figure_51 ?_
  refine f_ifeqB (pc := 53) (tgt := 61) hX d_Mo_figure_53 rfl (fun h53 => ?_) (fun h53 => False.elim (absurd h53 (by decide)))
  refine v_bipush (pc := 61) (v := (-9)) hX (by decide) d_Mo_figure_61 ?_
  exact f_iret (pc := 63) hX hR (rfl) (rfl) d_Mo_figure_63
theorem C_Mo_figX {M : MM} {F m r x y P : Nat} {q : Nat → Int32} (hF : F + m ≤ 240) (hm : m ≤ 60) (hq : ∀ t, t < m → M 62 (F + t) = q t) : AF y_Mo_figure c_Mo_figure 6 (some .int) 2 [vR 36, vI (i3 F), vI (i3 m), vI (-9)] (RS M q r x y P) (some (vI (-9))) (RS M q r x y P) := by
  refine AF.of k_Mo_figure (lo := [some (vR 36), some (vI (i3 F)), some (vI (i3 m)), some (vI (-9)), none, none]) rfl (Nat.le_of_ble_eq_true rfl) (fun X hX hR => ?_)
  refine v_iload_n (pc := 0) hX rfl d_Mo_figure_0 ?_
  refine v_if_ge (pc := 1) (tgt := 9) hX d_Mo_figure_1 rfl (fun h1 => False.elim (absurd h1 (by decide))) (fun h1 => ?_)
  refine v_bipush (pc := 4) (v := (-9)) hX (by decide) d_Mo_figure_4 ?_
  refine v_goto (pc := 6) (tgt := 18) hX d_Mo_figure_6 rfl ?_
  refine v_istore (pc := 18) (lo' := [some (vR _), some (vI _), some (vI _), some (vI _), some (vI _), none]) hX (Nat.le_of_ble_eq_true rfl) rfl d_Mo_figure_18 ?_
  refine v_iload (pc := 20) hX rfl d_Mo_figure_20 ?_
  refine v_i2l (pc := 22) hX d_Mo_figure_22 ?_
  refine v_lconst (pc := 23) (v := 0) hX (by decide) d_Mo_figure_23 ?_
  refine v_ldc2_w (pc := 24) hX kl_Mo_118 d_Mo_figure_24 ?_
  refine f_callS (pc := 27) hX k_Mo_in ks_Mo_in ml_Mo_104 (C_Mo_in) rfl rfl rfl (Nat.le_of_ble_eq_true rfl) (Nat.le_of_ble_eq_true rfl) (Nat.le_of_ble_eq_true rfl) d_Mo_figure_27 ?_
  rw [show rL (Int32.toInt64 (-9)) 0 9 = false from rfl]
  refine v_istore (pc := 30) (lo' := [some (vR _), some (vI _), some (vI _), some (vI _), some (vI _), some (vI _)]) hX (Nat.le_of_ble_eq_true rfl) rfl d_Mo_figure_30 ?_
  refine v_aload_n (pc := 32) hX rfl d_Mo_figure_32 ?_
  refine v_dup (pc := 33) hX rfl d_Mo_figure_33 ?_
  refine g_getI (pc := 34) hX fl_Mo_111 rfl rfl d_Mo_figure_34 ?_
  rw [RS_12]
  refine v_iload (pc := 37) hX rfl d_Mo_figure_37 ?_
  refine f_ifeqB (pc := 39) (tgt := 46) hX d_Mo_figure_39 rfl (fun h39 => ?_) (fun h39 => False.elim (absurd h39 (by decide)))
  refine v_iconst (pc := 46) (v := 0) hX (by decide) d_Mo_figure_46 ?_
  refine v_iadd (pc := 47) hX d_Mo_figure_47 ?_
  refine g_putI (pc := 48) hX fl_Mo_111 rfl (finI rfl rfl) rfl rfl rfl d_Mo_figure_48 ?_
  rw [Int32.add_zero, RS_at]
  refine v_iload (pc := 51) hX rfl d_Mo_figure_51 ?_
  refine f_ifeqB (pc := 53) (tgt := 61) hX d_Mo_figure_53 rfl (fun h53 => ?_) (fun h53 => False.elim (absurd h53 (by decide)))
  refine v_bipush (pc := 61) (v := (-9)) hX (by decide) d_Mo_figure_61 ?_
  exact f_iret (pc := 63) hX hR (rfl) (rfl) d_Mo_figure_63
theorem dg_ge {q : Nat → Int32} {m r : Nat} (h : dgB q m r = true) : 0 ≤ q r - 48 := by
  unfold dgB at h
  simp only [Bool.and_eq_true, rg_true] at h
  rw [le32, q_0]; exact h.2.1
theorem chs_4 {P : Nat → Bool} (h : chs P 4 < 4) : chs P 4 = 0 ∨ chs P 4 = 1 ∨ chs P 4 = 2 ∨ chs P 4 = 3 := by omega
theorem kc_ok {q : Nat → Int32} {m p : Nat} : (cdA q m p = 108 ∨ cdA q m p = 119 ∨ cdA q m p = 112) ↔ (p < m ∧ kcN (q p) ≠ -9) := by
  unfold cdA kcN
  by_cases e : p < m
  · rw [if_pos e]
    constructor
    · intro h
      refine ⟨e, ?_⟩
      rcases h with h | h | h <;> rw [h] <;> decide
    · rintro ⟨-, h⟩
      by_cases h1 : q p = 108
      · exact Or.inl h1
      · by_cases h2 : q p = 112
        · exact Or.inr (Or.inr h2)
        · by_cases h3 : q p = 119
          · exact Or.inr (Or.inl h3)
          · rw [if_neg h1, if_neg h2, if_neg h3] at h; exact absurd rfl h
  · rw [if_neg e]
    constructor
    · intro h; rcases h with h | h | h <;> exact absurd h (by decide)
    · rintro ⟨h, -⟩; exact absurd h e
theorem d_Mo_readsJar_0 : decode c_Mo_readsJar 0 = .ok (.aload_n 0, 1) := by decide +kernel
theorem d_Mo_readsJar_1 : decode c_Mo_readsJar 1 = .ok (.getfield 120, 3) := by decide +kernel
theorem d_Mo_readsJar_4 : decode c_Mo_readsJar 4 = .ok (.bipush 6, 2) := by decide +kernel
theorem d_Mo_readsJar_6 : decode c_Mo_readsJar 6 = .ok (.if_icmp .eq 14, 3) := by decide +kernel
theorem d_Mo_readsJar_9 : decode c_Mo_readsJar 9 = .ok (.aload_n 0, 1) := by decide +kernel
theorem d_Mo_readsJar_10 : decode c_Mo_readsJar 10 = .ok (.iload_n 1, 1) := by decide +kernel
theorem d_Mo_readsJar_11 : decode c_Mo_readsJar 11 = .ok (.iload_n 2, 1) := by decide +kernel
theorem d_Mo_readsJar_12 : decode c_Mo_readsJar 12 = .ok (.invokevirtual 114, 3) := by decide +kernel
theorem d_Mo_readsJar_15 : decode c_Mo_readsJar 15 = .ok (.bipush 59, 2) := by decide +kernel
theorem d_Mo_readsJar_17 : decode c_Mo_readsJar 17 = .ok (.if_icmp .eq 5, 3) := by decide +kernel
theorem d_Mo_readsJar_20 : decode c_Mo_readsJar 20 = .ok (.iconst 0, 1) := by decide +kernel
theorem d_Mo_readsJar_21 : decode c_Mo_readsJar 21 = .ok (.ireturn, 1) := by decide +kernel
theorem d_Mo_readsJar_22 : decode c_Mo_readsJar 22 = .ok (.aload_n 0, 1) := by decide +kernel
theorem d_Mo_readsJar_23 : decode c_Mo_readsJar 23 = .ok (.dup, 1) := by decide +kernel
theorem d_Mo_readsJar_24 : decode c_Mo_readsJar 24 = .ok (.getfield 111, 3) := by decide +kernel
theorem d_Mo_readsJar_27 : decode c_Mo_readsJar 27 = .ok (.iconst 1, 1) := by decide +kernel
theorem d_Mo_readsJar_28 : decode c_Mo_readsJar 28 = .ok (.iadd, 1) := by decide +kernel
theorem d_Mo_readsJar_29 : decode c_Mo_readsJar 29 = .ok (.putfield 111, 3) := by decide +kernel
theorem d_Mo_readsJar_32 : decode c_Mo_readsJar 32 = .ok (.aload_n 0, 1) := by decide +kernel
theorem d_Mo_readsJar_33 : decode c_Mo_readsJar 33 = .ok (.iload_n 1, 1) := by decide +kernel
theorem d_Mo_readsJar_34 : decode c_Mo_readsJar 34 = .ok (.iload_n 2, 1) := by decide +kernel
theorem d_Mo_readsJar_35 : decode c_Mo_readsJar 35 = .ok (.invokevirtual 114, 3) := by decide +kernel
theorem d_Mo_readsJar_38 : decode c_Mo_readsJar 38 = .ok (.istore_n 3, 1) := by decide +kernel
theorem d_Mo_readsJar_39 : decode c_Mo_readsJar 39 = .ok (.iload_n 3, 1) := by decide +kernel
theorem d_Mo_readsJar_40 : decode c_Mo_readsJar 40 = .ok (.bipush 108, 2) := by decide +kernel
theorem d_Mo_readsJar_42 : decode c_Mo_readsJar 42 = .ok (.if_icmp .eq 17, 3) := by decide +kernel
theorem d_Mo_readsJar_45 : decode c_Mo_readsJar 45 = .ok (.iload_n 3, 1) := by decide +kernel
theorem d_Mo_readsJar_46 : decode c_Mo_readsJar 46 = .ok (.bipush 119, 2) := by decide +kernel
theorem d_Mo_readsJar_48 : decode c_Mo_readsJar 48 = .ok (.if_icmp .eq 11, 3) := by decide +kernel
theorem d_Mo_readsJar_51 : decode c_Mo_readsJar 51 = .ok (.iload_n 3, 1) := by decide +kernel
theorem d_Mo_readsJar_52 : decode c_Mo_readsJar 52 = .ok (.bipush 112, 2) := by decide +kernel
theorem d_Mo_readsJar_54 : decode c_Mo_readsJar 54 = .ok (.if_icmp .eq 5, 3) := by decide +kernel
theorem d_Mo_readsJar_57 : decode c_Mo_readsJar 57 = .ok (.iconst 0, 1) := by decide +kernel
theorem d_Mo_readsJar_58 : decode c_Mo_readsJar 58 = .ok (.ireturn, 1) := by decide +kernel
theorem d_Mo_readsJar_59 : decode c_Mo_readsJar 59 = .ok (.aload_n 0, 1) := by decide +kernel
theorem d_Mo_readsJar_60 : decode c_Mo_readsJar 60 = .ok (.dup, 1) := by decide +kernel
theorem d_Mo_readsJar_61 : decode c_Mo_readsJar 61 = .ok (.getfield 111, 3) := by decide +kernel
theorem d_Mo_readsJar_64 : decode c_Mo_readsJar 64 = .ok (.iconst 1, 1) := by decide +kernel
theorem d_Mo_readsJar_65 : decode c_Mo_readsJar 65 = .ok (.iadd, 1) := by decide +kernel
theorem d_Mo_readsJar_66 : decode c_Mo_readsJar 66 = .ok (.putfield 111, 3) := by decide +kernel
theorem d_Mo_readsJar_69 : decode c_Mo_readsJar 69 = .ok (.aload_n 0, 1) := by decide +kernel
theorem d_Mo_readsJar_70 : decode c_Mo_readsJar 70 = .ok (.iload_n 1, 1) := by decide +kernel
theorem d_Mo_readsJar_71 : decode c_Mo_readsJar 71 = .ok (.iload_n 2, 1) := by decide +kernel
theorem d_Mo_readsJar_72 : decode c_Mo_readsJar 72 = .ok (.iconst 0, 1) := by decide +kernel
theorem d_Mo_readsJar_73 : decode c_Mo_readsJar 73 = .ok (.invokevirtual 123, 3) := by decide +kernel
theorem d_Mo_readsJar_76 : decode c_Mo_readsJar 76 = .ok (.istore 4, 2) := by decide +kernel
theorem d_Mo_readsJar_78 : decode c_Mo_readsJar 78 = .ok (.aload_n 0, 1) := by decide +kernel
theorem d_Mo_readsJar_79 : decode c_Mo_readsJar 79 = .ok (.iload_n 1, 1) := by decide +kernel
theorem d_Mo_readsJar_80 : decode c_Mo_readsJar 80 = .ok (.iload_n 2, 1) := by decide +kernel
theorem d_Mo_readsJar_81 : decode c_Mo_readsJar 81 = .ok (.iload 4, 2) := by decide +kernel
theorem d_Mo_readsJar_83 : decode c_Mo_readsJar 83 = .ok (.invokevirtual 123, 3) := by decide +kernel
theorem d_Mo_readsJar_86 : decode c_Mo_readsJar 86 = .ok (.istore 5, 2) := by decide +kernel
theorem d_Mo_readsJar_88 : decode c_Mo_readsJar 88 = .ok (.aload_n 0, 1) := by decide +kernel
theorem d_Mo_readsJar_89 : decode c_Mo_readsJar 89 = .ok (.iload_n 1, 1) := by decide +kernel
theorem d_Mo_readsJar_90 : decode c_Mo_readsJar 90 = .ok (.iload_n 2, 1) := by decide +kernel
theorem d_Mo_readsJar_91 : decode c_Mo_readsJar 91 = .ok (.iload 5, 2) := by decide +kernel
theorem d_Mo_readsJar_93 : decode c_Mo_readsJar 93 = .ok (.invokevirtual 123, 3) := by decide +kernel
theorem d_Mo_readsJar_96 : decode c_Mo_readsJar 96 = .ok (.istore 6, 2) := by decide +kernel
theorem d_Mo_readsJar_98 : decode c_Mo_readsJar 98 = .ok (.aload_n 0, 1) := by decide +kernel
theorem d_Mo_readsJar_99 : decode c_Mo_readsJar 99 = .ok (.iload_n 1, 1) := by decide +kernel
theorem d_Mo_readsJar_100 : decode c_Mo_readsJar 100 = .ok (.iload_n 2, 1) := by decide +kernel
theorem d_Mo_readsJar_101 : decode c_Mo_readsJar 101 = .ok (.iload 6, 2) := by decide +kernel
theorem d_Mo_readsJar_103 : decode c_Mo_readsJar 103 = .ok (.invokevirtual 123, 3) := by decide +kernel
theorem d_Mo_readsJar_106 : decode c_Mo_readsJar 106 = .ok (.istore 7, 2) := by decide +kernel
theorem d_Mo_readsJar_108 : decode c_Mo_readsJar 108 = .ok (.iload 7, 2) := by decide +kernel
theorem d_Mo_readsJar_110 : decode c_Mo_readsJar 110 = .ok (.ifCond .ge 5, 3) := by decide +kernel
theorem d_Mo_readsJar_113 : decode c_Mo_readsJar 113 = .ok (.iconst 0, 1) := by decide +kernel
theorem d_Mo_readsJar_114 : decode c_Mo_readsJar 114 = .ok (.ireturn, 1) := by decide +kernel
theorem d_Mo_readsJar_115 : decode c_Mo_readsJar 115 = .ok (.aload_n 0, 1) := by decide +kernel
theorem d_Mo_readsJar_116 : decode c_Mo_readsJar 116 = .ok (.getfield 37, 3) := by decide +kernel
theorem d_Mo_readsJar_119 : decode c_Mo_readsJar 119 = .ok (.aload_n 0, 1) := by decide +kernel
theorem d_Mo_readsJar_120 : decode c_Mo_readsJar 120 = .ok (.getfield 120, 3) := by decide +kernel
theorem d_Mo_readsJar_123 : decode c_Mo_readsJar 123 = .ok (.iload_n 3, 1) := by decide +kernel
theorem d_Mo_readsJar_124 : decode c_Mo_readsJar 124 = .ok (.bipush 108, 2) := by decide +kernel
theorem d_Mo_readsJar_126 : decode c_Mo_readsJar 126 = .ok (.if_icmp .ne 7, 3) := by decide +kernel
theorem d_Mo_readsJar_129 : decode c_Mo_readsJar 129 = .ok (.iconst 0, 1) := by decide +kernel
theorem d_Mo_readsJar_130 : decode c_Mo_readsJar 130 = .ok (.goto 14, 3) := by decide +kernel
theorem d_Mo_readsJar_133 : decode c_Mo_readsJar 133 = .ok (.iload_n 3, 1) := by decide +kernel
theorem d_Mo_readsJar_134 : decode c_Mo_readsJar 134 = .ok (.bipush 119, 2) := by decide +kernel
theorem d_Mo_readsJar_136 : decode c_Mo_readsJar 136 = .ok (.if_icmp .ne 7, 3) := by decide +kernel
theorem d_Mo_readsJar_139 : decode c_Mo_readsJar 139 = .ok (.iconst 1, 1) := by decide +kernel
theorem d_Mo_readsJar_140 : decode c_Mo_readsJar 140 = .ok (.goto 4, 3) := by decide +kernel
theorem d_Mo_readsJar_143 : decode c_Mo_readsJar 143 = .ok (.iconst 2, 1) := by decide +kernel
theorem d_Mo_readsJar_144 : decode c_Mo_readsJar 144 = .ok (.iastore, 1) := by decide +kernel
theorem d_Mo_readsJar_145 : decode c_Mo_readsJar 145 = .ok (.aload_n 0, 1) := by decide +kernel
theorem d_Mo_readsJar_146 : decode c_Mo_readsJar 146 = .ok (.getfield 40, 3) := by decide +kernel
theorem d_Mo_readsJar_149 : decode c_Mo_readsJar 149 = .ok (.aload_n 0, 1) := by decide +kernel
theorem d_Mo_readsJar_150 : decode c_Mo_readsJar 150 = .ok (.getfield 120, 3) := by decide +kernel
theorem d_Mo_readsJar_153 : decode c_Mo_readsJar 153 = .ok (.iload 4, 2) := by decide +kernel
theorem d_Mo_readsJar_155 : decode c_Mo_readsJar 155 = .ok (.iastore, 1) := by decide +kernel
theorem d_Mo_readsJar_156 : decode c_Mo_readsJar 156 = .ok (.aload_n 0, 1) := by decide +kernel
theorem d_Mo_readsJar_157 : decode c_Mo_readsJar 157 = .ok (.getfield 43, 3) := by decide +kernel
theorem d_Mo_readsJar_160 : decode c_Mo_readsJar 160 = .ok (.aload_n 0, 1) := by decide +kernel
theorem d_Mo_readsJar_161 : decode c_Mo_readsJar 161 = .ok (.getfield 120, 3) := by decide +kernel
theorem d_Mo_readsJar_164 : decode c_Mo_readsJar 164 = .ok (.iload 5, 2) := by decide +kernel
theorem d_Mo_readsJar_166 : decode c_Mo_readsJar 166 = .ok (.iastore, 1) := by decide +kernel
theorem d_Mo_readsJar_167 : decode c_Mo_readsJar 167 = .ok (.aload_n 0, 1) := by decide +kernel
theorem d_Mo_readsJar_168 : decode c_Mo_readsJar 168 = .ok (.getfield 46, 3) := by decide +kernel
theorem d_Mo_readsJar_171 : decode c_Mo_readsJar 171 = .ok (.aload_n 0, 1) := by decide +kernel
theorem d_Mo_readsJar_172 : decode c_Mo_readsJar 172 = .ok (.getfield 120, 3) := by decide +kernel
theorem d_Mo_readsJar_175 : decode c_Mo_readsJar 175 = .ok (.iload 6, 2) := by decide +kernel
theorem d_Mo_readsJar_177 : decode c_Mo_readsJar 177 = .ok (.iastore, 1) := by decide +kernel
theorem d_Mo_readsJar_178 : decode c_Mo_readsJar 178 = .ok (.aload_n 0, 1) := by decide +kernel
theorem d_Mo_readsJar_179 : decode c_Mo_readsJar 179 = .ok (.getfield 49, 3) := by decide +kernel
theorem d_Mo_readsJar_182 : decode c_Mo_readsJar 182 = .ok (.aload_n 0, 1) := by decide +kernel
theorem d_Mo_readsJar_183 : decode c_Mo_readsJar 183 = .ok (.getfield 120, 3) := by decide +kernel
theorem d_Mo_readsJar_186 : decode c_Mo_readsJar 186 = .ok (.iload 7, 2) := by decide +kernel
theorem d_Mo_readsJar_188 : decode c_Mo_readsJar 188 = .ok (.iastore, 1) := by decide +kernel
theorem d_Mo_readsJar_189 : decode c_Mo_readsJar 189 = .ok (.aload_n 0, 1) := by decide +kernel
theorem d_Mo_readsJar_190 : decode c_Mo_readsJar 190 = .ok (.dup, 1) := by decide +kernel
theorem d_Mo_readsJar_191 : decode c_Mo_readsJar 191 = .ok (.getfield 120, 3) := by decide +kernel
theorem d_Mo_readsJar_194 : decode c_Mo_readsJar 194 = .ok (.iconst 1, 1) := by decide +kernel
theorem d_Mo_readsJar_195 : decode c_Mo_readsJar 195 = .ok (.iadd, 1) := by decide +kernel
theorem d_Mo_readsJar_196 : decode c_Mo_readsJar 196 = .ok (.putfield 120, 3) := by decide +kernel
theorem d_Mo_readsJar_199 : decode c_Mo_readsJar 199 = .ok (.iconst 1, 1) := by decide +kernel
theorem d_Mo_readsJar_200 : decode c_Mo_readsJar 200 = .ok (.ireturn, 1) := by decide +kernel
theorem C_Mo_rJ_f0 {M : MM} {F m x y P : Nat} {q : Nat → Int32} (hF : F + m ≤ 240) (hm : m ≤ 60) (hq : ∀ t, t < m → M 62 (F + t) = q t) (hx : x ≤ 6) (h0 : ¬ (x < 6 ∧ stB q m (1 + 6 * x) 59 = true)) : AF y_Mo_readsJar c_Mo_readsJar 8 (some .boolean) 3 [vR 36, vI (i3 F), vI (i3 m)] (RS M q (1 + 6 * x) x y P) (some (vI (bI false))) (RS M q (1 + 6 * x) x y P) := by
  refine AF.of k_Mo_readsJar (lo := [some (vR 36), some (vI (i3 F)), some (vI (i3 m)), none, none, none, none, none]) rfl (Nat.le_of_ble_eq_true rfl) (fun X hX hR => ?_)
  refine v_aload_n (pc := 0) hX rfl d_Mo_readsJar_0 ?_
  refine g_getI (pc := 1) hX fl_Mo_120 rfl rfl d_Mo_readsJar_1 ?_
  rw [RS_13]
  refine v_bipush (pc := 4) (v := 6) hX (by decide) d_Mo_readsJar_4 ?_
  refine v_icmp_eq (pc := 6) (tgt := 20) hX d_Mo_readsJar_6 rfl (fun h6 => ?_) (fun h6 => ?_)
  · refine v_iconst (pc := 20) (v := 0) hX (by decide) d_Mo_readsJar_20 ?_
    exact f_zret (pc := 21) hX hR (rfl) (rfl) d_Mo_readsJar_21
  · have hx6 : x < 6 := by
      by_cases w : x = 6
      · exact absurd (by rw [w]; rfl) h6
      · omega
    refine v_aload_n (pc := 9) hX rfl d_Mo_readsJar_9 ?_
    refine v_iload_n (pc := 10) hX rfl d_Mo_readsJar_10 ?_
    refine v_iload_n (pc := 11) hX rfl d_Mo_readsJar_11 ?_
    refine f_callV (pc := 12) hX k_Mo_codeAt ki_Mo_codeAt kv_Mo_codeAt ml_Mo_114 (C_Mo_codeAt (r := 1 + 6 * x) hF hm hq (by omega)) rfl rfl rfl rfl rfl (Nat.le_of_ble_eq_true rfl) (Nat.le_of_ble_eq_true rfl) (Nat.le_of_ble_eq_true rfl) d_Mo_readsJar_12 ?_
    refine v_bipush (pc := 15) (v := 59) hX (by decide) d_Mo_readsJar_15 ?_
    refine v_icmp_eq (pc := 17) (tgt := 22) hX d_Mo_readsJar_17 rfl (fun h17 => False.elim (h0 ⟨hx6, (cdA_st (by decide)).mp h17⟩)) (fun h17 => ?_)
    refine v_iconst (pc := 20) (v := 0) hX (by decide) d_Mo_readsJar_20 ?_
    exact f_zret (pc := 21) hX hR (rfl) (rfl) d_Mo_readsJar_21
theorem C_Mo_rJ_f1 {M : MM} {F m x y P : Nat} {q : Nat → Int32} (hF : F + m ≤ 240) (hm : m ≤ 60) (hq : ∀ t, t < m → M 62 (F + t) = q t) (hx : x ≤ 6) (hx6 : x < 6) (hs : stB q m (1 + 6 * x) 59 = true) (hk : ¬ (1 + 6 * x + 1 < m ∧ kcN (q (1 + 6 * x + 1)) ≠ -9)) : AF y_Mo_readsJar c_Mo_readsJar 8 (some .boolean) 3 [vR 36, vI (i3 F), vI (i3 m)] (RS M q (1 + 6 * x) x y P) (some (vI (bI false))) (RS M q (1 + 6 * x + 1) x y P) := by
  refine AF.of k_Mo_readsJar (lo := [some (vR 36), some (vI (i3 F)), some (vI (i3 m)), none, none, none, none, none]) rfl (Nat.le_of_ble_eq_true rfl) (fun X hX hR => ?_)
  refine v_aload_n (pc := 0) hX rfl d_Mo_readsJar_0 ?_
  refine g_getI (pc := 1) hX fl_Mo_120 rfl rfl d_Mo_readsJar_1 ?_
  rw [RS_13]
  refine v_bipush (pc := 4) (v := 6) hX (by decide) d_Mo_readsJar_4 ?_
  refine v_icmp_eq (pc := 6) (tgt := 20) hX d_Mo_readsJar_6 rfl (fun h6 => False.elim (by have := (i3_inj (a := x) (b := 6) (by omega) (by decide)).mp h6; omega)) (fun h6 => ?_)
  refine v_aload_n (pc := 9) hX rfl d_Mo_readsJar_9 ?_
  refine v_iload_n (pc := 10) hX rfl d_Mo_readsJar_10 ?_
  refine v_iload_n (pc := 11) hX rfl d_Mo_readsJar_11 ?_
  refine f_callV (pc := 12) hX k_Mo_codeAt ki_Mo_codeAt kv_Mo_codeAt ml_Mo_114 (C_Mo_codeAt (r := 1 + 6 * x) hF hm hq (by omega)) rfl rfl rfl rfl rfl (Nat.le_of_ble_eq_true rfl) (Nat.le_of_ble_eq_true rfl) (Nat.le_of_ble_eq_true rfl) d_Mo_readsJar_12 ?_
  refine v_bipush (pc := 15) (v := 59) hX (by decide) d_Mo_readsJar_15 ?_
  refine v_icmp_eq (pc := 17) (tgt := 22) hX d_Mo_readsJar_17 rfl (fun h17 => ?_) (fun h17 => False.elim (h17 ((cdA_st (by decide)).mpr hs)))
  refine v_aload_n (pc := 22) hX rfl d_Mo_readsJar_22 ?_
  refine v_dup (pc := 23) hX rfl d_Mo_readsJar_23 ?_
  refine g_getI (pc := 24) hX fl_Mo_111 rfl rfl d_Mo_readsJar_24 ?_
  rw [RS_12]
  refine v_iconst (pc := 27) (v := 1) hX (by decide) d_Mo_readsJar_27 ?_
  refine v_iadd (pc := 28) hX d_Mo_readsJar_28 ?_
  refine g_putI (pc := 29) hX fl_Mo_111 rfl (finI rfl rfl) rfl rfl rfl d_Mo_readsJar_29 ?_
  rw [show i3 (1 + 6 * x) + 1 = i3 (1 + 6 * x + 1) from (i3_succ _).symm, RS_at]
  refine v_aload_n (pc := 32) hX rfl d_Mo_readsJar_32 ?_
  refine v_iload_n (pc := 33) hX rfl d_Mo_readsJar_33 ?_
  refine v_iload_n (pc := 34) hX rfl d_Mo_readsJar_34 ?_
  refine f_callV (pc := 35) hX k_Mo_codeAt ki_Mo_codeAt kv_Mo_codeAt ml_Mo_114 (C_Mo_codeAt (r := 1 + 6 * x + 1) hF hm hq (by omega)) rfl rfl rfl rfl rfl (Nat.le_of_ble_eq_true rfl) (Nat.le_of_ble_eq_true rfl) (Nat.le_of_ble_eq_true rfl) d_Mo_readsJar_35 ?_
  refine v_istore_n (pc := 38) (lo' := [some (vR _), some (vI _), some (vI _), some (vI _), none, none, none, none]) hX (Nat.le_of_ble_eq_true rfl) rfl d_Mo_readsJar_38 ?_
  refine v_iload_n (pc := 39) hX rfl d_Mo_readsJar_39 ?_
  refine v_bipush (pc := 40) (v := 108) hX (by decide) d_Mo_readsJar_40 ?_
  refine v_icmp_eq (pc := 42) (tgt := 59) hX d_Mo_readsJar_42 rfl (fun h42 => False.elim (hk (kc_ok.mp (Or.inl h42)))) (fun h42 => ?_)
  refine v_iload_n (pc := 45) hX rfl d_Mo_readsJar_45 ?_
  refine v_bipush (pc := 46) (v := 119) hX (by decide) d_Mo_readsJar_46 ?_
  refine v_icmp_eq (pc := 48) (tgt := 59) hX d_Mo_readsJar_48 rfl (fun h48 => False.elim (hk (kc_ok.mp (Or.inr (Or.inl h48))))) (fun h48 => ?_)
  refine v_iload_n (pc := 51) hX rfl d_Mo_readsJar_51 ?_
  refine v_bipush (pc := 52) (v := 112) hX (by decide) d_Mo_readsJar_52 ?_
  refine v_icmp_eq (pc := 54) (tgt := 59) hX d_Mo_readsJar_54 rfl (fun h54 => False.elim (hk (kc_ok.mp (Or.inr (Or.inr h54))))) (fun h54 => ?_)
  refine v_iconst (pc := 57) (v := 0) hX (by decide) d_Mo_readsJar_57 ?_
  exact f_zret (pc := 58) hX hR (rfl) (rfl) d_Mo_readsJar_58
theorem C_Mo_rJ_d0 {M : MM} {F m x y P : Nat} {q : Nat → Int32} (hF : F + m ≤ 240) (hm : m ≤ 60) (hq : ∀ t, t < m → M 62 (F + t) = q t) (hx : x ≤ 6) (hx6 : x < 6) (hs : stB q m (1 + 6 * x) 59 = true) (hk : (1 + 6 * x + 1 < m ∧ kcN (q (1 + 6 * x + 1)) ≠ -9)) (d0 : dgB q m (1 + 6 * x + 2 + 0) = false) : AF y_Mo_readsJar c_Mo_readsJar 8 (some .boolean) 3 [vR 36, vI (i3 F), vI (i3 m)] (RS M q (1 + 6 * x) x y P) (some (vI (bI false))) (RS M q (1 + 6 * x + 2 + 0) x y P) := by
  refine AF.of k_Mo_readsJar (lo := [some (vR 36), some (vI (i3 F)), some (vI (i3 m)), none, none, none, none, none]) rfl (Nat.le_of_ble_eq_true rfl) (fun X hX hR => ?_)
  refine v_aload_n (pc := 0) hX rfl d_Mo_readsJar_0 ?_
  refine g_getI (pc := 1) hX fl_Mo_120 rfl rfl d_Mo_readsJar_1 ?_
  rw [RS_13]
  refine v_bipush (pc := 4) (v := 6) hX (by decide) d_Mo_readsJar_4 ?_
  refine v_icmp_eq (pc := 6) (tgt := 20) hX d_Mo_readsJar_6 rfl (fun h6 => False.elim (by have := (i3_inj (a := x) (b := 6) (by omega) (by decide)).mp h6; omega)) (fun h6 => ?_)
  refine v_aload_n (pc := 9) hX rfl d_Mo_readsJar_9 ?_
  refine v_iload_n (pc := 10) hX rfl d_Mo_readsJar_10 ?_
  refine v_iload_n (pc := 11) hX rfl d_Mo_readsJar_11 ?_
  refine f_callV (pc := 12) hX k_Mo_codeAt ki_Mo_codeAt kv_Mo_codeAt ml_Mo_114 (C_Mo_codeAt (r := 1 + 6 * x) hF hm hq (by omega)) rfl rfl rfl rfl rfl (Nat.le_of_ble_eq_true rfl) (Nat.le_of_ble_eq_true rfl) (Nat.le_of_ble_eq_true rfl) d_Mo_readsJar_12 ?_
  refine v_bipush (pc := 15) (v := 59) hX (by decide) d_Mo_readsJar_15 ?_
  refine v_icmp_eq (pc := 17) (tgt := 22) hX d_Mo_readsJar_17 rfl (fun h17 => ?_) (fun h17 => False.elim (h17 ((cdA_st (by decide)).mpr hs)))
  refine v_aload_n (pc := 22) hX rfl d_Mo_readsJar_22 ?_
  refine v_dup (pc := 23) hX rfl d_Mo_readsJar_23 ?_
  refine g_getI (pc := 24) hX fl_Mo_111 rfl rfl d_Mo_readsJar_24 ?_
  rw [RS_12]
  refine v_iconst (pc := 27) (v := 1) hX (by decide) d_Mo_readsJar_27 ?_
  refine v_iadd (pc := 28) hX d_Mo_readsJar_28 ?_
  refine g_putI (pc := 29) hX fl_Mo_111 rfl (finI rfl rfl) rfl rfl rfl d_Mo_readsJar_29 ?_
  rw [show i3 (1 + 6 * x) + 1 = i3 (1 + 6 * x + 1) from (i3_succ _).symm, RS_at]
  refine v_aload_n (pc := 32) hX rfl d_Mo_readsJar_32 ?_
  refine v_iload_n (pc := 33) hX rfl d_Mo_readsJar_33 ?_
  refine v_iload_n (pc := 34) hX rfl d_Mo_readsJar_34 ?_
  refine f_callV (pc := 35) hX k_Mo_codeAt ki_Mo_codeAt kv_Mo_codeAt ml_Mo_114 (C_Mo_codeAt (r := 1 + 6 * x + 1) hF hm hq (by omega)) rfl rfl rfl rfl rfl (Nat.le_of_ble_eq_true rfl) (Nat.le_of_ble_eq_true rfl) (Nat.le_of_ble_eq_true rfl) d_Mo_readsJar_35 ?_
  refine v_istore_n (pc := 38) (lo' := [some (vR _), some (vI _), some (vI _), some (vI _), none, none, none, none]) hX (Nat.le_of_ble_eq_true rfl) rfl d_Mo_readsJar_38 ?_
  refine v_iload_n (pc := 39) hX rfl d_Mo_readsJar_39 ?_
  refine v_bipush (pc := 40) (v := 108) hX (by decide) d_Mo_readsJar_40 ?_
  refine v_icmp_eq (pc := 42) (tgt := 59) hX d_Mo_readsJar_42 rfl (fun h42 => ?_) (fun h42 => ?_)
  · refine v_aload_n (pc := 59) hX rfl d_Mo_readsJar_59 ?_
    refine v_dup (pc := 60) hX rfl d_Mo_readsJar_60 ?_
    refine g_getI (pc := 61) hX fl_Mo_111 rfl rfl d_Mo_readsJar_61 ?_
    rw [RS_12]
    refine v_iconst (pc := 64) (v := 1) hX (by decide) d_Mo_readsJar_64 ?_
    refine v_iadd (pc := 65) hX d_Mo_readsJar_65 ?_
    refine g_putI (pc := 66) hX fl_Mo_111 rfl (finI rfl rfl) rfl rfl rfl d_Mo_readsJar_66 ?_
    rw [show i3 (1 + 6 * x + 1) + 1 = i3 (1 + 6 * x + 2) from (i3_succ _).symm, RS_at]
    refine v_aload_n (pc := 69) hX rfl d_Mo_readsJar_69 ?_
    refine v_iload_n (pc := 70) hX rfl d_Mo_readsJar_70 ?_
    refine v_iload_n (pc := 71) hX rfl d_Mo_readsJar_71 ?_
    refine v_iconst (pc := 72) (v := 0) hX (by decide) d_Mo_readsJar_72 ?_
    refine f_callV (pc := 73) hX k_Mo_figure ki_Mo_figure kv_Mo_figure ml_Mo_123 (C_Mo_figN (r := 1 + 6 * x + 2 + 0) hF hm hq (by omega) (by decide) d0) rfl rfl rfl rfl rfl (Nat.le_of_ble_eq_true rfl) (Nat.le_of_ble_eq_true rfl) (Nat.le_of_ble_eq_true rfl) d_Mo_readsJar_73 ?_
    refine v_istore (pc := 76) (lo' := [some (vR _), some (vI _), some (vI _), some (vI _), some (vI _), none, none, none]) hX (Nat.le_of_ble_eq_true rfl) rfl d_Mo_readsJar_76 ?_
    refine v_aload_n (pc := 78) hX rfl d_Mo_readsJar_78 ?_
    refine v_iload_n (pc := 79) hX rfl d_Mo_readsJar_79 ?_
    refine v_iload_n (pc := 80) hX rfl d_Mo_readsJar_80 ?_
    refine v_iload (pc := 81) hX rfl d_Mo_readsJar_81 ?_
    refine f_callV (pc := 83) hX k_Mo_figure ki_Mo_figure kv_Mo_figure ml_Mo_123 (C_Mo_figX hF hm hq) rfl rfl rfl rfl rfl (Nat.le_of_ble_eq_true rfl) (Nat.le_of_ble_eq_true rfl) (Nat.le_of_ble_eq_true rfl) d_Mo_readsJar_83 ?_
    refine v_istore (pc := 86) (lo' := [some (vR _), some (vI _), some (vI _), some (vI _), some (vI _), some (vI _), none, none]) hX (Nat.le_of_ble_eq_true rfl) rfl d_Mo_readsJar_86 ?_
    refine v_aload_n (pc := 88) hX rfl d_Mo_readsJar_88 ?_
    refine v_iload_n (pc := 89) hX rfl d_Mo_readsJar_89 ?_
    refine v_iload_n (pc := 90) hX rfl d_Mo_readsJar_90 ?_
    refine v_iload (pc := 91) hX rfl d_Mo_readsJar_91 ?_
    refine f_callV (pc := 93) hX k_Mo_figure ki_Mo_figure kv_Mo_figure ml_Mo_123 (C_Mo_figX hF hm hq) rfl rfl rfl rfl rfl (Nat.le_of_ble_eq_true rfl) (Nat.le_of_ble_eq_true rfl) (Nat.le_of_ble_eq_true rfl) d_Mo_readsJar_93 ?_
    refine v_istore (pc := 96) (lo' := [some (vR _), some (vI _), some (vI _), some (vI _), some (vI _), some (vI _), some (vI _), none]) hX (Nat.le_of_ble_eq_true rfl) rfl d_Mo_readsJar_96 ?_
    refine v_aload_n (pc := 98) hX rfl d_Mo_readsJar_98 ?_
    refine v_iload_n (pc := 99) hX rfl d_Mo_readsJar_99 ?_
    refine v_iload_n (pc := 100) hX rfl d_Mo_readsJar_100 ?_
    refine v_iload (pc := 101) hX rfl d_Mo_readsJar_101 ?_
    refine f_callV (pc := 103) hX k_Mo_figure ki_Mo_figure kv_Mo_figure ml_Mo_123 (C_Mo_figX hF hm hq) rfl rfl rfl rfl rfl (Nat.le_of_ble_eq_true rfl) (Nat.le_of_ble_eq_true rfl) (Nat.le_of_ble_eq_true rfl) d_Mo_readsJar_103 ?_
    refine v_istore (pc := 106) (lo' := [some (vR _), some (vI _), some (vI _), some (vI _), some (vI _), some (vI _), some (vI _), some (vI _)]) hX (Nat.le_of_ble_eq_true rfl) rfl d_Mo_readsJar_106 ?_
    refine v_iload (pc := 108) hX rfl d_Mo_readsJar_108 ?_
    refine v_if_ge (pc := 110) (tgt := 115) hX d_Mo_readsJar_110 rfl (fun h110 => False.elim (absurd h110 (by decide))) (fun h110 => ?_)
    refine v_iconst (pc := 113) (v := 0) hX (by decide) d_Mo_readsJar_113 ?_
    exact f_zret (pc := 114) hX hR (rfl) (rfl) d_Mo_readsJar_114
  · refine v_iload_n (pc := 45) hX rfl d_Mo_readsJar_45 ?_
    refine v_bipush (pc := 46) (v := 119) hX (by decide) d_Mo_readsJar_46 ?_
    refine v_icmp_eq (pc := 48) (tgt := 59) hX d_Mo_readsJar_48 rfl (fun h48 => ?_) (fun h48 => ?_)
    · refine v_aload_n (pc := 59) hX rfl d_Mo_readsJar_59 ?_
      refine v_dup (pc := 60) hX rfl d_Mo_readsJar_60 ?_
      refine g_getI (pc := 61) hX fl_Mo_111 rfl rfl d_Mo_readsJar_61 ?_
      rw [RS_12]
      refine v_iconst (pc := 64) (v := 1) hX (by decide) d_Mo_readsJar_64 ?_
      refine v_iadd (pc := 65) hX d_Mo_readsJar_65 ?_
      refine g_putI (pc := 66) hX fl_Mo_111 rfl (finI rfl rfl) rfl rfl rfl d_Mo_readsJar_66 ?_
      rw [show i3 (1 + 6 * x + 1) + 1 = i3 (1 + 6 * x + 2) from (i3_succ _).symm, RS_at]
      refine v_aload_n (pc := 69) hX rfl d_Mo_readsJar_69 ?_
      refine v_iload_n (pc := 70) hX rfl d_Mo_readsJar_70 ?_
      refine v_iload_n (pc := 71) hX rfl d_Mo_readsJar_71 ?_
      refine v_iconst (pc := 72) (v := 0) hX (by decide) d_Mo_readsJar_72 ?_
      refine f_callV (pc := 73) hX k_Mo_figure ki_Mo_figure kv_Mo_figure ml_Mo_123 (C_Mo_figN (r := 1 + 6 * x + 2 + 0) hF hm hq (by omega) (by decide) d0) rfl rfl rfl rfl rfl (Nat.le_of_ble_eq_true rfl) (Nat.le_of_ble_eq_true rfl) (Nat.le_of_ble_eq_true rfl) d_Mo_readsJar_73 ?_
      refine v_istore (pc := 76) (lo' := [some (vR _), some (vI _), some (vI _), some (vI _), some (vI _), none, none, none]) hX (Nat.le_of_ble_eq_true rfl) rfl d_Mo_readsJar_76 ?_
      refine v_aload_n (pc := 78) hX rfl d_Mo_readsJar_78 ?_
      refine v_iload_n (pc := 79) hX rfl d_Mo_readsJar_79 ?_
      refine v_iload_n (pc := 80) hX rfl d_Mo_readsJar_80 ?_
      refine v_iload (pc := 81) hX rfl d_Mo_readsJar_81 ?_
      refine f_callV (pc := 83) hX k_Mo_figure ki_Mo_figure kv_Mo_figure ml_Mo_123 (C_Mo_figX hF hm hq) rfl rfl rfl rfl rfl (Nat.le_of_ble_eq_true rfl) (Nat.le_of_ble_eq_true rfl) (Nat.le_of_ble_eq_true rfl) d_Mo_readsJar_83 ?_
      refine v_istore (pc := 86) (lo' := [some (vR _), some (vI _), some (vI _), some (vI _), some (vI _), some (vI _), none, none]) hX (Nat.le_of_ble_eq_true rfl) rfl d_Mo_readsJar_86 ?_
      refine v_aload_n (pc := 88) hX rfl d_Mo_readsJar_88 ?_
      refine v_iload_n (pc := 89) hX rfl d_Mo_readsJar_89 ?_
      refine v_iload_n (pc := 90) hX rfl d_Mo_readsJar_90 ?_
      refine v_iload (pc := 91) hX rfl d_Mo_readsJar_91 ?_
      refine f_callV (pc := 93) hX k_Mo_figure ki_Mo_figure kv_Mo_figure ml_Mo_123 (C_Mo_figX hF hm hq) rfl rfl rfl rfl rfl (Nat.le_of_ble_eq_true rfl) (Nat.le_of_ble_eq_true rfl) (Nat.le_of_ble_eq_true rfl) d_Mo_readsJar_93 ?_
      refine v_istore (pc := 96) (lo' := [some (vR _), some (vI _), some (vI _), some (vI _), some (vI _), some (vI _), some (vI _), none]) hX (Nat.le_of_ble_eq_true rfl) rfl d_Mo_readsJar_96 ?_
      refine v_aload_n (pc := 98) hX rfl d_Mo_readsJar_98 ?_
      refine v_iload_n (pc := 99) hX rfl d_Mo_readsJar_99 ?_
      refine v_iload_n (pc := 100) hX rfl d_Mo_readsJar_100 ?_
      refine v_iload (pc := 101) hX rfl d_Mo_readsJar_101 ?_
      refine f_callV (pc := 103) hX k_Mo_figure ki_Mo_figure kv_Mo_figure ml_Mo_123 (C_Mo_figX hF hm hq) rfl rfl rfl rfl rfl (Nat.le_of_ble_eq_true rfl) (Nat.le_of_ble_eq_true rfl) (Nat.le_of_ble_eq_true rfl) d_Mo_readsJar_103 ?_
      refine v_istore (pc := 106) (lo' := [some (vR _), some (vI _), some (vI _), some (vI _), some (vI _), some (vI _), some (vI _), some (vI _)]) hX (Nat.le_of_ble_eq_true rfl) rfl d_Mo_readsJar_106 ?_
      refine v_iload (pc := 108) hX rfl d_Mo_readsJar_108 ?_
      refine v_if_ge (pc := 110) (tgt := 115) hX d_Mo_readsJar_110 rfl (fun h110 => False.elim (absurd h110 (by decide))) (fun h110 => ?_)
      refine v_iconst (pc := 113) (v := 0) hX (by decide) d_Mo_readsJar_113 ?_
      exact f_zret (pc := 114) hX hR (rfl) (rfl) d_Mo_readsJar_114
    · refine v_iload_n (pc := 51) hX rfl d_Mo_readsJar_51 ?_
      refine v_bipush (pc := 52) (v := 112) hX (by decide) d_Mo_readsJar_52 ?_
      refine v_icmp_eq (pc := 54) (tgt := 59) hX d_Mo_readsJar_54 rfl (fun h54 => ?_) (fun h54 => False.elim (by rcases kc_ok.mpr hk with w | w | w; exact h42 w; exact h48 w; exact h54 w))
      refine v_aload_n (pc := 59) hX rfl d_Mo_readsJar_59 ?_
      refine v_dup (pc := 60) hX rfl d_Mo_readsJar_60 ?_
      refine g_getI (pc := 61) hX fl_Mo_111 rfl rfl d_Mo_readsJar_61 ?_
      rw [RS_12]
      refine v_iconst (pc := 64) (v := 1) hX (by decide) d_Mo_readsJar_64 ?_
      refine v_iadd (pc := 65) hX d_Mo_readsJar_65 ?_
      refine g_putI (pc := 66) hX fl_Mo_111 rfl (finI rfl rfl) rfl rfl rfl d_Mo_readsJar_66 ?_
      rw [show i3 (1 + 6 * x + 1) + 1 = i3 (1 + 6 * x + 2) from (i3_succ _).symm, RS_at]
      refine v_aload_n (pc := 69) hX rfl d_Mo_readsJar_69 ?_
      refine v_iload_n (pc := 70) hX rfl d_Mo_readsJar_70 ?_
      refine v_iload_n (pc := 71) hX rfl d_Mo_readsJar_71 ?_
      refine v_iconst (pc := 72) (v := 0) hX (by decide) d_Mo_readsJar_72 ?_
      refine f_callV (pc := 73) hX k_Mo_figure ki_Mo_figure kv_Mo_figure ml_Mo_123 (C_Mo_figN (r := 1 + 6 * x + 2 + 0) hF hm hq (by omega) (by decide) d0) rfl rfl rfl rfl rfl (Nat.le_of_ble_eq_true rfl) (Nat.le_of_ble_eq_true rfl) (Nat.le_of_ble_eq_true rfl) d_Mo_readsJar_73 ?_
      refine v_istore (pc := 76) (lo' := [some (vR _), some (vI _), some (vI _), some (vI _), some (vI _), none, none, none]) hX (Nat.le_of_ble_eq_true rfl) rfl d_Mo_readsJar_76 ?_
      refine v_aload_n (pc := 78) hX rfl d_Mo_readsJar_78 ?_
      refine v_iload_n (pc := 79) hX rfl d_Mo_readsJar_79 ?_
      refine v_iload_n (pc := 80) hX rfl d_Mo_readsJar_80 ?_
      refine v_iload (pc := 81) hX rfl d_Mo_readsJar_81 ?_
      refine f_callV (pc := 83) hX k_Mo_figure ki_Mo_figure kv_Mo_figure ml_Mo_123 (C_Mo_figX hF hm hq) rfl rfl rfl rfl rfl (Nat.le_of_ble_eq_true rfl) (Nat.le_of_ble_eq_true rfl) (Nat.le_of_ble_eq_true rfl) d_Mo_readsJar_83 ?_
      refine v_istore (pc := 86) (lo' := [some (vR _), some (vI _), some (vI _), some (vI _), some (vI _), some (vI _), none, none]) hX (Nat.le_of_ble_eq_true rfl) rfl d_Mo_readsJar_86 ?_
      refine v_aload_n (pc := 88) hX rfl d_Mo_readsJar_88 ?_
      refine v_iload_n (pc := 89) hX rfl d_Mo_readsJar_89 ?_
      refine v_iload_n (pc := 90) hX rfl d_Mo_readsJar_90 ?_
      refine v_iload (pc := 91) hX rfl d_Mo_readsJar_91 ?_
      refine f_callV (pc := 93) hX k_Mo_figure ki_Mo_figure kv_Mo_figure ml_Mo_123 (C_Mo_figX hF hm hq) rfl rfl rfl rfl rfl (Nat.le_of_ble_eq_true rfl) (Nat.le_of_ble_eq_true rfl) (Nat.le_of_ble_eq_true rfl) d_Mo_readsJar_93 ?_
      refine v_istore (pc := 96) (lo' := [some (vR _), some (vI _), some (vI _), some (vI _), some (vI _), some (vI _), some (vI _), none]) hX (Nat.le_of_ble_eq_true rfl) rfl d_Mo_readsJar_96 ?_
      refine v_aload_n (pc := 98) hX rfl d_Mo_readsJar_98 ?_
      refine v_iload_n (pc := 99) hX rfl d_Mo_readsJar_99 ?_
      refine v_iload_n (pc := 100) hX rfl d_Mo_readsJar_100 ?_
      refine v_iload (pc := 101) hX rfl d_Mo_readsJar_101 ?_
      refine f_callV (pc := 103) hX k_Mo_figure ki_Mo_figure kv_Mo_figure ml_Mo_123 (C_Mo_figX hF hm hq) rfl rfl rfl rfl rfl (Nat.le_of_ble_eq_true rfl) (Nat.le_of_ble_eq_true rfl) (Nat.le_of_ble_eq_true rfl) d_Mo_readsJar_103 ?_
      refine v_istore (pc := 106) (lo' := [some (vR _), some (vI _), some (vI _), some (vI _), some (vI _), some (vI _), some (vI _), some (vI _)]) hX (Nat.le_of_ble_eq_true rfl) rfl d_Mo_readsJar_106 ?_
      refine v_iload (pc := 108) hX rfl d_Mo_readsJar_108 ?_
      refine v_if_ge (pc := 110) (tgt := 115) hX d_Mo_readsJar_110 rfl (fun h110 => False.elim (absurd h110 (by decide))) (fun h110 => ?_)
      refine v_iconst (pc := 113) (v := 0) hX (by decide) d_Mo_readsJar_113 ?_
      exact f_zret (pc := 114) hX hR (rfl) (rfl) d_Mo_readsJar_114
theorem C_Mo_rJ_d1 {M : MM} {F m x y P : Nat} {q : Nat → Int32} (hF : F + m ≤ 240) (hm : m ≤ 60) (hq : ∀ t, t < m → M 62 (F + t) = q t) (hx : x ≤ 6) (hx6 : x < 6) (hs : stB q m (1 + 6 * x) 59 = true) (hk : (1 + 6 * x + 1 < m ∧ kcN (q (1 + 6 * x + 1)) ≠ -9)) (d0 : dgB q m (1 + 6 * x + 2 + 0) = true) (d1 : dgB q m (1 + 6 * x + 2 + 1) = false) : AF y_Mo_readsJar c_Mo_readsJar 8 (some .boolean) 3 [vR 36, vI (i3 F), vI (i3 m)] (RS M q (1 + 6 * x) x y P) (some (vI (bI false))) (RS M q (1 + 6 * x + 2 + 1) x y P) := by
  refine AF.of k_Mo_readsJar (lo := [some (vR 36), some (vI (i3 F)), some (vI (i3 m)), none, none, none, none, none]) rfl (Nat.le_of_ble_eq_true rfl) (fun X hX hR => ?_)
  refine v_aload_n (pc := 0) hX rfl d_Mo_readsJar_0 ?_
  refine g_getI (pc := 1) hX fl_Mo_120 rfl rfl d_Mo_readsJar_1 ?_
  rw [RS_13]
  refine v_bipush (pc := 4) (v := 6) hX (by decide) d_Mo_readsJar_4 ?_
  refine v_icmp_eq (pc := 6) (tgt := 20) hX d_Mo_readsJar_6 rfl (fun h6 => False.elim (by have := (i3_inj (a := x) (b := 6) (by omega) (by decide)).mp h6; omega)) (fun h6 => ?_)
  refine v_aload_n (pc := 9) hX rfl d_Mo_readsJar_9 ?_
  refine v_iload_n (pc := 10) hX rfl d_Mo_readsJar_10 ?_
  refine v_iload_n (pc := 11) hX rfl d_Mo_readsJar_11 ?_
  refine f_callV (pc := 12) hX k_Mo_codeAt ki_Mo_codeAt kv_Mo_codeAt ml_Mo_114 (C_Mo_codeAt (r := 1 + 6 * x) hF hm hq (by omega)) rfl rfl rfl rfl rfl (Nat.le_of_ble_eq_true rfl) (Nat.le_of_ble_eq_true rfl) (Nat.le_of_ble_eq_true rfl) d_Mo_readsJar_12 ?_
  refine v_bipush (pc := 15) (v := 59) hX (by decide) d_Mo_readsJar_15 ?_
  refine v_icmp_eq (pc := 17) (tgt := 22) hX d_Mo_readsJar_17 rfl (fun h17 => ?_) (fun h17 => False.elim (h17 ((cdA_st (by decide)).mpr hs)))
  refine v_aload_n (pc := 22) hX rfl d_Mo_readsJar_22 ?_
  refine v_dup (pc := 23) hX rfl d_Mo_readsJar_23 ?_
  refine g_getI (pc := 24) hX fl_Mo_111 rfl rfl d_Mo_readsJar_24 ?_
  rw [RS_12]
  refine v_iconst (pc := 27) (v := 1) hX (by decide) d_Mo_readsJar_27 ?_
  refine v_iadd (pc := 28) hX d_Mo_readsJar_28 ?_
  refine g_putI (pc := 29) hX fl_Mo_111 rfl (finI rfl rfl) rfl rfl rfl d_Mo_readsJar_29 ?_
  rw [show i3 (1 + 6 * x) + 1 = i3 (1 + 6 * x + 1) from (i3_succ _).symm, RS_at]
  refine v_aload_n (pc := 32) hX rfl d_Mo_readsJar_32 ?_
  refine v_iload_n (pc := 33) hX rfl d_Mo_readsJar_33 ?_
  refine v_iload_n (pc := 34) hX rfl d_Mo_readsJar_34 ?_
  refine f_callV (pc := 35) hX k_Mo_codeAt ki_Mo_codeAt kv_Mo_codeAt ml_Mo_114 (C_Mo_codeAt (r := 1 + 6 * x + 1) hF hm hq (by omega)) rfl rfl rfl rfl rfl (Nat.le_of_ble_eq_true rfl) (Nat.le_of_ble_eq_true rfl) (Nat.le_of_ble_eq_true rfl) d_Mo_readsJar_35 ?_
  refine v_istore_n (pc := 38) (lo' := [some (vR _), some (vI _), some (vI _), some (vI _), none, none, none, none]) hX (Nat.le_of_ble_eq_true rfl) rfl d_Mo_readsJar_38 ?_
  refine v_iload_n (pc := 39) hX rfl d_Mo_readsJar_39 ?_
  refine v_bipush (pc := 40) (v := 108) hX (by decide) d_Mo_readsJar_40 ?_
  refine v_icmp_eq (pc := 42) (tgt := 59) hX d_Mo_readsJar_42 rfl (fun h42 => ?_) (fun h42 => ?_)
  · refine v_aload_n (pc := 59) hX rfl d_Mo_readsJar_59 ?_
    refine v_dup (pc := 60) hX rfl d_Mo_readsJar_60 ?_
    refine g_getI (pc := 61) hX fl_Mo_111 rfl rfl d_Mo_readsJar_61 ?_
    rw [RS_12]
    refine v_iconst (pc := 64) (v := 1) hX (by decide) d_Mo_readsJar_64 ?_
    refine v_iadd (pc := 65) hX d_Mo_readsJar_65 ?_
    refine g_putI (pc := 66) hX fl_Mo_111 rfl (finI rfl rfl) rfl rfl rfl d_Mo_readsJar_66 ?_
    rw [show i3 (1 + 6 * x + 1) + 1 = i3 (1 + 6 * x + 2) from (i3_succ _).symm, RS_at]
    refine v_aload_n (pc := 69) hX rfl d_Mo_readsJar_69 ?_
    refine v_iload_n (pc := 70) hX rfl d_Mo_readsJar_70 ?_
    refine v_iload_n (pc := 71) hX rfl d_Mo_readsJar_71 ?_
    refine v_iconst (pc := 72) (v := 0) hX (by decide) d_Mo_readsJar_72 ?_
    refine f_callV (pc := 73) hX k_Mo_figure ki_Mo_figure kv_Mo_figure ml_Mo_123 (C_Mo_figY (r := 1 + 6 * x + 2 + 0) hF hm hq (by omega) (by decide) d0) rfl rfl rfl rfl rfl (Nat.le_of_ble_eq_true rfl) (Nat.le_of_ble_eq_true rfl) (Nat.le_of_ble_eq_true rfl) d_Mo_readsJar_73 ?_
    refine v_istore (pc := 76) (lo' := [some (vR _), some (vI _), some (vI _), some (vI _), some (vI _), none, none, none]) hX (Nat.le_of_ble_eq_true rfl) rfl d_Mo_readsJar_76 ?_
    refine v_aload_n (pc := 78) hX rfl d_Mo_readsJar_78 ?_
    refine v_iload_n (pc := 79) hX rfl d_Mo_readsJar_79 ?_
    refine v_iload_n (pc := 80) hX rfl d_Mo_readsJar_80 ?_
    refine v_iload (pc := 81) hX rfl d_Mo_readsJar_81 ?_
    refine f_callV (pc := 83) hX k_Mo_figure ki_Mo_figure kv_Mo_figure ml_Mo_123 (C_Mo_figN (r := 1 + 6 * x + 2 + 1) hF hm hq (by omega) (dg_ge d0) d1) rfl rfl rfl rfl rfl (Nat.le_of_ble_eq_true rfl) (Nat.le_of_ble_eq_true rfl) (Nat.le_of_ble_eq_true rfl) d_Mo_readsJar_83 ?_
    refine v_istore (pc := 86) (lo' := [some (vR _), some (vI _), some (vI _), some (vI _), some (vI _), some (vI _), none, none]) hX (Nat.le_of_ble_eq_true rfl) rfl d_Mo_readsJar_86 ?_
    refine v_aload_n (pc := 88) hX rfl d_Mo_readsJar_88 ?_
    refine v_iload_n (pc := 89) hX rfl d_Mo_readsJar_89 ?_
    refine v_iload_n (pc := 90) hX rfl d_Mo_readsJar_90 ?_
    refine v_iload (pc := 91) hX rfl d_Mo_readsJar_91 ?_
    refine f_callV (pc := 93) hX k_Mo_figure ki_Mo_figure kv_Mo_figure ml_Mo_123 (C_Mo_figX hF hm hq) rfl rfl rfl rfl rfl (Nat.le_of_ble_eq_true rfl) (Nat.le_of_ble_eq_true rfl) (Nat.le_of_ble_eq_true rfl) d_Mo_readsJar_93 ?_
    refine v_istore (pc := 96) (lo' := [some (vR _), some (vI _), some (vI _), some (vI _), some (vI _), some (vI _), some (vI _), none]) hX (Nat.le_of_ble_eq_true rfl) rfl d_Mo_readsJar_96 ?_
    refine v_aload_n (pc := 98) hX rfl d_Mo_readsJar_98 ?_
    refine v_iload_n (pc := 99) hX rfl d_Mo_readsJar_99 ?_
    refine v_iload_n (pc := 100) hX rfl d_Mo_readsJar_100 ?_
    refine v_iload (pc := 101) hX rfl d_Mo_readsJar_101 ?_
    refine f_callV (pc := 103) hX k_Mo_figure ki_Mo_figure kv_Mo_figure ml_Mo_123 (C_Mo_figX hF hm hq) rfl rfl rfl rfl rfl (Nat.le_of_ble_eq_true rfl) (Nat.le_of_ble_eq_true rfl) (Nat.le_of_ble_eq_true rfl) d_Mo_readsJar_103 ?_
    refine v_istore (pc := 106) (lo' := [some (vR _), some (vI _), some (vI _), some (vI _), some (vI _), some (vI _), some (vI _), some (vI _)]) hX (Nat.le_of_ble_eq_true rfl) rfl d_Mo_readsJar_106 ?_
    refine v_iload (pc := 108) hX rfl d_Mo_readsJar_108 ?_
    refine v_if_ge (pc := 110) (tgt := 115) hX d_Mo_readsJar_110 rfl (fun h110 => False.elim (absurd h110 (by decide))) (fun h110 => ?_)
    refine v_iconst (pc := 113) (v := 0) hX (by decide) d_Mo_readsJar_113 ?_
    exact f_zret (pc := 114) hX hR (rfl) (rfl) d_Mo_readsJar_114
  · refine v_iload_n (pc := 45) hX rfl d_Mo_readsJar_45 ?_
    refine v_bipush (pc := 46) (v := 119) hX (by decide) d_Mo_readsJar_46 ?_
    refine v_icmp_eq (pc := 48) (tgt := 59) hX d_Mo_readsJar_48 rfl (fun h48 => ?_) (fun h48 => ?_)
    · refine v_aload_n (pc := 59) hX rfl d_Mo_readsJar_59 ?_
      refine v_dup (pc := 60) hX rfl d_Mo_readsJar_60 ?_
      refine g_getI (pc := 61) hX fl_Mo_111 rfl rfl d_Mo_readsJar_61 ?_
      rw [RS_12]
      refine v_iconst (pc := 64) (v := 1) hX (by decide) d_Mo_readsJar_64 ?_
      refine v_iadd (pc := 65) hX d_Mo_readsJar_65 ?_
      refine g_putI (pc := 66) hX fl_Mo_111 rfl (finI rfl rfl) rfl rfl rfl d_Mo_readsJar_66 ?_
      rw [show i3 (1 + 6 * x + 1) + 1 = i3 (1 + 6 * x + 2) from (i3_succ _).symm, RS_at]
      refine v_aload_n (pc := 69) hX rfl d_Mo_readsJar_69 ?_
      refine v_iload_n (pc := 70) hX rfl d_Mo_readsJar_70 ?_
      refine v_iload_n (pc := 71) hX rfl d_Mo_readsJar_71 ?_
      refine v_iconst (pc := 72) (v := 0) hX (by decide) d_Mo_readsJar_72 ?_
      refine f_callV (pc := 73) hX k_Mo_figure ki_Mo_figure kv_Mo_figure ml_Mo_123 (C_Mo_figY (r := 1 + 6 * x + 2 + 0) hF hm hq (by omega) (by decide) d0) rfl rfl rfl rfl rfl (Nat.le_of_ble_eq_true rfl) (Nat.le_of_ble_eq_true rfl) (Nat.le_of_ble_eq_true rfl) d_Mo_readsJar_73 ?_
      refine v_istore (pc := 76) (lo' := [some (vR _), some (vI _), some (vI _), some (vI _), some (vI _), none, none, none]) hX (Nat.le_of_ble_eq_true rfl) rfl d_Mo_readsJar_76 ?_
      refine v_aload_n (pc := 78) hX rfl d_Mo_readsJar_78 ?_
      refine v_iload_n (pc := 79) hX rfl d_Mo_readsJar_79 ?_
      refine v_iload_n (pc := 80) hX rfl d_Mo_readsJar_80 ?_
      refine v_iload (pc := 81) hX rfl d_Mo_readsJar_81 ?_
      refine f_callV (pc := 83) hX k_Mo_figure ki_Mo_figure kv_Mo_figure ml_Mo_123 (C_Mo_figN (r := 1 + 6 * x + 2 + 1) hF hm hq (by omega) (dg_ge d0) d1) rfl rfl rfl rfl rfl (Nat.le_of_ble_eq_true rfl) (Nat.le_of_ble_eq_true rfl) (Nat.le_of_ble_eq_true rfl) d_Mo_readsJar_83 ?_
      refine v_istore (pc := 86) (lo' := [some (vR _), some (vI _), some (vI _), some (vI _), some (vI _), some (vI _), none, none]) hX (Nat.le_of_ble_eq_true rfl) rfl d_Mo_readsJar_86 ?_
      refine v_aload_n (pc := 88) hX rfl d_Mo_readsJar_88 ?_
      refine v_iload_n (pc := 89) hX rfl d_Mo_readsJar_89 ?_
      refine v_iload_n (pc := 90) hX rfl d_Mo_readsJar_90 ?_
      refine v_iload (pc := 91) hX rfl d_Mo_readsJar_91 ?_
      refine f_callV (pc := 93) hX k_Mo_figure ki_Mo_figure kv_Mo_figure ml_Mo_123 (C_Mo_figX hF hm hq) rfl rfl rfl rfl rfl (Nat.le_of_ble_eq_true rfl) (Nat.le_of_ble_eq_true rfl) (Nat.le_of_ble_eq_true rfl) d_Mo_readsJar_93 ?_
      refine v_istore (pc := 96) (lo' := [some (vR _), some (vI _), some (vI _), some (vI _), some (vI _), some (vI _), some (vI _), none]) hX (Nat.le_of_ble_eq_true rfl) rfl d_Mo_readsJar_96 ?_
      refine v_aload_n (pc := 98) hX rfl d_Mo_readsJar_98 ?_
      refine v_iload_n (pc := 99) hX rfl d_Mo_readsJar_99 ?_
      refine v_iload_n (pc := 100) hX rfl d_Mo_readsJar_100 ?_
      refine v_iload (pc := 101) hX rfl d_Mo_readsJar_101 ?_
      refine f_callV (pc := 103) hX k_Mo_figure ki_Mo_figure kv_Mo_figure ml_Mo_123 (C_Mo_figX hF hm hq) rfl rfl rfl rfl rfl (Nat.le_of_ble_eq_true rfl) (Nat.le_of_ble_eq_true rfl) (Nat.le_of_ble_eq_true rfl) d_Mo_readsJar_103 ?_
      refine v_istore (pc := 106) (lo' := [some (vR _), some (vI _), some (vI _), some (vI _), some (vI _), some (vI _), some (vI _), some (vI _)]) hX (Nat.le_of_ble_eq_true rfl) rfl d_Mo_readsJar_106 ?_
      refine v_iload (pc := 108) hX rfl d_Mo_readsJar_108 ?_
      refine v_if_ge (pc := 110) (tgt := 115) hX d_Mo_readsJar_110 rfl (fun h110 => False.elim (absurd h110 (by decide))) (fun h110 => ?_)
      refine v_iconst (pc := 113) (v := 0) hX (by decide) d_Mo_readsJar_113 ?_
      exact f_zret (pc := 114) hX hR (rfl) (rfl) d_Mo_readsJar_114
    · refine v_iload_n (pc := 51) hX rfl d_Mo_readsJar_51 ?_
      refine v_bipush (pc := 52) (v := 112) hX (by decide) d_Mo_readsJar_52 ?_
      refine v_icmp_eq (pc := 54) (tgt := 59) hX d_Mo_readsJar_54 rfl (fun h54 => ?_) (fun h54 => False.elim (by rcases kc_ok.mpr hk with w | w | w; exact h42 w; exact h48 w; exact h54 w))
      refine v_aload_n (pc := 59) hX rfl d_Mo_readsJar_59 ?_
      refine v_dup (pc := 60) hX rfl d_Mo_readsJar_60 ?_
      refine g_getI (pc := 61) hX fl_Mo_111 rfl rfl d_Mo_readsJar_61 ?_
      rw [RS_12]
      refine v_iconst (pc := 64) (v := 1) hX (by decide) d_Mo_readsJar_64 ?_
      refine v_iadd (pc := 65) hX d_Mo_readsJar_65 ?_
      refine g_putI (pc := 66) hX fl_Mo_111 rfl (finI rfl rfl) rfl rfl rfl d_Mo_readsJar_66 ?_
      rw [show i3 (1 + 6 * x + 1) + 1 = i3 (1 + 6 * x + 2) from (i3_succ _).symm, RS_at]
      refine v_aload_n (pc := 69) hX rfl d_Mo_readsJar_69 ?_
      refine v_iload_n (pc := 70) hX rfl d_Mo_readsJar_70 ?_
      refine v_iload_n (pc := 71) hX rfl d_Mo_readsJar_71 ?_
      refine v_iconst (pc := 72) (v := 0) hX (by decide) d_Mo_readsJar_72 ?_
      refine f_callV (pc := 73) hX k_Mo_figure ki_Mo_figure kv_Mo_figure ml_Mo_123 (C_Mo_figY (r := 1 + 6 * x + 2 + 0) hF hm hq (by omega) (by decide) d0) rfl rfl rfl rfl rfl (Nat.le_of_ble_eq_true rfl) (Nat.le_of_ble_eq_true rfl) (Nat.le_of_ble_eq_true rfl) d_Mo_readsJar_73 ?_
      refine v_istore (pc := 76) (lo' := [some (vR _), some (vI _), some (vI _), some (vI _), some (vI _), none, none, none]) hX (Nat.le_of_ble_eq_true rfl) rfl d_Mo_readsJar_76 ?_
      refine v_aload_n (pc := 78) hX rfl d_Mo_readsJar_78 ?_
      refine v_iload_n (pc := 79) hX rfl d_Mo_readsJar_79 ?_
      refine v_iload_n (pc := 80) hX rfl d_Mo_readsJar_80 ?_
      refine v_iload (pc := 81) hX rfl d_Mo_readsJar_81 ?_
      refine f_callV (pc := 83) hX k_Mo_figure ki_Mo_figure kv_Mo_figure ml_Mo_123 (C_Mo_figN (r := 1 + 6 * x + 2 + 1) hF hm hq (by omega) (dg_ge d0) d1) rfl rfl rfl rfl rfl (Nat.le_of_ble_eq_true rfl) (Nat.le_of_ble_eq_true rfl) (Nat.le_of_ble_eq_true rfl) d_Mo_readsJar_83 ?_
      refine v_istore (pc := 86) (lo' := [some (vR _), some (vI _), some (vI _), some (vI _), some (vI _), some (vI _), none, none]) hX (Nat.le_of_ble_eq_true rfl) rfl d_Mo_readsJar_86 ?_
      refine v_aload_n (pc := 88) hX rfl d_Mo_readsJar_88 ?_
      refine v_iload_n (pc := 89) hX rfl d_Mo_readsJar_89 ?_
      refine v_iload_n (pc := 90) hX rfl d_Mo_readsJar_90 ?_
      refine v_iload (pc := 91) hX rfl d_Mo_readsJar_91 ?_
      refine f_callV (pc := 93) hX k_Mo_figure ki_Mo_figure kv_Mo_figure ml_Mo_123 (C_Mo_figX hF hm hq) rfl rfl rfl rfl rfl (Nat.le_of_ble_eq_true rfl) (Nat.le_of_ble_eq_true rfl) (Nat.le_of_ble_eq_true rfl) d_Mo_readsJar_93 ?_
      refine v_istore (pc := 96) (lo' := [some (vR _), some (vI _), some (vI _), some (vI _), some (vI _), some (vI _), some (vI _), none]) hX (Nat.le_of_ble_eq_true rfl) rfl d_Mo_readsJar_96 ?_
      refine v_aload_n (pc := 98) hX rfl d_Mo_readsJar_98 ?_
      refine v_iload_n (pc := 99) hX rfl d_Mo_readsJar_99 ?_
      refine v_iload_n (pc := 100) hX rfl d_Mo_readsJar_100 ?_
      refine v_iload (pc := 101) hX rfl d_Mo_readsJar_101 ?_
      refine f_callV (pc := 103) hX k_Mo_figure ki_Mo_figure kv_Mo_figure ml_Mo_123 (C_Mo_figX hF hm hq) rfl rfl rfl rfl rfl (Nat.le_of_ble_eq_true rfl) (Nat.le_of_ble_eq_true rfl) (Nat.le_of_ble_eq_true rfl) d_Mo_readsJar_103 ?_
      refine v_istore (pc := 106) (lo' := [some (vR _), some (vI _), some (vI _), some (vI _), some (vI _), some (vI _), some (vI _), some (vI _)]) hX (Nat.le_of_ble_eq_true rfl) rfl d_Mo_readsJar_106 ?_
      refine v_iload (pc := 108) hX rfl d_Mo_readsJar_108 ?_
      refine v_if_ge (pc := 110) (tgt := 115) hX d_Mo_readsJar_110 rfl (fun h110 => False.elim (absurd h110 (by decide))) (fun h110 => ?_)
      refine v_iconst (pc := 113) (v := 0) hX (by decide) d_Mo_readsJar_113 ?_
      exact f_zret (pc := 114) hX hR (rfl) (rfl) d_Mo_readsJar_114
theorem C_Mo_rJ_d2 {M : MM} {F m x y P : Nat} {q : Nat → Int32} (hF : F + m ≤ 240) (hm : m ≤ 60) (hq : ∀ t, t < m → M 62 (F + t) = q t) (hx : x ≤ 6) (hx6 : x < 6) (hs : stB q m (1 + 6 * x) 59 = true) (hk : (1 + 6 * x + 1 < m ∧ kcN (q (1 + 6 * x + 1)) ≠ -9)) (d0 : dgB q m (1 + 6 * x + 2 + 0) = true) (d1 : dgB q m (1 + 6 * x + 2 + 1) = true) (d2 : dgB q m (1 + 6 * x + 2 + 2) = false) : AF y_Mo_readsJar c_Mo_readsJar 8 (some .boolean) 3 [vR 36, vI (i3 F), vI (i3 m)] (RS M q (1 + 6 * x) x y P) (some (vI (bI false))) (RS M q (1 + 6 * x + 2 + 2) x y P) := by
  refine AF.of k_Mo_readsJar (lo := [some (vR 36), some (vI (i3 F)), some (vI (i3 m)), none, none, none, none, none]) rfl (Nat.le_of_ble_eq_true rfl) (fun X hX hR => ?_)
  refine v_aload_n (pc := 0) hX rfl d_Mo_readsJar_0 ?_
  refine g_getI (pc := 1) hX fl_Mo_120 rfl rfl d_Mo_readsJar_1 ?_
  rw [RS_13]
  refine v_bipush (pc := 4) (v := 6) hX (by decide) d_Mo_readsJar_4 ?_
  refine v_icmp_eq (pc := 6) (tgt := 20) hX d_Mo_readsJar_6 rfl (fun h6 => False.elim (by have := (i3_inj (a := x) (b := 6) (by omega) (by decide)).mp h6; omega)) (fun h6 => ?_)
  refine v_aload_n (pc := 9) hX rfl d_Mo_readsJar_9 ?_
  refine v_iload_n (pc := 10) hX rfl d_Mo_readsJar_10 ?_
  refine v_iload_n (pc := 11) hX rfl d_Mo_readsJar_11 ?_
  refine f_callV (pc := 12) hX k_Mo_codeAt ki_Mo_codeAt kv_Mo_codeAt ml_Mo_114 (C_Mo_codeAt (r := 1 + 6 * x) hF hm hq (by omega)) rfl rfl rfl rfl rfl (Nat.le_of_ble_eq_true rfl) (Nat.le_of_ble_eq_true rfl) (Nat.le_of_ble_eq_true rfl) d_Mo_readsJar_12 ?_
  refine v_bipush (pc := 15) (v := 59) hX (by decide) d_Mo_readsJar_15 ?_
  refine v_icmp_eq (pc := 17) (tgt := 22) hX d_Mo_readsJar_17 rfl (fun h17 => ?_) (fun h17 => False.elim (h17 ((cdA_st (by decide)).mpr hs)))
  refine v_aload_n (pc := 22) hX rfl d_Mo_readsJar_22 ?_
  refine v_dup (pc := 23) hX rfl d_Mo_readsJar_23 ?_
  refine g_getI (pc := 24) hX fl_Mo_111 rfl rfl d_Mo_readsJar_24 ?_
  rw [RS_12]
  refine v_iconst (pc := 27) (v := 1) hX (by decide) d_Mo_readsJar_27 ?_
  refine v_iadd (pc := 28) hX d_Mo_readsJar_28 ?_
  refine g_putI (pc := 29) hX fl_Mo_111 rfl (finI rfl rfl) rfl rfl rfl d_Mo_readsJar_29 ?_
  rw [show i3 (1 + 6 * x) + 1 = i3 (1 + 6 * x + 1) from (i3_succ _).symm, RS_at]
  refine v_aload_n (pc := 32) hX rfl d_Mo_readsJar_32 ?_
  refine v_iload_n (pc := 33) hX rfl d_Mo_readsJar_33 ?_
  refine v_iload_n (pc := 34) hX rfl d_Mo_readsJar_34 ?_
  refine f_callV (pc := 35) hX k_Mo_codeAt ki_Mo_codeAt kv_Mo_codeAt ml_Mo_114 (C_Mo_codeAt (r := 1 + 6 * x + 1) hF hm hq (by omega)) rfl rfl rfl rfl rfl (Nat.le_of_ble_eq_true rfl) (Nat.le_of_ble_eq_true rfl) (Nat.le_of_ble_eq_true rfl) d_Mo_readsJar_35 ?_
  refine v_istore_n (pc := 38) (lo' := [some (vR _), some (vI _), some (vI _), some (vI _), none, none, none, none]) hX (Nat.le_of_ble_eq_true rfl) rfl d_Mo_readsJar_38 ?_
  refine v_iload_n (pc := 39) hX rfl d_Mo_readsJar_39 ?_
  refine v_bipush (pc := 40) (v := 108) hX (by decide) d_Mo_readsJar_40 ?_
  refine v_icmp_eq (pc := 42) (tgt := 59) hX d_Mo_readsJar_42 rfl (fun h42 => ?_) (fun h42 => ?_)
  · refine v_aload_n (pc := 59) hX rfl d_Mo_readsJar_59 ?_
    refine v_dup (pc := 60) hX rfl d_Mo_readsJar_60 ?_
    refine g_getI (pc := 61) hX fl_Mo_111 rfl rfl d_Mo_readsJar_61 ?_
    rw [RS_12]
    refine v_iconst (pc := 64) (v := 1) hX (by decide) d_Mo_readsJar_64 ?_
    refine v_iadd (pc := 65) hX d_Mo_readsJar_65 ?_
    refine g_putI (pc := 66) hX fl_Mo_111 rfl (finI rfl rfl) rfl rfl rfl d_Mo_readsJar_66 ?_
    rw [show i3 (1 + 6 * x + 1) + 1 = i3 (1 + 6 * x + 2) from (i3_succ _).symm, RS_at]
    refine v_aload_n (pc := 69) hX rfl d_Mo_readsJar_69 ?_
    refine v_iload_n (pc := 70) hX rfl d_Mo_readsJar_70 ?_
    refine v_iload_n (pc := 71) hX rfl d_Mo_readsJar_71 ?_
    refine v_iconst (pc := 72) (v := 0) hX (by decide) d_Mo_readsJar_72 ?_
    refine f_callV (pc := 73) hX k_Mo_figure ki_Mo_figure kv_Mo_figure ml_Mo_123 (C_Mo_figY (r := 1 + 6 * x + 2 + 0) hF hm hq (by omega) (by decide) d0) rfl rfl rfl rfl rfl (Nat.le_of_ble_eq_true rfl) (Nat.le_of_ble_eq_true rfl) (Nat.le_of_ble_eq_true rfl) d_Mo_readsJar_73 ?_
    refine v_istore (pc := 76) (lo' := [some (vR _), some (vI _), some (vI _), some (vI _), some (vI _), none, none, none]) hX (Nat.le_of_ble_eq_true rfl) rfl d_Mo_readsJar_76 ?_
    refine v_aload_n (pc := 78) hX rfl d_Mo_readsJar_78 ?_
    refine v_iload_n (pc := 79) hX rfl d_Mo_readsJar_79 ?_
    refine v_iload_n (pc := 80) hX rfl d_Mo_readsJar_80 ?_
    refine v_iload (pc := 81) hX rfl d_Mo_readsJar_81 ?_
    refine f_callV (pc := 83) hX k_Mo_figure ki_Mo_figure kv_Mo_figure ml_Mo_123 (C_Mo_figY (r := 1 + 6 * x + 2 + 1) hF hm hq (by omega) (dg_ge d0) d1) rfl rfl rfl rfl rfl (Nat.le_of_ble_eq_true rfl) (Nat.le_of_ble_eq_true rfl) (Nat.le_of_ble_eq_true rfl) d_Mo_readsJar_83 ?_
    refine v_istore (pc := 86) (lo' := [some (vR _), some (vI _), some (vI _), some (vI _), some (vI _), some (vI _), none, none]) hX (Nat.le_of_ble_eq_true rfl) rfl d_Mo_readsJar_86 ?_
    refine v_aload_n (pc := 88) hX rfl d_Mo_readsJar_88 ?_
    refine v_iload_n (pc := 89) hX rfl d_Mo_readsJar_89 ?_
    refine v_iload_n (pc := 90) hX rfl d_Mo_readsJar_90 ?_
    refine v_iload (pc := 91) hX rfl d_Mo_readsJar_91 ?_
    refine f_callV (pc := 93) hX k_Mo_figure ki_Mo_figure kv_Mo_figure ml_Mo_123 (C_Mo_figN (r := 1 + 6 * x + 2 + 2) hF hm hq (by omega) (dg_ge d1) d2) rfl rfl rfl rfl rfl (Nat.le_of_ble_eq_true rfl) (Nat.le_of_ble_eq_true rfl) (Nat.le_of_ble_eq_true rfl) d_Mo_readsJar_93 ?_
    refine v_istore (pc := 96) (lo' := [some (vR _), some (vI _), some (vI _), some (vI _), some (vI _), some (vI _), some (vI _), none]) hX (Nat.le_of_ble_eq_true rfl) rfl d_Mo_readsJar_96 ?_
    refine v_aload_n (pc := 98) hX rfl d_Mo_readsJar_98 ?_
    refine v_iload_n (pc := 99) hX rfl d_Mo_readsJar_99 ?_
    refine v_iload_n (pc := 100) hX rfl d_Mo_readsJar_100 ?_
    refine v_iload (pc := 101) hX rfl d_Mo_readsJar_101 ?_
    refine f_callV (pc := 103) hX k_Mo_figure ki_Mo_figure kv_Mo_figure ml_Mo_123 (C_Mo_figX hF hm hq) rfl rfl rfl rfl rfl (Nat.le_of_ble_eq_true rfl) (Nat.le_of_ble_eq_true rfl) (Nat.le_of_ble_eq_true rfl) d_Mo_readsJar_103 ?_
    refine v_istore (pc := 106) (lo' := [some (vR _), some (vI _), some (vI _), some (vI _), some (vI _), some (vI _), some (vI _), some (vI _)]) hX (Nat.le_of_ble_eq_true rfl) rfl d_Mo_readsJar_106 ?_
    refine v_iload (pc := 108) hX rfl d_Mo_readsJar_108 ?_
    refine v_if_ge (pc := 110) (tgt := 115) hX d_Mo_readsJar_110 rfl (fun h110 => False.elim (absurd h110 (by decide))) (fun h110 => ?_)
    refine v_iconst (pc := 113) (v := 0) hX (by decide) d_Mo_readsJar_113 ?_
    exact f_zret (pc := 114) hX hR (rfl) (rfl) d_Mo_readsJar_114
  · refine v_iload_n (pc := 45) hX rfl d_Mo_readsJar_45 ?_
    refine v_bipush (pc := 46) (v := 119) hX (by decide) d_Mo_readsJar_46 ?_
    refine v_icmp_eq (pc := 48) (tgt := 59) hX d_Mo_readsJar_48 rfl (fun h48 => ?_) (fun h48 => ?_)
    · refine v_aload_n (pc := 59) hX rfl d_Mo_readsJar_59 ?_
      refine v_dup (pc := 60) hX rfl d_Mo_readsJar_60 ?_
      refine g_getI (pc := 61) hX fl_Mo_111 rfl rfl d_Mo_readsJar_61 ?_
      rw [RS_12]
      refine v_iconst (pc := 64) (v := 1) hX (by decide) d_Mo_readsJar_64 ?_
      refine v_iadd (pc := 65) hX d_Mo_readsJar_65 ?_
      refine g_putI (pc := 66) hX fl_Mo_111 rfl (finI rfl rfl) rfl rfl rfl d_Mo_readsJar_66 ?_
      rw [show i3 (1 + 6 * x + 1) + 1 = i3 (1 + 6 * x + 2) from (i3_succ _).symm, RS_at]
      refine v_aload_n (pc := 69) hX rfl d_Mo_readsJar_69 ?_
      refine v_iload_n (pc := 70) hX rfl d_Mo_readsJar_70 ?_
      refine v_iload_n (pc := 71) hX rfl d_Mo_readsJar_71 ?_
      refine v_iconst (pc := 72) (v := 0) hX (by decide) d_Mo_readsJar_72 ?_
      refine f_callV (pc := 73) hX k_Mo_figure ki_Mo_figure kv_Mo_figure ml_Mo_123 (C_Mo_figY (r := 1 + 6 * x + 2 + 0) hF hm hq (by omega) (by decide) d0) rfl rfl rfl rfl rfl (Nat.le_of_ble_eq_true rfl) (Nat.le_of_ble_eq_true rfl) (Nat.le_of_ble_eq_true rfl) d_Mo_readsJar_73 ?_
      refine v_istore (pc := 76) (lo' := [some (vR _), some (vI _), some (vI _), some (vI _), some (vI _), none, none, none]) hX (Nat.le_of_ble_eq_true rfl) rfl d_Mo_readsJar_76 ?_
      refine v_aload_n (pc := 78) hX rfl d_Mo_readsJar_78 ?_
      refine v_iload_n (pc := 79) hX rfl d_Mo_readsJar_79 ?_
      refine v_iload_n (pc := 80) hX rfl d_Mo_readsJar_80 ?_
      refine v_iload (pc := 81) hX rfl d_Mo_readsJar_81 ?_
      refine f_callV (pc := 83) hX k_Mo_figure ki_Mo_figure kv_Mo_figure ml_Mo_123 (C_Mo_figY (r := 1 + 6 * x + 2 + 1) hF hm hq (by omega) (dg_ge d0) d1) rfl rfl rfl rfl rfl (Nat.le_of_ble_eq_true rfl) (Nat.le_of_ble_eq_true rfl) (Nat.le_of_ble_eq_true rfl) d_Mo_readsJar_83 ?_
      refine v_istore (pc := 86) (lo' := [some (vR _), some (vI _), some (vI _), some (vI _), some (vI _), some (vI _), none, none]) hX (Nat.le_of_ble_eq_true rfl) rfl d_Mo_readsJar_86 ?_
      refine v_aload_n (pc := 88) hX rfl d_Mo_readsJar_88 ?_
      refine v_iload_n (pc := 89) hX rfl d_Mo_readsJar_89 ?_
      refine v_iload_n (pc := 90) hX rfl d_Mo_readsJar_90 ?_
      refine v_iload (pc := 91) hX rfl d_Mo_readsJar_91 ?_
      refine f_callV (pc := 93) hX k_Mo_figure ki_Mo_figure kv_Mo_figure ml_Mo_123 (C_Mo_figN (r := 1 + 6 * x + 2 + 2) hF hm hq (by omega) (dg_ge d1) d2) rfl rfl rfl rfl rfl (Nat.le_of_ble_eq_true rfl) (Nat.le_of_ble_eq_true rfl) (Nat.le_of_ble_eq_true rfl) d_Mo_readsJar_93 ?_
      refine v_istore (pc := 96) (lo' := [some (vR _), some (vI _), some (vI _), some (vI _), some (vI _), some (vI _), some (vI _), none]) hX (Nat.le_of_ble_eq_true rfl) rfl d_Mo_readsJar_96 ?_
      refine v_aload_n (pc := 98) hX rfl d_Mo_readsJar_98 ?_
      refine v_iload_n (pc := 99) hX rfl d_Mo_readsJar_99 ?_
      refine v_iload_n (pc := 100) hX rfl d_Mo_readsJar_100 ?_
      refine v_iload (pc := 101) hX rfl d_Mo_readsJar_101 ?_
      refine f_callV (pc := 103) hX k_Mo_figure ki_Mo_figure kv_Mo_figure ml_Mo_123 (C_Mo_figX hF hm hq) rfl rfl rfl rfl rfl (Nat.le_of_ble_eq_true rfl) (Nat.le_of_ble_eq_true rfl) (Nat.le_of_ble_eq_true rfl) d_Mo_readsJar_103 ?_
      refine v_istore (pc := 106) (lo' := [some (vR _), some (vI _), some (vI _), some (vI _), some (vI _), some (vI _), some (vI _), some (vI _)]) hX (Nat.le_of_ble_eq_true rfl) rfl d_Mo_readsJar_106 ?_
      refine v_iload (pc := 108) hX rfl d_Mo_readsJar_108 ?_
      refine v_if_ge (pc := 110) (tgt := 115) hX d_Mo_readsJar_110 rfl (fun h110 => False.elim (absurd h110 (by decide))) (fun h110 => ?_)
      refine v_iconst (pc := 113) (v := 0) hX (by decide) d_Mo_readsJar_113 ?_
      exact f_zret (pc := 114) hX hR (rfl) (rfl) d_Mo_readsJar_114
    · refine v_iload_n (pc := 51) hX rfl d_Mo_readsJar_51 ?_
      refine v_bipush (pc := 52) (v := 112) hX (by decide) d_Mo_readsJar_52 ?_
      refine v_icmp_eq (pc := 54) (tgt := 59) hX d_Mo_readsJar_54 rfl (fun h54 => ?_) (fun h54 => False.elim (by rcases kc_ok.mpr hk with w | w | w; exact h42 w; exact h48 w; exact h54 w))
      refine v_aload_n (pc := 59) hX rfl d_Mo_readsJar_59 ?_
      refine v_dup (pc := 60) hX rfl d_Mo_readsJar_60 ?_
      refine g_getI (pc := 61) hX fl_Mo_111 rfl rfl d_Mo_readsJar_61 ?_
      rw [RS_12]
      refine v_iconst (pc := 64) (v := 1) hX (by decide) d_Mo_readsJar_64 ?_
      refine v_iadd (pc := 65) hX d_Mo_readsJar_65 ?_
      refine g_putI (pc := 66) hX fl_Mo_111 rfl (finI rfl rfl) rfl rfl rfl d_Mo_readsJar_66 ?_
      rw [show i3 (1 + 6 * x + 1) + 1 = i3 (1 + 6 * x + 2) from (i3_succ _).symm, RS_at]
      refine v_aload_n (pc := 69) hX rfl d_Mo_readsJar_69 ?_
      refine v_iload_n (pc := 70) hX rfl d_Mo_readsJar_70 ?_
      refine v_iload_n (pc := 71) hX rfl d_Mo_readsJar_71 ?_
      refine v_iconst (pc := 72) (v := 0) hX (by decide) d_Mo_readsJar_72 ?_
      refine f_callV (pc := 73) hX k_Mo_figure ki_Mo_figure kv_Mo_figure ml_Mo_123 (C_Mo_figY (r := 1 + 6 * x + 2 + 0) hF hm hq (by omega) (by decide) d0) rfl rfl rfl rfl rfl (Nat.le_of_ble_eq_true rfl) (Nat.le_of_ble_eq_true rfl) (Nat.le_of_ble_eq_true rfl) d_Mo_readsJar_73 ?_
      refine v_istore (pc := 76) (lo' := [some (vR _), some (vI _), some (vI _), some (vI _), some (vI _), none, none, none]) hX (Nat.le_of_ble_eq_true rfl) rfl d_Mo_readsJar_76 ?_
      refine v_aload_n (pc := 78) hX rfl d_Mo_readsJar_78 ?_
      refine v_iload_n (pc := 79) hX rfl d_Mo_readsJar_79 ?_
      refine v_iload_n (pc := 80) hX rfl d_Mo_readsJar_80 ?_
      refine v_iload (pc := 81) hX rfl d_Mo_readsJar_81 ?_
      refine f_callV (pc := 83) hX k_Mo_figure ki_Mo_figure kv_Mo_figure ml_Mo_123 (C_Mo_figY (r := 1 + 6 * x + 2 + 1) hF hm hq (by omega) (dg_ge d0) d1) rfl rfl rfl rfl rfl (Nat.le_of_ble_eq_true rfl) (Nat.le_of_ble_eq_true rfl) (Nat.le_of_ble_eq_true rfl) d_Mo_readsJar_83 ?_
      refine v_istore (pc := 86) (lo' := [some (vR _), some (vI _), some (vI _), some (vI _), some (vI _), some (vI _), none, none]) hX (Nat.le_of_ble_eq_true rfl) rfl d_Mo_readsJar_86 ?_
      refine v_aload_n (pc := 88) hX rfl d_Mo_readsJar_88 ?_
      refine v_iload_n (pc := 89) hX rfl d_Mo_readsJar_89 ?_
      refine v_iload_n (pc := 90) hX rfl d_Mo_readsJar_90 ?_
      refine v_iload (pc := 91) hX rfl d_Mo_readsJar_91 ?_
      refine f_callV (pc := 93) hX k_Mo_figure ki_Mo_figure kv_Mo_figure ml_Mo_123 (C_Mo_figN (r := 1 + 6 * x + 2 + 2) hF hm hq (by omega) (dg_ge d1) d2) rfl rfl rfl rfl rfl (Nat.le_of_ble_eq_true rfl) (Nat.le_of_ble_eq_true rfl) (Nat.le_of_ble_eq_true rfl) d_Mo_readsJar_93 ?_
      refine v_istore (pc := 96) (lo' := [some (vR _), some (vI _), some (vI _), some (vI _), some (vI _), some (vI _), some (vI _), none]) hX (Nat.le_of_ble_eq_true rfl) rfl d_Mo_readsJar_96 ?_
      refine v_aload_n (pc := 98) hX rfl d_Mo_readsJar_98 ?_
      refine v_iload_n (pc := 99) hX rfl d_Mo_readsJar_99 ?_
      refine v_iload_n (pc := 100) hX rfl d_Mo_readsJar_100 ?_
      refine v_iload (pc := 101) hX rfl d_Mo_readsJar_101 ?_
      refine f_callV (pc := 103) hX k_Mo_figure ki_Mo_figure kv_Mo_figure ml_Mo_123 (C_Mo_figX hF hm hq) rfl rfl rfl rfl rfl (Nat.le_of_ble_eq_true rfl) (Nat.le_of_ble_eq_true rfl) (Nat.le_of_ble_eq_true rfl) d_Mo_readsJar_103 ?_
      refine v_istore (pc := 106) (lo' := [some (vR _), some (vI _), some (vI _), some (vI _), some (vI _), some (vI _), some (vI _), some (vI _)]) hX (Nat.le_of_ble_eq_true rfl) rfl d_Mo_readsJar_106 ?_
      refine v_iload (pc := 108) hX rfl d_Mo_readsJar_108 ?_
      refine v_if_ge (pc := 110) (tgt := 115) hX d_Mo_readsJar_110 rfl (fun h110 => False.elim (absurd h110 (by decide))) (fun h110 => ?_)
      refine v_iconst (pc := 113) (v := 0) hX (by decide) d_Mo_readsJar_113 ?_
      exact f_zret (pc := 114) hX hR (rfl) (rfl) d_Mo_readsJar_114
theorem C_Mo_rJ_d3 {M : MM} {F m x y P : Nat} {q : Nat → Int32} (hF : F + m ≤ 240) (hm : m ≤ 60) (hq : ∀ t, t < m → M 62 (F + t) = q t) (hx : x ≤ 6) (hx6 : x < 6) (hs : stB q m (1 + 6 * x) 59 = true) (hk : (1 + 6 * x + 1 < m ∧ kcN (q (1 + 6 * x + 1)) ≠ -9)) (d0 : dgB q m (1 + 6 * x + 2 + 0) = true) (d1 : dgB q m (1 + 6 * x + 2 + 1) = true) (d2 : dgB q m (1 + 6 * x + 2 + 2) = true) (d3 : dgB q m (1 + 6 * x + 2 + 3) = false) : AF y_Mo_readsJar c_Mo_readsJar 8 (some .boolean) 3 [vR 36, vI (i3 F), vI (i3 m)] (RS M q (1 + 6 * x) x y P) (some (vI (bI false))) (RS M q (1 + 6 * x + 2 + 3) x y P) := by
  refine AF.of k_Mo_readsJar (lo := [some (vR 36), some (vI (i3 F)), some (vI (i3 m)), none, none, none, none, none]) rfl (Nat.le_of_ble_eq_true rfl) (fun X hX hR => ?_)
  refine v_aload_n (pc := 0) hX rfl d_Mo_readsJar_0 ?_
  refine g_getI (pc := 1) hX fl_Mo_120 rfl rfl d_Mo_readsJar_1 ?_
  rw [RS_13]
  refine v_bipush (pc := 4) (v := 6) hX (by decide) d_Mo_readsJar_4 ?_
  refine v_icmp_eq (pc := 6) (tgt := 20) hX d_Mo_readsJar_6 rfl (fun h6 => False.elim (by have := (i3_inj (a := x) (b := 6) (by omega) (by decide)).mp h6; omega)) (fun h6 => ?_)
  refine v_aload_n (pc := 9) hX rfl d_Mo_readsJar_9 ?_
  refine v_iload_n (pc := 10) hX rfl d_Mo_readsJar_10 ?_
  refine v_iload_n (pc := 11) hX rfl d_Mo_readsJar_11 ?_
  refine f_callV (pc := 12) hX k_Mo_codeAt ki_Mo_codeAt kv_Mo_codeAt ml_Mo_114 (C_Mo_codeAt (r := 1 + 6 * x) hF hm hq (by omega)) rfl rfl rfl rfl rfl (Nat.le_of_ble_eq_true rfl) (Nat.le_of_ble_eq_true rfl) (Nat.le_of_ble_eq_true rfl) d_Mo_readsJar_12 ?_
  refine v_bipush (pc := 15) (v := 59) hX (by decide) d_Mo_readsJar_15 ?_
  refine v_icmp_eq (pc := 17) (tgt := 22) hX d_Mo_readsJar_17 rfl (fun h17 => ?_) (fun h17 => False.elim (h17 ((cdA_st (by decide)).mpr hs)))
  refine v_aload_n (pc := 22) hX rfl d_Mo_readsJar_22 ?_
  refine v_dup (pc := 23) hX rfl d_Mo_readsJar_23 ?_
  refine g_getI (pc := 24) hX fl_Mo_111 rfl rfl d_Mo_readsJar_24 ?_
  rw [RS_12]
  refine v_iconst (pc := 27) (v := 1) hX (by decide) d_Mo_readsJar_27 ?_
  refine v_iadd (pc := 28) hX d_Mo_readsJar_28 ?_
  refine g_putI (pc := 29) hX fl_Mo_111 rfl (finI rfl rfl) rfl rfl rfl d_Mo_readsJar_29 ?_
  rw [show i3 (1 + 6 * x) + 1 = i3 (1 + 6 * x + 1) from (i3_succ _).symm, RS_at]
  refine v_aload_n (pc := 32) hX rfl d_Mo_readsJar_32 ?_
  refine v_iload_n (pc := 33) hX rfl d_Mo_readsJar_33 ?_
  refine v_iload_n (pc := 34) hX rfl d_Mo_readsJar_34 ?_
  refine f_callV (pc := 35) hX k_Mo_codeAt ki_Mo_codeAt kv_Mo_codeAt ml_Mo_114 (C_Mo_codeAt (r := 1 + 6 * x + 1) hF hm hq (by omega)) rfl rfl rfl rfl rfl (Nat.le_of_ble_eq_true rfl) (Nat.le_of_ble_eq_true rfl) (Nat.le_of_ble_eq_true rfl) d_Mo_readsJar_35 ?_
  refine v_istore_n (pc := 38) (lo' := [some (vR _), some (vI _), some (vI _), some (vI _), none, none, none, none]) hX (Nat.le_of_ble_eq_true rfl) rfl d_Mo_readsJar_38 ?_
  refine v_iload_n (pc := 39) hX rfl d_Mo_readsJar_39 ?_
  refine v_bipush (pc := 40) (v := 108) hX (by decide) d_Mo_readsJar_40 ?_
  refine v_icmp_eq (pc := 42) (tgt := 59) hX d_Mo_readsJar_42 rfl (fun h42 => ?_) (fun h42 => ?_)
  · refine v_aload_n (pc := 59) hX rfl d_Mo_readsJar_59 ?_
    refine v_dup (pc := 60) hX rfl d_Mo_readsJar_60 ?_
    refine g_getI (pc := 61) hX fl_Mo_111 rfl rfl d_Mo_readsJar_61 ?_
    rw [RS_12]
    refine v_iconst (pc := 64) (v := 1) hX (by decide) d_Mo_readsJar_64 ?_
    refine v_iadd (pc := 65) hX d_Mo_readsJar_65 ?_
    refine g_putI (pc := 66) hX fl_Mo_111 rfl (finI rfl rfl) rfl rfl rfl d_Mo_readsJar_66 ?_
    rw [show i3 (1 + 6 * x + 1) + 1 = i3 (1 + 6 * x + 2) from (i3_succ _).symm, RS_at]
    refine v_aload_n (pc := 69) hX rfl d_Mo_readsJar_69 ?_
    refine v_iload_n (pc := 70) hX rfl d_Mo_readsJar_70 ?_
    refine v_iload_n (pc := 71) hX rfl d_Mo_readsJar_71 ?_
    refine v_iconst (pc := 72) (v := 0) hX (by decide) d_Mo_readsJar_72 ?_
    refine f_callV (pc := 73) hX k_Mo_figure ki_Mo_figure kv_Mo_figure ml_Mo_123 (C_Mo_figY (r := 1 + 6 * x + 2 + 0) hF hm hq (by omega) (by decide) d0) rfl rfl rfl rfl rfl (Nat.le_of_ble_eq_true rfl) (Nat.le_of_ble_eq_true rfl) (Nat.le_of_ble_eq_true rfl) d_Mo_readsJar_73 ?_
    refine v_istore (pc := 76) (lo' := [some (vR _), some (vI _), some (vI _), some (vI _), some (vI _), none, none, none]) hX (Nat.le_of_ble_eq_true rfl) rfl d_Mo_readsJar_76 ?_
    refine v_aload_n (pc := 78) hX rfl d_Mo_readsJar_78 ?_
    refine v_iload_n (pc := 79) hX rfl d_Mo_readsJar_79 ?_
    refine v_iload_n (pc := 80) hX rfl d_Mo_readsJar_80 ?_
    refine v_iload (pc := 81) hX rfl d_Mo_readsJar_81 ?_
    refine f_callV (pc := 83) hX k_Mo_figure ki_Mo_figure kv_Mo_figure ml_Mo_123 (C_Mo_figY (r := 1 + 6 * x + 2 + 1) hF hm hq (by omega) (dg_ge d0) d1) rfl rfl rfl rfl rfl (Nat.le_of_ble_eq_true rfl) (Nat.le_of_ble_eq_true rfl) (Nat.le_of_ble_eq_true rfl) d_Mo_readsJar_83 ?_
    refine v_istore (pc := 86) (lo' := [some (vR _), some (vI _), some (vI _), some (vI _), some (vI _), some (vI _), none, none]) hX (Nat.le_of_ble_eq_true rfl) rfl d_Mo_readsJar_86 ?_
    refine v_aload_n (pc := 88) hX rfl d_Mo_readsJar_88 ?_
    refine v_iload_n (pc := 89) hX rfl d_Mo_readsJar_89 ?_
    refine v_iload_n (pc := 90) hX rfl d_Mo_readsJar_90 ?_
    refine v_iload (pc := 91) hX rfl d_Mo_readsJar_91 ?_
    refine f_callV (pc := 93) hX k_Mo_figure ki_Mo_figure kv_Mo_figure ml_Mo_123 (C_Mo_figY (r := 1 + 6 * x + 2 + 2) hF hm hq (by omega) (dg_ge d1) d2) rfl rfl rfl rfl rfl (Nat.le_of_ble_eq_true rfl) (Nat.le_of_ble_eq_true rfl) (Nat.le_of_ble_eq_true rfl) d_Mo_readsJar_93 ?_
    refine v_istore (pc := 96) (lo' := [some (vR _), some (vI _), some (vI _), some (vI _), some (vI _), some (vI _), some (vI _), none]) hX (Nat.le_of_ble_eq_true rfl) rfl d_Mo_readsJar_96 ?_
    refine v_aload_n (pc := 98) hX rfl d_Mo_readsJar_98 ?_
    refine v_iload_n (pc := 99) hX rfl d_Mo_readsJar_99 ?_
    refine v_iload_n (pc := 100) hX rfl d_Mo_readsJar_100 ?_
    refine v_iload (pc := 101) hX rfl d_Mo_readsJar_101 ?_
    refine f_callV (pc := 103) hX k_Mo_figure ki_Mo_figure kv_Mo_figure ml_Mo_123 (C_Mo_figN (r := 1 + 6 * x + 2 + 3) hF hm hq (by omega) (dg_ge d2) d3) rfl rfl rfl rfl rfl (Nat.le_of_ble_eq_true rfl) (Nat.le_of_ble_eq_true rfl) (Nat.le_of_ble_eq_true rfl) d_Mo_readsJar_103 ?_
    refine v_istore (pc := 106) (lo' := [some (vR _), some (vI _), some (vI _), some (vI _), some (vI _), some (vI _), some (vI _), some (vI _)]) hX (Nat.le_of_ble_eq_true rfl) rfl d_Mo_readsJar_106 ?_
    refine v_iload (pc := 108) hX rfl d_Mo_readsJar_108 ?_
    refine v_if_ge (pc := 110) (tgt := 115) hX d_Mo_readsJar_110 rfl (fun h110 => False.elim (absurd h110 (by decide))) (fun h110 => ?_)
    refine v_iconst (pc := 113) (v := 0) hX (by decide) d_Mo_readsJar_113 ?_
    exact f_zret (pc := 114) hX hR (rfl) (rfl) d_Mo_readsJar_114
  · refine v_iload_n (pc := 45) hX rfl d_Mo_readsJar_45 ?_
    refine v_bipush (pc := 46) (v := 119) hX (by decide) d_Mo_readsJar_46 ?_
    refine v_icmp_eq (pc := 48) (tgt := 59) hX d_Mo_readsJar_48 rfl (fun h48 => ?_) (fun h48 => ?_)
    · refine v_aload_n (pc := 59) hX rfl d_Mo_readsJar_59 ?_
      refine v_dup (pc := 60) hX rfl d_Mo_readsJar_60 ?_
      refine g_getI (pc := 61) hX fl_Mo_111 rfl rfl d_Mo_readsJar_61 ?_
      rw [RS_12]
      refine v_iconst (pc := 64) (v := 1) hX (by decide) d_Mo_readsJar_64 ?_
      refine v_iadd (pc := 65) hX d_Mo_readsJar_65 ?_
      refine g_putI (pc := 66) hX fl_Mo_111 rfl (finI rfl rfl) rfl rfl rfl d_Mo_readsJar_66 ?_
      rw [show i3 (1 + 6 * x + 1) + 1 = i3 (1 + 6 * x + 2) from (i3_succ _).symm, RS_at]
      refine v_aload_n (pc := 69) hX rfl d_Mo_readsJar_69 ?_
      refine v_iload_n (pc := 70) hX rfl d_Mo_readsJar_70 ?_
      refine v_iload_n (pc := 71) hX rfl d_Mo_readsJar_71 ?_
      refine v_iconst (pc := 72) (v := 0) hX (by decide) d_Mo_readsJar_72 ?_
      refine f_callV (pc := 73) hX k_Mo_figure ki_Mo_figure kv_Mo_figure ml_Mo_123 (C_Mo_figY (r := 1 + 6 * x + 2 + 0) hF hm hq (by omega) (by decide) d0) rfl rfl rfl rfl rfl (Nat.le_of_ble_eq_true rfl) (Nat.le_of_ble_eq_true rfl) (Nat.le_of_ble_eq_true rfl) d_Mo_readsJar_73 ?_
      refine v_istore (pc := 76) (lo' := [some (vR _), some (vI _), some (vI _), some (vI _), some (vI _), none, none, none]) hX (Nat.le_of_ble_eq_true rfl) rfl d_Mo_readsJar_76 ?_
      refine v_aload_n (pc := 78) hX rfl d_Mo_readsJar_78 ?_
      refine v_iload_n (pc := 79) hX rfl d_Mo_readsJar_79 ?_
      refine v_iload_n (pc := 80) hX rfl d_Mo_readsJar_80 ?_
      refine v_iload (pc := 81) hX rfl d_Mo_readsJar_81 ?_
      refine f_callV (pc := 83) hX k_Mo_figure ki_Mo_figure kv_Mo_figure ml_Mo_123 (C_Mo_figY (r := 1 + 6 * x + 2 + 1) hF hm hq (by omega) (dg_ge d0) d1) rfl rfl rfl rfl rfl (Nat.le_of_ble_eq_true rfl) (Nat.le_of_ble_eq_true rfl) (Nat.le_of_ble_eq_true rfl) d_Mo_readsJar_83 ?_
      refine v_istore (pc := 86) (lo' := [some (vR _), some (vI _), some (vI _), some (vI _), some (vI _), some (vI _), none, none]) hX (Nat.le_of_ble_eq_true rfl) rfl d_Mo_readsJar_86 ?_
      refine v_aload_n (pc := 88) hX rfl d_Mo_readsJar_88 ?_
      refine v_iload_n (pc := 89) hX rfl d_Mo_readsJar_89 ?_
      refine v_iload_n (pc := 90) hX rfl d_Mo_readsJar_90 ?_
      refine v_iload (pc := 91) hX rfl d_Mo_readsJar_91 ?_
      refine f_callV (pc := 93) hX k_Mo_figure ki_Mo_figure kv_Mo_figure ml_Mo_123 (C_Mo_figY (r := 1 + 6 * x + 2 + 2) hF hm hq (by omega) (dg_ge d1) d2) rfl rfl rfl rfl rfl (Nat.le_of_ble_eq_true rfl) (Nat.le_of_ble_eq_true rfl) (Nat.le_of_ble_eq_true rfl) d_Mo_readsJar_93 ?_
      refine v_istore (pc := 96) (lo' := [some (vR _), some (vI _), some (vI _), some (vI _), some (vI _), some (vI _), some (vI _), none]) hX (Nat.le_of_ble_eq_true rfl) rfl d_Mo_readsJar_96 ?_
      refine v_aload_n (pc := 98) hX rfl d_Mo_readsJar_98 ?_
      refine v_iload_n (pc := 99) hX rfl d_Mo_readsJar_99 ?_
      refine v_iload_n (pc := 100) hX rfl d_Mo_readsJar_100 ?_
      refine v_iload (pc := 101) hX rfl d_Mo_readsJar_101 ?_
      refine f_callV (pc := 103) hX k_Mo_figure ki_Mo_figure kv_Mo_figure ml_Mo_123 (C_Mo_figN (r := 1 + 6 * x + 2 + 3) hF hm hq (by omega) (dg_ge d2) d3) rfl rfl rfl rfl rfl (Nat.le_of_ble_eq_true rfl) (Nat.le_of_ble_eq_true rfl) (Nat.le_of_ble_eq_true rfl) d_Mo_readsJar_103 ?_
      refine v_istore (pc := 106) (lo' := [some (vR _), some (vI _), some (vI _), some (vI _), some (vI _), some (vI _), some (vI _), some (vI _)]) hX (Nat.le_of_ble_eq_true rfl) rfl d_Mo_readsJar_106 ?_
      refine v_iload (pc := 108) hX rfl d_Mo_readsJar_108 ?_
      refine v_if_ge (pc := 110) (tgt := 115) hX d_Mo_readsJar_110 rfl (fun h110 => False.elim (absurd h110 (by decide))) (fun h110 => ?_)
      refine v_iconst (pc := 113) (v := 0) hX (by decide) d_Mo_readsJar_113 ?_
      exact f_zret (pc := 114) hX hR (rfl) (rfl) d_Mo_readsJar_114
    · refine v_iload_n (pc := 51) hX rfl d_Mo_readsJar_51 ?_
      refine v_bipush (pc := 52) (v := 112) hX (by decide) d_Mo_readsJar_52 ?_
      refine v_icmp_eq (pc := 54) (tgt := 59) hX d_Mo_readsJar_54 rfl (fun h54 => ?_) (fun h54 => False.elim (by rcases kc_ok.mpr hk with w | w | w; exact h42 w; exact h48 w; exact h54 w))
      refine v_aload_n (pc := 59) hX rfl d_Mo_readsJar_59 ?_
      refine v_dup (pc := 60) hX rfl d_Mo_readsJar_60 ?_
      refine g_getI (pc := 61) hX fl_Mo_111 rfl rfl d_Mo_readsJar_61 ?_
      rw [RS_12]
      refine v_iconst (pc := 64) (v := 1) hX (by decide) d_Mo_readsJar_64 ?_
      refine v_iadd (pc := 65) hX d_Mo_readsJar_65 ?_
      refine g_putI (pc := 66) hX fl_Mo_111 rfl (finI rfl rfl) rfl rfl rfl d_Mo_readsJar_66 ?_
      rw [show i3 (1 + 6 * x + 1) + 1 = i3 (1 + 6 * x + 2) from (i3_succ _).symm, RS_at]
      refine v_aload_n (pc := 69) hX rfl d_Mo_readsJar_69 ?_
      refine v_iload_n (pc := 70) hX rfl d_Mo_readsJar_70 ?_
      refine v_iload_n (pc := 71) hX rfl d_Mo_readsJar_71 ?_
      refine v_iconst (pc := 72) (v := 0) hX (by decide) d_Mo_readsJar_72 ?_
      refine f_callV (pc := 73) hX k_Mo_figure ki_Mo_figure kv_Mo_figure ml_Mo_123 (C_Mo_figY (r := 1 + 6 * x + 2 + 0) hF hm hq (by omega) (by decide) d0) rfl rfl rfl rfl rfl (Nat.le_of_ble_eq_true rfl) (Nat.le_of_ble_eq_true rfl) (Nat.le_of_ble_eq_true rfl) d_Mo_readsJar_73 ?_
      refine v_istore (pc := 76) (lo' := [some (vR _), some (vI _), some (vI _), some (vI _), some (vI _), none, none, none]) hX (Nat.le_of_ble_eq_true rfl) rfl d_Mo_readsJar_76 ?_
      refine v_aload_n (pc := 78) hX rfl d_Mo_readsJar_78 ?_
      refine v_iload_n (pc := 79) hX rfl d_Mo_readsJar_79 ?_
      refine v_iload_n (pc := 80) hX rfl d_Mo_readsJar_80 ?_
      refine v_iload (pc := 81) hX rfl d_Mo_readsJar_81 ?_
      refine f_callV (pc := 83) hX k_Mo_figure ki_Mo_figure kv_Mo_figure ml_Mo_123 (C_Mo_figY (r := 1 + 6 * x + 2 + 1) hF hm hq (by omega) (dg_ge d0) d1) rfl rfl rfl rfl rfl (Nat.le_of_ble_eq_true rfl) (Nat.le_of_ble_eq_true rfl) (Nat.le_of_ble_eq_true rfl) d_Mo_readsJar_83 ?_
      refine v_istore (pc := 86) (lo' := [some (vR _), some (vI _), some (vI _), some (vI _), some (vI _), some (vI _), none, none]) hX (Nat.le_of_ble_eq_true rfl) rfl d_Mo_readsJar_86 ?_
      refine v_aload_n (pc := 88) hX rfl d_Mo_readsJar_88 ?_
      refine v_iload_n (pc := 89) hX rfl d_Mo_readsJar_89 ?_
      refine v_iload_n (pc := 90) hX rfl d_Mo_readsJar_90 ?_
      refine v_iload (pc := 91) hX rfl d_Mo_readsJar_91 ?_
      refine f_callV (pc := 93) hX k_Mo_figure ki_Mo_figure kv_Mo_figure ml_Mo_123 (C_Mo_figY (r := 1 + 6 * x + 2 + 2) hF hm hq (by omega) (dg_ge d1) d2) rfl rfl rfl rfl rfl (Nat.le_of_ble_eq_true rfl) (Nat.le_of_ble_eq_true rfl) (Nat.le_of_ble_eq_true rfl) d_Mo_readsJar_93 ?_
      refine v_istore (pc := 96) (lo' := [some (vR _), some (vI _), some (vI _), some (vI _), some (vI _), some (vI _), some (vI _), none]) hX (Nat.le_of_ble_eq_true rfl) rfl d_Mo_readsJar_96 ?_
      refine v_aload_n (pc := 98) hX rfl d_Mo_readsJar_98 ?_
      refine v_iload_n (pc := 99) hX rfl d_Mo_readsJar_99 ?_
      refine v_iload_n (pc := 100) hX rfl d_Mo_readsJar_100 ?_
      refine v_iload (pc := 101) hX rfl d_Mo_readsJar_101 ?_
      refine f_callV (pc := 103) hX k_Mo_figure ki_Mo_figure kv_Mo_figure ml_Mo_123 (C_Mo_figN (r := 1 + 6 * x + 2 + 3) hF hm hq (by omega) (dg_ge d2) d3) rfl rfl rfl rfl rfl (Nat.le_of_ble_eq_true rfl) (Nat.le_of_ble_eq_true rfl) (Nat.le_of_ble_eq_true rfl) d_Mo_readsJar_103 ?_
      refine v_istore (pc := 106) (lo' := [some (vR _), some (vI _), some (vI _), some (vI _), some (vI _), some (vI _), some (vI _), some (vI _)]) hX (Nat.le_of_ble_eq_true rfl) rfl d_Mo_readsJar_106 ?_
      refine v_iload (pc := 108) hX rfl d_Mo_readsJar_108 ?_
      refine v_if_ge (pc := 110) (tgt := 115) hX d_Mo_readsJar_110 rfl (fun h110 => False.elim (absurd h110 (by decide))) (fun h110 => ?_)
      refine v_iconst (pc := 113) (v := 0) hX (by decide) d_Mo_readsJar_113 ?_
      exact f_zret (pc := 114) hX hR (rfl) (rfl) d_Mo_readsJar_114
set_option maxHeartbeats 4000000 in
theorem C_Mo_rJ_ok {M : MM} {F m x y P : Nat} {q : Nat → Int32} (hF : F + m ≤ 240) (hm : m ≤ 60) (hq : ∀ t, t < m → M 62 (F + t) = q t) (hx : x ≤ 6) (hx6 : x < 6) (hs : stB q m (1 + 6 * x) 59 = true) (hk : (1 + 6 * x + 1 < m ∧ kcN (q (1 + 6 * x + 1)) ≠ -9)) (d0 : dgB q m (1 + 6 * x + 2 + 0) = true) (d1 : dgB q m (1 + 6 * x + 2 + 1) = true) (d2 : dgB q m (1 + 6 * x + 2 + 2) = true) (d3 : dgB q m (1 + 6 * x + 2 + 3) = true) : AF y_Mo_readsJar c_Mo_readsJar 8 (some .boolean) 3 [vR 36, vI (i3 F), vI (i3 m)] (RS M q (1 + 6 * x) x y P) (some (vI (bI true))) (RS M q (1 + 6 * x + 6) (x + 1) y P) := by
  refine AF.of k_Mo_readsJar (lo := [some (vR 36), some (vI (i3 F)), some (vI (i3 m)), none, none, none, none, none]) rfl (Nat.le_of_ble_eq_true rfl) (fun X hX hR => ?_)
  refine v_aload_n (pc := 0) hX rfl d_Mo_readsJar_0 ?_
  refine g_getI (pc := 1) hX fl_Mo_120 rfl rfl d_Mo_readsJar_1 ?_
  rw [RS_13]
  refine v_bipush (pc := 4) (v := 6) hX (by decide) d_Mo_readsJar_4 ?_
  refine v_icmp_eq (pc := 6) (tgt := 20) hX d_Mo_readsJar_6 rfl (fun h6 => False.elim (by have := (i3_inj (a := x) (b := 6) (by omega) (by decide)).mp h6; omega)) (fun h6 => ?_)
  refine v_aload_n (pc := 9) hX rfl d_Mo_readsJar_9 ?_
  refine v_iload_n (pc := 10) hX rfl d_Mo_readsJar_10 ?_
  refine v_iload_n (pc := 11) hX rfl d_Mo_readsJar_11 ?_
  refine f_callV (pc := 12) hX k_Mo_codeAt ki_Mo_codeAt kv_Mo_codeAt ml_Mo_114 (C_Mo_codeAt (r := 1 + 6 * x) hF hm hq (by omega)) rfl rfl rfl rfl rfl (Nat.le_of_ble_eq_true rfl) (Nat.le_of_ble_eq_true rfl) (Nat.le_of_ble_eq_true rfl) d_Mo_readsJar_12 ?_
  refine v_bipush (pc := 15) (v := 59) hX (by decide) d_Mo_readsJar_15 ?_
  refine v_icmp_eq (pc := 17) (tgt := 22) hX d_Mo_readsJar_17 rfl (fun h17 => ?_) (fun h17 => False.elim (h17 ((cdA_st (by decide)).mpr hs)))
  refine v_aload_n (pc := 22) hX rfl d_Mo_readsJar_22 ?_
  refine v_dup (pc := 23) hX rfl d_Mo_readsJar_23 ?_
  refine g_getI (pc := 24) hX fl_Mo_111 rfl rfl d_Mo_readsJar_24 ?_
  rw [RS_12]
  refine v_iconst (pc := 27) (v := 1) hX (by decide) d_Mo_readsJar_27 ?_
  refine v_iadd (pc := 28) hX d_Mo_readsJar_28 ?_
  refine g_putI (pc := 29) hX fl_Mo_111 rfl (finI rfl rfl) rfl rfl rfl d_Mo_readsJar_29 ?_
  rw [show i3 (1 + 6 * x) + 1 = i3 (1 + 6 * x + 1) from (i3_succ _).symm, RS_at]
  refine v_aload_n (pc := 32) hX rfl d_Mo_readsJar_32 ?_
  refine v_iload_n (pc := 33) hX rfl d_Mo_readsJar_33 ?_
  refine v_iload_n (pc := 34) hX rfl d_Mo_readsJar_34 ?_
  refine f_callV (pc := 35) hX k_Mo_codeAt ki_Mo_codeAt kv_Mo_codeAt ml_Mo_114 (C_Mo_codeAt (r := 1 + 6 * x + 1) hF hm hq (by omega)) rfl rfl rfl rfl rfl (Nat.le_of_ble_eq_true rfl) (Nat.le_of_ble_eq_true rfl) (Nat.le_of_ble_eq_true rfl) d_Mo_readsJar_35 ?_
  refine v_istore_n (pc := 38) (lo' := [some (vR _), some (vI _), some (vI _), some (vI _), none, none, none, none]) hX (Nat.le_of_ble_eq_true rfl) rfl d_Mo_readsJar_38 ?_
  have hcd : cdA q m (1 + 6 * x + 1) = q (1 + 6 * x + 1) := if_pos hk.1
  refine v_iload_n (pc := 39) hX rfl d_Mo_readsJar_39 ?_
  refine v_bipush (pc := 40) (v := 108) hX (by decide) d_Mo_readsJar_40 ?_
  refine v_icmp_eq (pc := 42) (tgt := 59) hX d_Mo_readsJar_42 rfl (fun h42 => ?_) (fun h42 => ?_)
  · refine v_aload_n (pc := 59) hX rfl d_Mo_readsJar_59 ?_
    refine v_dup (pc := 60) hX rfl d_Mo_readsJar_60 ?_
    refine g_getI (pc := 61) hX fl_Mo_111 rfl rfl d_Mo_readsJar_61 ?_
    rw [RS_12]
    refine v_iconst (pc := 64) (v := 1) hX (by decide) d_Mo_readsJar_64 ?_
    refine v_iadd (pc := 65) hX d_Mo_readsJar_65 ?_
    refine g_putI (pc := 66) hX fl_Mo_111 rfl (finI rfl rfl) rfl rfl rfl d_Mo_readsJar_66 ?_
    rw [show i3 (1 + 6 * x + 1) + 1 = i3 (1 + 6 * x + 2) from (i3_succ _).symm, RS_at]
    refine v_aload_n (pc := 69) hX rfl d_Mo_readsJar_69 ?_
    refine v_iload_n (pc := 70) hX rfl d_Mo_readsJar_70 ?_
    refine v_iload_n (pc := 71) hX rfl d_Mo_readsJar_71 ?_
    refine v_iconst (pc := 72) (v := 0) hX (by decide) d_Mo_readsJar_72 ?_
    refine f_callV (pc := 73) hX k_Mo_figure ki_Mo_figure kv_Mo_figure ml_Mo_123 (C_Mo_figY (r := 1 + 6 * x + 2 + 0) hF hm hq (by omega) (by decide) d0) rfl rfl rfl rfl rfl (Nat.le_of_ble_eq_true rfl) (Nat.le_of_ble_eq_true rfl) (Nat.le_of_ble_eq_true rfl) d_Mo_readsJar_73 ?_
    refine v_istore (pc := 76) (lo' := [some (vR _), some (vI _), some (vI _), some (vI _), some (vI _), none, none, none]) hX (Nat.le_of_ble_eq_true rfl) rfl d_Mo_readsJar_76 ?_
    refine v_aload_n (pc := 78) hX rfl d_Mo_readsJar_78 ?_
    refine v_iload_n (pc := 79) hX rfl d_Mo_readsJar_79 ?_
    refine v_iload_n (pc := 80) hX rfl d_Mo_readsJar_80 ?_
    refine v_iload (pc := 81) hX rfl d_Mo_readsJar_81 ?_
    refine f_callV (pc := 83) hX k_Mo_figure ki_Mo_figure kv_Mo_figure ml_Mo_123 (C_Mo_figY (r := 1 + 6 * x + 2 + 1) hF hm hq (by omega) (dg_ge d0) d1) rfl rfl rfl rfl rfl (Nat.le_of_ble_eq_true rfl) (Nat.le_of_ble_eq_true rfl) (Nat.le_of_ble_eq_true rfl) d_Mo_readsJar_83 ?_
    refine v_istore (pc := 86) (lo' := [some (vR _), some (vI _), some (vI _), some (vI _), some (vI _), some (vI _), none, none]) hX (Nat.le_of_ble_eq_true rfl) rfl d_Mo_readsJar_86 ?_
    refine v_aload_n (pc := 88) hX rfl d_Mo_readsJar_88 ?_
    refine v_iload_n (pc := 89) hX rfl d_Mo_readsJar_89 ?_
    refine v_iload_n (pc := 90) hX rfl d_Mo_readsJar_90 ?_
    refine v_iload (pc := 91) hX rfl d_Mo_readsJar_91 ?_
    refine f_callV (pc := 93) hX k_Mo_figure ki_Mo_figure kv_Mo_figure ml_Mo_123 (C_Mo_figY (r := 1 + 6 * x + 2 + 2) hF hm hq (by omega) (dg_ge d1) d2) rfl rfl rfl rfl rfl (Nat.le_of_ble_eq_true rfl) (Nat.le_of_ble_eq_true rfl) (Nat.le_of_ble_eq_true rfl) d_Mo_readsJar_93 ?_
    refine v_istore (pc := 96) (lo' := [some (vR _), some (vI _), some (vI _), some (vI _), some (vI _), some (vI _), some (vI _), none]) hX (Nat.le_of_ble_eq_true rfl) rfl d_Mo_readsJar_96 ?_
    refine v_aload_n (pc := 98) hX rfl d_Mo_readsJar_98 ?_
    refine v_iload_n (pc := 99) hX rfl d_Mo_readsJar_99 ?_
    refine v_iload_n (pc := 100) hX rfl d_Mo_readsJar_100 ?_
    refine v_iload (pc := 101) hX rfl d_Mo_readsJar_101 ?_
    refine f_callV (pc := 103) hX k_Mo_figure ki_Mo_figure kv_Mo_figure ml_Mo_123 (C_Mo_figY (r := 1 + 6 * x + 2 + 3) hF hm hq (by omega) (dg_ge d2) d3) rfl rfl rfl rfl rfl (Nat.le_of_ble_eq_true rfl) (Nat.le_of_ble_eq_true rfl) (Nat.le_of_ble_eq_true rfl) d_Mo_readsJar_103 ?_
    refine v_istore (pc := 106) (lo' := [some (vR _), some (vI _), some (vI _), some (vI _), some (vI _), some (vI _), some (vI _), some (vI _)]) hX (Nat.le_of_ble_eq_true rfl) rfl d_Mo_readsJar_106 ?_
    refine v_iload (pc := 108) hX rfl d_Mo_readsJar_108 ?_
    refine v_if_ge (pc := 110) (tgt := 115) hX d_Mo_readsJar_110 rfl (fun h110 => ?_) (fun h110 => False.elim (h110 (dg_ge d3)))
    refine v_aload_n (pc := 115) hX rfl d_Mo_readsJar_115 ?_
    refine g_getR (pc := 116) hX fl_Mo_37 rfl rfl nf_36_15 d_Mo_readsJar_116 ?_
    refine v_aload_n (pc := 119) hX rfl d_Mo_readsJar_119 ?_
    refine g_getI (pc := 120) hX fl_Mo_120 rfl rfl d_Mo_readsJar_120 ?_
    rw [RS_13]
    refine v_iload_n (pc := 123) hX rfl d_Mo_readsJar_123 ?_
    refine v_bipush (pc := 124) (v := 108) hX (by decide) d_Mo_readsJar_124 ?_
    refine v_icmp_ne (pc := 126) (tgt := 133) hX d_Mo_readsJar_126 rfl (fun h126 => ?_) (fun h126 => ?_)
    · refine v_iload_n (pc := 133) hX rfl d_Mo_readsJar_133 ?_
      refine v_bipush (pc := 134) (v := 119) hX (by decide) d_Mo_readsJar_134 ?_
      refine v_icmp_ne (pc := 136) (tgt := 143) hX d_Mo_readsJar_136 rfl (fun h136 => ?_) (fun h136 => ?_)
      · refine v_iconst (pc := 143) (v := 2) hX (by decide) d_Mo_readsJar_143 ?_
        refine g_iast (pc := 144) hX rfl (IX.of (n := 6) (by omega) (by decide)) d_Mo_readsJar_144 ?_
        refine v_aload_n (pc := 145) hX rfl d_Mo_readsJar_145 ?_
        refine g_getR (pc := 146) hX fl_Mo_40 rfl rfl nf_36_16 d_Mo_readsJar_146 ?_
        refine v_aload_n (pc := 149) hX rfl d_Mo_readsJar_149 ?_
        refine g_getI (pc := 150) hX fl_Mo_120 rfl rfl d_Mo_readsJar_150 ?_
        rw [upM_ne (by omega), RS_13]
        refine v_iload (pc := 153) hX rfl d_Mo_readsJar_153 ?_
        refine g_iast (pc := 155) hX rfl (IX.of (n := 6) (by omega) (by decide)) d_Mo_readsJar_155 ?_
        refine v_aload_n (pc := 156) hX rfl d_Mo_readsJar_156 ?_
        refine g_getR (pc := 157) hX fl_Mo_43 rfl rfl nf_36_17 d_Mo_readsJar_157 ?_
        refine v_aload_n (pc := 160) hX rfl d_Mo_readsJar_160 ?_
        refine g_getI (pc := 161) hX fl_Mo_120 rfl rfl d_Mo_readsJar_161 ?_
        rw [upM_ne (by omega), upM_ne (by omega), RS_13]
        refine v_iload (pc := 164) hX rfl d_Mo_readsJar_164 ?_
        refine g_iast (pc := 166) hX rfl (IX.of (n := 6) (by omega) (by decide)) d_Mo_readsJar_166 ?_
        refine v_aload_n (pc := 167) hX rfl d_Mo_readsJar_167 ?_
        refine g_getR (pc := 168) hX fl_Mo_46 rfl rfl nf_36_18 d_Mo_readsJar_168 ?_
        refine v_aload_n (pc := 171) hX rfl d_Mo_readsJar_171 ?_
        refine g_getI (pc := 172) hX fl_Mo_120 rfl rfl d_Mo_readsJar_172 ?_
        rw [upM_ne (by omega), upM_ne (by omega), upM_ne (by omega), RS_13]
        refine v_iload (pc := 175) hX rfl d_Mo_readsJar_175 ?_
        refine g_iast (pc := 177) hX rfl (IX.of (n := 6) (by omega) (by decide)) d_Mo_readsJar_177 ?_
        refine v_aload_n (pc := 178) hX rfl d_Mo_readsJar_178 ?_
        refine g_getR (pc := 179) hX fl_Mo_49 rfl rfl nf_36_19 d_Mo_readsJar_179 ?_
        refine v_aload_n (pc := 182) hX rfl d_Mo_readsJar_182 ?_
        refine g_getI (pc := 183) hX fl_Mo_120 rfl rfl d_Mo_readsJar_183 ?_
        rw [upM_ne (by omega), upM_ne (by omega), upM_ne (by omega), upM_ne (by omega), RS_13]
        refine v_iload (pc := 186) hX rfl d_Mo_readsJar_186 ?_
        refine g_iast (pc := 188) hX rfl (IX.of (n := 6) (by omega) (by decide)) d_Mo_readsJar_188 ?_
        refine v_aload_n (pc := 189) hX rfl d_Mo_readsJar_189 ?_
        refine v_dup (pc := 190) hX rfl d_Mo_readsJar_190 ?_
        refine g_getI (pc := 191) hX fl_Mo_120 rfl rfl d_Mo_readsJar_191 ?_
        rw [upM_ne (by omega), upM_ne (by omega), upM_ne (by omega), upM_ne (by omega), upM_ne (by omega), RS_13]
        refine v_iconst (pc := 194) (v := 1) hX (by decide) d_Mo_readsJar_194 ?_
        refine v_iadd (pc := 195) hX d_Mo_readsJar_195 ?_
        refine g_putI (pc := 196) hX fl_Mo_120 rfl (finI rfl rfl) rfl rfl rfl d_Mo_readsJar_196 ?_
        refine v_iconst (pc := 199) (v := 1) hX (by decide) d_Mo_readsJar_199 ?_
        exact f_zret (pc := 200) hX hR (rfl) (RS_J (by unfold tJf kcN; rw [if_pos rfl, ← hcd]; first | (rw [if_pos (by simpa using h126)]) | (rw [if_neg h126, if_neg (by rw [show cdA q m (1 + 6 * x + 1) = 119 from by simpa using h136]; decide), if_pos (by simpa using h136)]) | (rw [if_neg h126, if_pos (by rcases kc_ok.mpr hk with w | w | w; exact absurd w h126; exact absurd w h136; exact w)])) rfl rfl rfl rfl) d_Mo_readsJar_200
      · refine v_iconst (pc := 139) (v := 1) hX (by decide) d_Mo_readsJar_139 ?_
        refine v_goto (pc := 140) (tgt := 144) hX d_Mo_readsJar_140 rfl ?_
        refine g_iast (pc := 144) hX rfl (IX.of (n := 6) (by omega) (by decide)) d_Mo_readsJar_144 ?_
        refine v_aload_n (pc := 145) hX rfl d_Mo_readsJar_145 ?_
        refine g_getR (pc := 146) hX fl_Mo_40 rfl rfl nf_36_16 d_Mo_readsJar_146 ?_
        refine v_aload_n (pc := 149) hX rfl d_Mo_readsJar_149 ?_
        refine g_getI (pc := 150) hX fl_Mo_120 rfl rfl d_Mo_readsJar_150 ?_
        rw [upM_ne (by omega), RS_13]
        refine v_iload (pc := 153) hX rfl d_Mo_readsJar_153 ?_
        refine g_iast (pc := 155) hX rfl (IX.of (n := 6) (by omega) (by decide)) d_Mo_readsJar_155 ?_
        refine v_aload_n (pc := 156) hX rfl d_Mo_readsJar_156 ?_
        refine g_getR (pc := 157) hX fl_Mo_43 rfl rfl nf_36_17 d_Mo_readsJar_157 ?_
        refine v_aload_n (pc := 160) hX rfl d_Mo_readsJar_160 ?_
        refine g_getI (pc := 161) hX fl_Mo_120 rfl rfl d_Mo_readsJar_161 ?_
        rw [upM_ne (by omega), upM_ne (by omega), RS_13]
        refine v_iload (pc := 164) hX rfl d_Mo_readsJar_164 ?_
        refine g_iast (pc := 166) hX rfl (IX.of (n := 6) (by omega) (by decide)) d_Mo_readsJar_166 ?_
        refine v_aload_n (pc := 167) hX rfl d_Mo_readsJar_167 ?_
        refine g_getR (pc := 168) hX fl_Mo_46 rfl rfl nf_36_18 d_Mo_readsJar_168 ?_
        refine v_aload_n (pc := 171) hX rfl d_Mo_readsJar_171 ?_
        refine g_getI (pc := 172) hX fl_Mo_120 rfl rfl d_Mo_readsJar_172 ?_
        rw [upM_ne (by omega), upM_ne (by omega), upM_ne (by omega), RS_13]
        refine v_iload (pc := 175) hX rfl d_Mo_readsJar_175 ?_
        refine g_iast (pc := 177) hX rfl (IX.of (n := 6) (by omega) (by decide)) d_Mo_readsJar_177 ?_
        refine v_aload_n (pc := 178) hX rfl d_Mo_readsJar_178 ?_
        refine g_getR (pc := 179) hX fl_Mo_49 rfl rfl nf_36_19 d_Mo_readsJar_179 ?_
        refine v_aload_n (pc := 182) hX rfl d_Mo_readsJar_182 ?_
        refine g_getI (pc := 183) hX fl_Mo_120 rfl rfl d_Mo_readsJar_183 ?_
        rw [upM_ne (by omega), upM_ne (by omega), upM_ne (by omega), upM_ne (by omega), RS_13]
        refine v_iload (pc := 186) hX rfl d_Mo_readsJar_186 ?_
        refine g_iast (pc := 188) hX rfl (IX.of (n := 6) (by omega) (by decide)) d_Mo_readsJar_188 ?_
        refine v_aload_n (pc := 189) hX rfl d_Mo_readsJar_189 ?_
        refine v_dup (pc := 190) hX rfl d_Mo_readsJar_190 ?_
        refine g_getI (pc := 191) hX fl_Mo_120 rfl rfl d_Mo_readsJar_191 ?_
        rw [upM_ne (by omega), upM_ne (by omega), upM_ne (by omega), upM_ne (by omega), upM_ne (by omega), RS_13]
        refine v_iconst (pc := 194) (v := 1) hX (by decide) d_Mo_readsJar_194 ?_
        refine v_iadd (pc := 195) hX d_Mo_readsJar_195 ?_
        refine g_putI (pc := 196) hX fl_Mo_120 rfl (finI rfl rfl) rfl rfl rfl d_Mo_readsJar_196 ?_
        refine v_iconst (pc := 199) (v := 1) hX (by decide) d_Mo_readsJar_199 ?_
        exact f_zret (pc := 200) hX hR (rfl) (RS_J (by unfold tJf kcN; rw [if_pos rfl, ← hcd]; first | (rw [if_pos (by simpa using h126)]) | (rw [if_neg h126, if_neg (by rw [show cdA q m (1 + 6 * x + 1) = 119 from by simpa using h136]; decide), if_pos (by simpa using h136)]) | (rw [if_neg h126, if_pos (by rcases kc_ok.mpr hk with w | w | w; exact absurd w h126; exact absurd w h136; exact w)])) rfl rfl rfl rfl) d_Mo_readsJar_200
    · refine v_iconst (pc := 129) (v := 0) hX (by decide) d_Mo_readsJar_129 ?_
      refine v_goto (pc := 130) (tgt := 144) hX d_Mo_readsJar_130 rfl ?_
      refine g_iast (pc := 144) hX rfl (IX.of (n := 6) (by omega) (by decide)) d_Mo_readsJar_144 ?_
      refine v_aload_n (pc := 145) hX rfl d_Mo_readsJar_145 ?_
      refine g_getR (pc := 146) hX fl_Mo_40 rfl rfl nf_36_16 d_Mo_readsJar_146 ?_
      refine v_aload_n (pc := 149) hX rfl d_Mo_readsJar_149 ?_
      refine g_getI (pc := 150) hX fl_Mo_120 rfl rfl d_Mo_readsJar_150 ?_
      rw [upM_ne (by omega), RS_13]
      refine v_iload (pc := 153) hX rfl d_Mo_readsJar_153 ?_
      refine g_iast (pc := 155) hX rfl (IX.of (n := 6) (by omega) (by decide)) d_Mo_readsJar_155 ?_
      refine v_aload_n (pc := 156) hX rfl d_Mo_readsJar_156 ?_
      refine g_getR (pc := 157) hX fl_Mo_43 rfl rfl nf_36_17 d_Mo_readsJar_157 ?_
      refine v_aload_n (pc := 160) hX rfl d_Mo_readsJar_160 ?_
      refine g_getI (pc := 161) hX fl_Mo_120 rfl rfl d_Mo_readsJar_161 ?_
      rw [upM_ne (by omega), upM_ne (by omega), RS_13]
      refine v_iload (pc := 164) hX rfl d_Mo_readsJar_164 ?_
      refine g_iast (pc := 166) hX rfl (IX.of (n := 6) (by omega) (by decide)) d_Mo_readsJar_166 ?_
      refine v_aload_n (pc := 167) hX rfl d_Mo_readsJar_167 ?_
      refine g_getR (pc := 168) hX fl_Mo_46 rfl rfl nf_36_18 d_Mo_readsJar_168 ?_
      refine v_aload_n (pc := 171) hX rfl d_Mo_readsJar_171 ?_
      refine g_getI (pc := 172) hX fl_Mo_120 rfl rfl d_Mo_readsJar_172 ?_
      rw [upM_ne (by omega), upM_ne (by omega), upM_ne (by omega), RS_13]
      refine v_iload (pc := 175) hX rfl d_Mo_readsJar_175 ?_
      refine g_iast (pc := 177) hX rfl (IX.of (n := 6) (by omega) (by decide)) d_Mo_readsJar_177 ?_
      refine v_aload_n (pc := 178) hX rfl d_Mo_readsJar_178 ?_
      refine g_getR (pc := 179) hX fl_Mo_49 rfl rfl nf_36_19 d_Mo_readsJar_179 ?_
      refine v_aload_n (pc := 182) hX rfl d_Mo_readsJar_182 ?_
      refine g_getI (pc := 183) hX fl_Mo_120 rfl rfl d_Mo_readsJar_183 ?_
      rw [upM_ne (by omega), upM_ne (by omega), upM_ne (by omega), upM_ne (by omega), RS_13]
      refine v_iload (pc := 186) hX rfl d_Mo_readsJar_186 ?_
      refine g_iast (pc := 188) hX rfl (IX.of (n := 6) (by omega) (by decide)) d_Mo_readsJar_188 ?_
      refine v_aload_n (pc := 189) hX rfl d_Mo_readsJar_189 ?_
      refine v_dup (pc := 190) hX rfl d_Mo_readsJar_190 ?_
      refine g_getI (pc := 191) hX fl_Mo_120 rfl rfl d_Mo_readsJar_191 ?_
      rw [upM_ne (by omega), upM_ne (by omega), upM_ne (by omega), upM_ne (by omega), upM_ne (by omega), RS_13]
      refine v_iconst (pc := 194) (v := 1) hX (by decide) d_Mo_readsJar_194 ?_
      refine v_iadd (pc := 195) hX d_Mo_readsJar_195 ?_
      refine g_putI (pc := 196) hX fl_Mo_120 rfl (finI rfl rfl) rfl rfl rfl d_Mo_readsJar_196 ?_
      refine v_iconst (pc := 199) (v := 1) hX (by decide) d_Mo_readsJar_199 ?_
      exact f_zret (pc := 200) hX hR (rfl) (RS_J (by unfold tJf kcN; rw [if_pos rfl, ← hcd]; first | (rw [if_pos (by simpa using h126)]) | (rw [if_neg h126, if_neg (by rw [show cdA q m (1 + 6 * x + 1) = 119 from by simpa using h136]; decide), if_pos (by simpa using h136)]) | (rw [if_neg h126, if_pos (by rcases kc_ok.mpr hk with w | w | w; exact absurd w h126; exact absurd w h136; exact w)])) rfl rfl rfl rfl) d_Mo_readsJar_200
  · refine v_iload_n (pc := 45) hX rfl d_Mo_readsJar_45 ?_
    refine v_bipush (pc := 46) (v := 119) hX (by decide) d_Mo_readsJar_46 ?_
    refine v_icmp_eq (pc := 48) (tgt := 59) hX d_Mo_readsJar_48 rfl (fun h48 => ?_) (fun h48 => ?_)
    · refine v_aload_n (pc := 59) hX rfl d_Mo_readsJar_59 ?_
      refine v_dup (pc := 60) hX rfl d_Mo_readsJar_60 ?_
      refine g_getI (pc := 61) hX fl_Mo_111 rfl rfl d_Mo_readsJar_61 ?_
      rw [RS_12]
      refine v_iconst (pc := 64) (v := 1) hX (by decide) d_Mo_readsJar_64 ?_
      refine v_iadd (pc := 65) hX d_Mo_readsJar_65 ?_
      refine g_putI (pc := 66) hX fl_Mo_111 rfl (finI rfl rfl) rfl rfl rfl d_Mo_readsJar_66 ?_
      rw [show i3 (1 + 6 * x + 1) + 1 = i3 (1 + 6 * x + 2) from (i3_succ _).symm, RS_at]
      refine v_aload_n (pc := 69) hX rfl d_Mo_readsJar_69 ?_
      refine v_iload_n (pc := 70) hX rfl d_Mo_readsJar_70 ?_
      refine v_iload_n (pc := 71) hX rfl d_Mo_readsJar_71 ?_
      refine v_iconst (pc := 72) (v := 0) hX (by decide) d_Mo_readsJar_72 ?_
      refine f_callV (pc := 73) hX k_Mo_figure ki_Mo_figure kv_Mo_figure ml_Mo_123 (C_Mo_figY (r := 1 + 6 * x + 2 + 0) hF hm hq (by omega) (by decide) d0) rfl rfl rfl rfl rfl (Nat.le_of_ble_eq_true rfl) (Nat.le_of_ble_eq_true rfl) (Nat.le_of_ble_eq_true rfl) d_Mo_readsJar_73 ?_
      refine v_istore (pc := 76) (lo' := [some (vR _), some (vI _), some (vI _), some (vI _), some (vI _), none, none, none]) hX (Nat.le_of_ble_eq_true rfl) rfl d_Mo_readsJar_76 ?_
      refine v_aload_n (pc := 78) hX rfl d_Mo_readsJar_78 ?_
      refine v_iload_n (pc := 79) hX rfl d_Mo_readsJar_79 ?_
      refine v_iload_n (pc := 80) hX rfl d_Mo_readsJar_80 ?_
      refine v_iload (pc := 81) hX rfl d_Mo_readsJar_81 ?_
      refine f_callV (pc := 83) hX k_Mo_figure ki_Mo_figure kv_Mo_figure ml_Mo_123 (C_Mo_figY (r := 1 + 6 * x + 2 + 1) hF hm hq (by omega) (dg_ge d0) d1) rfl rfl rfl rfl rfl (Nat.le_of_ble_eq_true rfl) (Nat.le_of_ble_eq_true rfl) (Nat.le_of_ble_eq_true rfl) d_Mo_readsJar_83 ?_
      refine v_istore (pc := 86) (lo' := [some (vR _), some (vI _), some (vI _), some (vI _), some (vI _), some (vI _), none, none]) hX (Nat.le_of_ble_eq_true rfl) rfl d_Mo_readsJar_86 ?_
      refine v_aload_n (pc := 88) hX rfl d_Mo_readsJar_88 ?_
      refine v_iload_n (pc := 89) hX rfl d_Mo_readsJar_89 ?_
      refine v_iload_n (pc := 90) hX rfl d_Mo_readsJar_90 ?_
      refine v_iload (pc := 91) hX rfl d_Mo_readsJar_91 ?_
      refine f_callV (pc := 93) hX k_Mo_figure ki_Mo_figure kv_Mo_figure ml_Mo_123 (C_Mo_figY (r := 1 + 6 * x + 2 + 2) hF hm hq (by omega) (dg_ge d1) d2) rfl rfl rfl rfl rfl (Nat.le_of_ble_eq_true rfl) (Nat.le_of_ble_eq_true rfl) (Nat.le_of_ble_eq_true rfl) d_Mo_readsJar_93 ?_
      refine v_istore (pc := 96) (lo' := [some (vR _), some (vI _), some (vI _), some (vI _), some (vI _), some (vI _), some (vI _), none]) hX (Nat.le_of_ble_eq_true rfl) rfl d_Mo_readsJar_96 ?_
      refine v_aload_n (pc := 98) hX rfl d_Mo_readsJar_98 ?_
      refine v_iload_n (pc := 99) hX rfl d_Mo_readsJar_99 ?_
      refine v_iload_n (pc := 100) hX rfl d_Mo_readsJar_100 ?_
      refine v_iload (pc := 101) hX rfl d_Mo_readsJar_101 ?_
      refine f_callV (pc := 103) hX k_Mo_figure ki_Mo_figure kv_Mo_figure ml_Mo_123 (C_Mo_figY (r := 1 + 6 * x + 2 + 3) hF hm hq (by omega) (dg_ge d2) d3) rfl rfl rfl rfl rfl (Nat.le_of_ble_eq_true rfl) (Nat.le_of_ble_eq_true rfl) (Nat.le_of_ble_eq_true rfl) d_Mo_readsJar_103 ?_
      refine v_istore (pc := 106) (lo' := [some (vR _), some (vI _), some (vI _), some (vI _), some (vI _), some (vI _), some (vI _), some (vI _)]) hX (Nat.le_of_ble_eq_true rfl) rfl d_Mo_readsJar_106 ?_
      refine v_iload (pc := 108) hX rfl d_Mo_readsJar_108 ?_
      refine v_if_ge (pc := 110) (tgt := 115) hX d_Mo_readsJar_110 rfl (fun h110 => ?_) (fun h110 => False.elim (h110 (dg_ge d3)))
      refine v_aload_n (pc := 115) hX rfl d_Mo_readsJar_115 ?_
      refine g_getR (pc := 116) hX fl_Mo_37 rfl rfl nf_36_15 d_Mo_readsJar_116 ?_
      refine v_aload_n (pc := 119) hX rfl d_Mo_readsJar_119 ?_
      refine g_getI (pc := 120) hX fl_Mo_120 rfl rfl d_Mo_readsJar_120 ?_
      rw [RS_13]
      refine v_iload_n (pc := 123) hX rfl d_Mo_readsJar_123 ?_
      refine v_bipush (pc := 124) (v := 108) hX (by decide) d_Mo_readsJar_124 ?_
      refine v_icmp_ne (pc := 126) (tgt := 133) hX d_Mo_readsJar_126 rfl (fun h126 => ?_) (fun h126 => ?_)
      · refine v_iload_n (pc := 133) hX rfl d_Mo_readsJar_133 ?_
        refine v_bipush (pc := 134) (v := 119) hX (by decide) d_Mo_readsJar_134 ?_
        refine v_icmp_ne (pc := 136) (tgt := 143) hX d_Mo_readsJar_136 rfl (fun h136 => ?_) (fun h136 => ?_)
        · refine v_iconst (pc := 143) (v := 2) hX (by decide) d_Mo_readsJar_143 ?_
          refine g_iast (pc := 144) hX rfl (IX.of (n := 6) (by omega) (by decide)) d_Mo_readsJar_144 ?_
          refine v_aload_n (pc := 145) hX rfl d_Mo_readsJar_145 ?_
          refine g_getR (pc := 146) hX fl_Mo_40 rfl rfl nf_36_16 d_Mo_readsJar_146 ?_
          refine v_aload_n (pc := 149) hX rfl d_Mo_readsJar_149 ?_
          refine g_getI (pc := 150) hX fl_Mo_120 rfl rfl d_Mo_readsJar_150 ?_
          rw [upM_ne (by omega), RS_13]
          refine v_iload (pc := 153) hX rfl d_Mo_readsJar_153 ?_
          refine g_iast (pc := 155) hX rfl (IX.of (n := 6) (by omega) (by decide)) d_Mo_readsJar_155 ?_
          refine v_aload_n (pc := 156) hX rfl d_Mo_readsJar_156 ?_
          refine g_getR (pc := 157) hX fl_Mo_43 rfl rfl nf_36_17 d_Mo_readsJar_157 ?_
          refine v_aload_n (pc := 160) hX rfl d_Mo_readsJar_160 ?_
          refine g_getI (pc := 161) hX fl_Mo_120 rfl rfl d_Mo_readsJar_161 ?_
          rw [upM_ne (by omega), upM_ne (by omega), RS_13]
          refine v_iload (pc := 164) hX rfl d_Mo_readsJar_164 ?_
          refine g_iast (pc := 166) hX rfl (IX.of (n := 6) (by omega) (by decide)) d_Mo_readsJar_166 ?_
          refine v_aload_n (pc := 167) hX rfl d_Mo_readsJar_167 ?_
          refine g_getR (pc := 168) hX fl_Mo_46 rfl rfl nf_36_18 d_Mo_readsJar_168 ?_
          refine v_aload_n (pc := 171) hX rfl d_Mo_readsJar_171 ?_
          refine g_getI (pc := 172) hX fl_Mo_120 rfl rfl d_Mo_readsJar_172 ?_
          rw [upM_ne (by omega), upM_ne (by omega), upM_ne (by omega), RS_13]
          refine v_iload (pc := 175) hX rfl d_Mo_readsJar_175 ?_
          refine g_iast (pc := 177) hX rfl (IX.of (n := 6) (by omega) (by decide)) d_Mo_readsJar_177 ?_
          refine v_aload_n (pc := 178) hX rfl d_Mo_readsJar_178 ?_
          refine g_getR (pc := 179) hX fl_Mo_49 rfl rfl nf_36_19 d_Mo_readsJar_179 ?_
          refine v_aload_n (pc := 182) hX rfl d_Mo_readsJar_182 ?_
          refine g_getI (pc := 183) hX fl_Mo_120 rfl rfl d_Mo_readsJar_183 ?_
          rw [upM_ne (by omega), upM_ne (by omega), upM_ne (by omega), upM_ne (by omega), RS_13]
          refine v_iload (pc := 186) hX rfl d_Mo_readsJar_186 ?_
          refine g_iast (pc := 188) hX rfl (IX.of (n := 6) (by omega) (by decide)) d_Mo_readsJar_188 ?_
          refine v_aload_n (pc := 189) hX rfl d_Mo_readsJar_189 ?_
          refine v_dup (pc := 190) hX rfl d_Mo_readsJar_190 ?_
          refine g_getI (pc := 191) hX fl_Mo_120 rfl rfl d_Mo_readsJar_191 ?_
          rw [upM_ne (by omega), upM_ne (by omega), upM_ne (by omega), upM_ne (by omega), upM_ne (by omega), RS_13]
          refine v_iconst (pc := 194) (v := 1) hX (by decide) d_Mo_readsJar_194 ?_
          refine v_iadd (pc := 195) hX d_Mo_readsJar_195 ?_
          refine g_putI (pc := 196) hX fl_Mo_120 rfl (finI rfl rfl) rfl rfl rfl d_Mo_readsJar_196 ?_
          refine v_iconst (pc := 199) (v := 1) hX (by decide) d_Mo_readsJar_199 ?_
          exact f_zret (pc := 200) hX hR (rfl) (RS_J (by unfold tJf kcN; rw [if_pos rfl, ← hcd]; first | (rw [if_pos (by simpa using h126)]) | (rw [if_neg h126, if_neg (by rw [show cdA q m (1 + 6 * x + 1) = 119 from by simpa using h136]; decide), if_pos (by simpa using h136)]) | (rw [if_neg h126, if_pos (by rcases kc_ok.mpr hk with w | w | w; exact absurd w h126; exact absurd w h136; exact w)])) rfl rfl rfl rfl) d_Mo_readsJar_200
        · refine v_iconst (pc := 139) (v := 1) hX (by decide) d_Mo_readsJar_139 ?_
          refine v_goto (pc := 140) (tgt := 144) hX d_Mo_readsJar_140 rfl ?_
          refine g_iast (pc := 144) hX rfl (IX.of (n := 6) (by omega) (by decide)) d_Mo_readsJar_144 ?_
          refine v_aload_n (pc := 145) hX rfl d_Mo_readsJar_145 ?_
          refine g_getR (pc := 146) hX fl_Mo_40 rfl rfl nf_36_16 d_Mo_readsJar_146 ?_
          refine v_aload_n (pc := 149) hX rfl d_Mo_readsJar_149 ?_
          refine g_getI (pc := 150) hX fl_Mo_120 rfl rfl d_Mo_readsJar_150 ?_
          rw [upM_ne (by omega), RS_13]
          refine v_iload (pc := 153) hX rfl d_Mo_readsJar_153 ?_
          refine g_iast (pc := 155) hX rfl (IX.of (n := 6) (by omega) (by decide)) d_Mo_readsJar_155 ?_
          refine v_aload_n (pc := 156) hX rfl d_Mo_readsJar_156 ?_
          refine g_getR (pc := 157) hX fl_Mo_43 rfl rfl nf_36_17 d_Mo_readsJar_157 ?_
          refine v_aload_n (pc := 160) hX rfl d_Mo_readsJar_160 ?_
          refine g_getI (pc := 161) hX fl_Mo_120 rfl rfl d_Mo_readsJar_161 ?_
          rw [upM_ne (by omega), upM_ne (by omega), RS_13]
          refine v_iload (pc := 164) hX rfl d_Mo_readsJar_164 ?_
          refine g_iast (pc := 166) hX rfl (IX.of (n := 6) (by omega) (by decide)) d_Mo_readsJar_166 ?_
          refine v_aload_n (pc := 167) hX rfl d_Mo_readsJar_167 ?_
          refine g_getR (pc := 168) hX fl_Mo_46 rfl rfl nf_36_18 d_Mo_readsJar_168 ?_
          refine v_aload_n (pc := 171) hX rfl d_Mo_readsJar_171 ?_
          refine g_getI (pc := 172) hX fl_Mo_120 rfl rfl d_Mo_readsJar_172 ?_
          rw [upM_ne (by omega), upM_ne (by omega), upM_ne (by omega), RS_13]
          refine v_iload (pc := 175) hX rfl d_Mo_readsJar_175 ?_
          refine g_iast (pc := 177) hX rfl (IX.of (n := 6) (by omega) (by decide)) d_Mo_readsJar_177 ?_
          refine v_aload_n (pc := 178) hX rfl d_Mo_readsJar_178 ?_
          refine g_getR (pc := 179) hX fl_Mo_49 rfl rfl nf_36_19 d_Mo_readsJar_179 ?_
          refine v_aload_n (pc := 182) hX rfl d_Mo_readsJar_182 ?_
          refine g_getI (pc := 183) hX fl_Mo_120 rfl rfl d_Mo_readsJar_183 ?_
          rw [upM_ne (by omega), upM_ne (by omega), upM_ne (by omega), upM_ne (by omega), RS_13]
          refine v_iload (pc := 186) hX rfl d_Mo_readsJar_186 ?_
          refine g_iast (pc := 188) hX rfl (IX.of (n := 6) (by omega) (by decide)) d_Mo_readsJar_188 ?_
          refine v_aload_n (pc := 189) hX rfl d_Mo_readsJar_189 ?_
          refine v_dup (pc := 190) hX rfl d_Mo_readsJar_190 ?_
          refine g_getI (pc := 191) hX fl_Mo_120 rfl rfl d_Mo_readsJar_191 ?_
          rw [upM_ne (by omega), upM_ne (by omega), upM_ne (by omega), upM_ne (by omega), upM_ne (by omega), RS_13]
          refine v_iconst (pc := 194) (v := 1) hX (by decide) d_Mo_readsJar_194 ?_
          refine v_iadd (pc := 195) hX d_Mo_readsJar_195 ?_
          refine g_putI (pc := 196) hX fl_Mo_120 rfl (finI rfl rfl) rfl rfl rfl d_Mo_readsJar_196 ?_
          refine v_iconst (pc := 199) (v := 1) hX (by decide) d_Mo_readsJar_199 ?_
          exact f_zret (pc := 200) hX hR (rfl) (RS_J (by unfold tJf kcN; rw [if_pos rfl, ← hcd]; first | (rw [if_pos (by simpa using h126)]) | (rw [if_neg h126, if_neg (by rw [show cdA q m (1 + 6 * x + 1) = 119 from by simpa using h136]; decide), if_pos (by simpa using h136)]) | (rw [if_neg h126, if_pos (by rcases kc_ok.mpr hk with w | w | w; exact absurd w h126; exact absurd w h136; exact w)])) rfl rfl rfl rfl) d_Mo_readsJar_200
      · refine v_iconst (pc := 129) (v := 0) hX (by decide) d_Mo_readsJar_129 ?_
        refine v_goto (pc := 130) (tgt := 144) hX d_Mo_readsJar_130 rfl ?_
        refine g_iast (pc := 144) hX rfl (IX.of (n := 6) (by omega) (by decide)) d_Mo_readsJar_144 ?_
        refine v_aload_n (pc := 145) hX rfl d_Mo_readsJar_145 ?_
        refine g_getR (pc := 146) hX fl_Mo_40 rfl rfl nf_36_16 d_Mo_readsJar_146 ?_
        refine v_aload_n (pc := 149) hX rfl d_Mo_readsJar_149 ?_
        refine g_getI (pc := 150) hX fl_Mo_120 rfl rfl d_Mo_readsJar_150 ?_
        rw [upM_ne (by omega), RS_13]
        refine v_iload (pc := 153) hX rfl d_Mo_readsJar_153 ?_
        refine g_iast (pc := 155) hX rfl (IX.of (n := 6) (by omega) (by decide)) d_Mo_readsJar_155 ?_
        refine v_aload_n (pc := 156) hX rfl d_Mo_readsJar_156 ?_
        refine g_getR (pc := 157) hX fl_Mo_43 rfl rfl nf_36_17 d_Mo_readsJar_157 ?_
        refine v_aload_n (pc := 160) hX rfl d_Mo_readsJar_160 ?_
        refine g_getI (pc := 161) hX fl_Mo_120 rfl rfl d_Mo_readsJar_161 ?_
        rw [upM_ne (by omega), upM_ne (by omega), RS_13]
        refine v_iload (pc := 164) hX rfl d_Mo_readsJar_164 ?_
        refine g_iast (pc := 166) hX rfl (IX.of (n := 6) (by omega) (by decide)) d_Mo_readsJar_166 ?_
        refine v_aload_n (pc := 167) hX rfl d_Mo_readsJar_167 ?_
        refine g_getR (pc := 168) hX fl_Mo_46 rfl rfl nf_36_18 d_Mo_readsJar_168 ?_
        refine v_aload_n (pc := 171) hX rfl d_Mo_readsJar_171 ?_
        refine g_getI (pc := 172) hX fl_Mo_120 rfl rfl d_Mo_readsJar_172 ?_
        rw [upM_ne (by omega), upM_ne (by omega), upM_ne (by omega), RS_13]
        refine v_iload (pc := 175) hX rfl d_Mo_readsJar_175 ?_
        refine g_iast (pc := 177) hX rfl (IX.of (n := 6) (by omega) (by decide)) d_Mo_readsJar_177 ?_
        refine v_aload_n (pc := 178) hX rfl d_Mo_readsJar_178 ?_
        refine g_getR (pc := 179) hX fl_Mo_49 rfl rfl nf_36_19 d_Mo_readsJar_179 ?_
        refine v_aload_n (pc := 182) hX rfl d_Mo_readsJar_182 ?_
        refine g_getI (pc := 183) hX fl_Mo_120 rfl rfl d_Mo_readsJar_183 ?_
        rw [upM_ne (by omega), upM_ne (by omega), upM_ne (by omega), upM_ne (by omega), RS_13]
        refine v_iload (pc := 186) hX rfl d_Mo_readsJar_186 ?_
        refine g_iast (pc := 188) hX rfl (IX.of (n := 6) (by omega) (by decide)) d_Mo_readsJar_188 ?_
        refine v_aload_n (pc := 189) hX rfl d_Mo_readsJar_189 ?_
        refine v_dup (pc := 190) hX rfl d_Mo_readsJar_190 ?_
        refine g_getI (pc := 191) hX fl_Mo_120 rfl rfl d_Mo_readsJar_191 ?_
        rw [upM_ne (by omega), upM_ne (by omega), upM_ne (by omega), upM_ne (by omega), upM_ne (by omega), RS_13]
        refine v_iconst (pc := 194) (v := 1) hX (by decide) d_Mo_readsJar_194 ?_
        refine v_iadd (pc := 195) hX d_Mo_readsJar_195 ?_
        refine g_putI (pc := 196) hX fl_Mo_120 rfl (finI rfl rfl) rfl rfl rfl d_Mo_readsJar_196 ?_
        refine v_iconst (pc := 199) (v := 1) hX (by decide) d_Mo_readsJar_199 ?_
        exact f_zret (pc := 200) hX hR (rfl) (RS_J (by unfold tJf kcN; rw [if_pos rfl, ← hcd]; first | (rw [if_pos (by simpa using h126)]) | (rw [if_neg h126, if_neg (by rw [show cdA q m (1 + 6 * x + 1) = 119 from by simpa using h136]; decide), if_pos (by simpa using h136)]) | (rw [if_neg h126, if_pos (by rcases kc_ok.mpr hk with w | w | w; exact absurd w h126; exact absurd w h136; exact w)])) rfl rfl rfl rfl) d_Mo_readsJar_200
    · refine v_iload_n (pc := 51) hX rfl d_Mo_readsJar_51 ?_
      refine v_bipush (pc := 52) (v := 112) hX (by decide) d_Mo_readsJar_52 ?_
      refine v_icmp_eq (pc := 54) (tgt := 59) hX d_Mo_readsJar_54 rfl (fun h54 => ?_) (fun h54 => False.elim (by rcases kc_ok.mpr hk with w | w | w; exact h42 w; exact h48 w; exact h54 w))
      refine v_aload_n (pc := 59) hX rfl d_Mo_readsJar_59 ?_
      refine v_dup (pc := 60) hX rfl d_Mo_readsJar_60 ?_
      refine g_getI (pc := 61) hX fl_Mo_111 rfl rfl d_Mo_readsJar_61 ?_
      rw [RS_12]
      refine v_iconst (pc := 64) (v := 1) hX (by decide) d_Mo_readsJar_64 ?_
      refine v_iadd (pc := 65) hX d_Mo_readsJar_65 ?_
      refine g_putI (pc := 66) hX fl_Mo_111 rfl (finI rfl rfl) rfl rfl rfl d_Mo_readsJar_66 ?_
      rw [show i3 (1 + 6 * x + 1) + 1 = i3 (1 + 6 * x + 2) from (i3_succ _).symm, RS_at]
      refine v_aload_n (pc := 69) hX rfl d_Mo_readsJar_69 ?_
      refine v_iload_n (pc := 70) hX rfl d_Mo_readsJar_70 ?_
      refine v_iload_n (pc := 71) hX rfl d_Mo_readsJar_71 ?_
      refine v_iconst (pc := 72) (v := 0) hX (by decide) d_Mo_readsJar_72 ?_
      refine f_callV (pc := 73) hX k_Mo_figure ki_Mo_figure kv_Mo_figure ml_Mo_123 (C_Mo_figY (r := 1 + 6 * x + 2 + 0) hF hm hq (by omega) (by decide) d0) rfl rfl rfl rfl rfl (Nat.le_of_ble_eq_true rfl) (Nat.le_of_ble_eq_true rfl) (Nat.le_of_ble_eq_true rfl) d_Mo_readsJar_73 ?_
      refine v_istore (pc := 76) (lo' := [some (vR _), some (vI _), some (vI _), some (vI _), some (vI _), none, none, none]) hX (Nat.le_of_ble_eq_true rfl) rfl d_Mo_readsJar_76 ?_
      refine v_aload_n (pc := 78) hX rfl d_Mo_readsJar_78 ?_
      refine v_iload_n (pc := 79) hX rfl d_Mo_readsJar_79 ?_
      refine v_iload_n (pc := 80) hX rfl d_Mo_readsJar_80 ?_
      refine v_iload (pc := 81) hX rfl d_Mo_readsJar_81 ?_
      refine f_callV (pc := 83) hX k_Mo_figure ki_Mo_figure kv_Mo_figure ml_Mo_123 (C_Mo_figY (r := 1 + 6 * x + 2 + 1) hF hm hq (by omega) (dg_ge d0) d1) rfl rfl rfl rfl rfl (Nat.le_of_ble_eq_true rfl) (Nat.le_of_ble_eq_true rfl) (Nat.le_of_ble_eq_true rfl) d_Mo_readsJar_83 ?_
      refine v_istore (pc := 86) (lo' := [some (vR _), some (vI _), some (vI _), some (vI _), some (vI _), some (vI _), none, none]) hX (Nat.le_of_ble_eq_true rfl) rfl d_Mo_readsJar_86 ?_
      refine v_aload_n (pc := 88) hX rfl d_Mo_readsJar_88 ?_
      refine v_iload_n (pc := 89) hX rfl d_Mo_readsJar_89 ?_
      refine v_iload_n (pc := 90) hX rfl d_Mo_readsJar_90 ?_
      refine v_iload (pc := 91) hX rfl d_Mo_readsJar_91 ?_
      refine f_callV (pc := 93) hX k_Mo_figure ki_Mo_figure kv_Mo_figure ml_Mo_123 (C_Mo_figY (r := 1 + 6 * x + 2 + 2) hF hm hq (by omega) (dg_ge d1) d2) rfl rfl rfl rfl rfl (Nat.le_of_ble_eq_true rfl) (Nat.le_of_ble_eq_true rfl) (Nat.le_of_ble_eq_true rfl) d_Mo_readsJar_93 ?_
      refine v_istore (pc := 96) (lo' := [some (vR _), some (vI _), some (vI _), some (vI _), some (vI _), some (vI _), some (vI _), none]) hX (Nat.le_of_ble_eq_true rfl) rfl d_Mo_readsJar_96 ?_
      refine v_aload_n (pc := 98) hX rfl d_Mo_readsJar_98 ?_
      refine v_iload_n (pc := 99) hX rfl d_Mo_readsJar_99 ?_
      refine v_iload_n (pc := 100) hX rfl d_Mo_readsJar_100 ?_
      refine v_iload (pc := 101) hX rfl d_Mo_readsJar_101 ?_
      refine f_callV (pc := 103) hX k_Mo_figure ki_Mo_figure kv_Mo_figure ml_Mo_123 (C_Mo_figY (r := 1 + 6 * x + 2 + 3) hF hm hq (by omega) (dg_ge d2) d3) rfl rfl rfl rfl rfl (Nat.le_of_ble_eq_true rfl) (Nat.le_of_ble_eq_true rfl) (Nat.le_of_ble_eq_true rfl) d_Mo_readsJar_103 ?_
      refine v_istore (pc := 106) (lo' := [some (vR _), some (vI _), some (vI _), some (vI _), some (vI _), some (vI _), some (vI _), some (vI _)]) hX (Nat.le_of_ble_eq_true rfl) rfl d_Mo_readsJar_106 ?_
      refine v_iload (pc := 108) hX rfl d_Mo_readsJar_108 ?_
      refine v_if_ge (pc := 110) (tgt := 115) hX d_Mo_readsJar_110 rfl (fun h110 => ?_) (fun h110 => False.elim (h110 (dg_ge d3)))
      refine v_aload_n (pc := 115) hX rfl d_Mo_readsJar_115 ?_
      refine g_getR (pc := 116) hX fl_Mo_37 rfl rfl nf_36_15 d_Mo_readsJar_116 ?_
      refine v_aload_n (pc := 119) hX rfl d_Mo_readsJar_119 ?_
      refine g_getI (pc := 120) hX fl_Mo_120 rfl rfl d_Mo_readsJar_120 ?_
      rw [RS_13]
      refine v_iload_n (pc := 123) hX rfl d_Mo_readsJar_123 ?_
      refine v_bipush (pc := 124) (v := 108) hX (by decide) d_Mo_readsJar_124 ?_
      refine v_icmp_ne (pc := 126) (tgt := 133) hX d_Mo_readsJar_126 rfl (fun h126 => ?_) (fun h126 => ?_)
      · refine v_iload_n (pc := 133) hX rfl d_Mo_readsJar_133 ?_
        refine v_bipush (pc := 134) (v := 119) hX (by decide) d_Mo_readsJar_134 ?_
        refine v_icmp_ne (pc := 136) (tgt := 143) hX d_Mo_readsJar_136 rfl (fun h136 => ?_) (fun h136 => ?_)
        · refine v_iconst (pc := 143) (v := 2) hX (by decide) d_Mo_readsJar_143 ?_
          refine g_iast (pc := 144) hX rfl (IX.of (n := 6) (by omega) (by decide)) d_Mo_readsJar_144 ?_
          refine v_aload_n (pc := 145) hX rfl d_Mo_readsJar_145 ?_
          refine g_getR (pc := 146) hX fl_Mo_40 rfl rfl nf_36_16 d_Mo_readsJar_146 ?_
          refine v_aload_n (pc := 149) hX rfl d_Mo_readsJar_149 ?_
          refine g_getI (pc := 150) hX fl_Mo_120 rfl rfl d_Mo_readsJar_150 ?_
          rw [upM_ne (by omega), RS_13]
          refine v_iload (pc := 153) hX rfl d_Mo_readsJar_153 ?_
          refine g_iast (pc := 155) hX rfl (IX.of (n := 6) (by omega) (by decide)) d_Mo_readsJar_155 ?_
          refine v_aload_n (pc := 156) hX rfl d_Mo_readsJar_156 ?_
          refine g_getR (pc := 157) hX fl_Mo_43 rfl rfl nf_36_17 d_Mo_readsJar_157 ?_
          refine v_aload_n (pc := 160) hX rfl d_Mo_readsJar_160 ?_
          refine g_getI (pc := 161) hX fl_Mo_120 rfl rfl d_Mo_readsJar_161 ?_
          rw [upM_ne (by omega), upM_ne (by omega), RS_13]
          refine v_iload (pc := 164) hX rfl d_Mo_readsJar_164 ?_
          refine g_iast (pc := 166) hX rfl (IX.of (n := 6) (by omega) (by decide)) d_Mo_readsJar_166 ?_
          refine v_aload_n (pc := 167) hX rfl d_Mo_readsJar_167 ?_
          refine g_getR (pc := 168) hX fl_Mo_46 rfl rfl nf_36_18 d_Mo_readsJar_168 ?_
          refine v_aload_n (pc := 171) hX rfl d_Mo_readsJar_171 ?_
          refine g_getI (pc := 172) hX fl_Mo_120 rfl rfl d_Mo_readsJar_172 ?_
          rw [upM_ne (by omega), upM_ne (by omega), upM_ne (by omega), RS_13]
          refine v_iload (pc := 175) hX rfl d_Mo_readsJar_175 ?_
          refine g_iast (pc := 177) hX rfl (IX.of (n := 6) (by omega) (by decide)) d_Mo_readsJar_177 ?_
          refine v_aload_n (pc := 178) hX rfl d_Mo_readsJar_178 ?_
          refine g_getR (pc := 179) hX fl_Mo_49 rfl rfl nf_36_19 d_Mo_readsJar_179 ?_
          refine v_aload_n (pc := 182) hX rfl d_Mo_readsJar_182 ?_
          refine g_getI (pc := 183) hX fl_Mo_120 rfl rfl d_Mo_readsJar_183 ?_
          rw [upM_ne (by omega), upM_ne (by omega), upM_ne (by omega), upM_ne (by omega), RS_13]
          refine v_iload (pc := 186) hX rfl d_Mo_readsJar_186 ?_
          refine g_iast (pc := 188) hX rfl (IX.of (n := 6) (by omega) (by decide)) d_Mo_readsJar_188 ?_
          refine v_aload_n (pc := 189) hX rfl d_Mo_readsJar_189 ?_
          refine v_dup (pc := 190) hX rfl d_Mo_readsJar_190 ?_
          refine g_getI (pc := 191) hX fl_Mo_120 rfl rfl d_Mo_readsJar_191 ?_
          rw [upM_ne (by omega), upM_ne (by omega), upM_ne (by omega), upM_ne (by omega), upM_ne (by omega), RS_13]
          refine v_iconst (pc := 194) (v := 1) hX (by decide) d_Mo_readsJar_194 ?_
          refine v_iadd (pc := 195) hX d_Mo_readsJar_195 ?_
          refine g_putI (pc := 196) hX fl_Mo_120 rfl (finI rfl rfl) rfl rfl rfl d_Mo_readsJar_196 ?_
          refine v_iconst (pc := 199) (v := 1) hX (by decide) d_Mo_readsJar_199 ?_
          exact f_zret (pc := 200) hX hR (rfl) (RS_J (by unfold tJf kcN; rw [if_pos rfl, ← hcd]; first | (rw [if_pos (by simpa using h126)]) | (rw [if_neg h126, if_neg (by rw [show cdA q m (1 + 6 * x + 1) = 119 from by simpa using h136]; decide), if_pos (by simpa using h136)]) | (rw [if_neg h126, if_pos (by rcases kc_ok.mpr hk with w | w | w; exact absurd w h126; exact absurd w h136; exact w)])) rfl rfl rfl rfl) d_Mo_readsJar_200
        · refine v_iconst (pc := 139) (v := 1) hX (by decide) d_Mo_readsJar_139 ?_
          refine v_goto (pc := 140) (tgt := 144) hX d_Mo_readsJar_140 rfl ?_
          refine g_iast (pc := 144) hX rfl (IX.of (n := 6) (by omega) (by decide)) d_Mo_readsJar_144 ?_
          refine v_aload_n (pc := 145) hX rfl d_Mo_readsJar_145 ?_
          refine g_getR (pc := 146) hX fl_Mo_40 rfl rfl nf_36_16 d_Mo_readsJar_146 ?_
          refine v_aload_n (pc := 149) hX rfl d_Mo_readsJar_149 ?_
          refine g_getI (pc := 150) hX fl_Mo_120 rfl rfl d_Mo_readsJar_150 ?_
          rw [upM_ne (by omega), RS_13]
          refine v_iload (pc := 153) hX rfl d_Mo_readsJar_153 ?_
          refine g_iast (pc := 155) hX rfl (IX.of (n := 6) (by omega) (by decide)) d_Mo_readsJar_155 ?_
          refine v_aload_n (pc := 156) hX rfl d_Mo_readsJar_156 ?_
          refine g_getR (pc := 157) hX fl_Mo_43 rfl rfl nf_36_17 d_Mo_readsJar_157 ?_
          refine v_aload_n (pc := 160) hX rfl d_Mo_readsJar_160 ?_
          refine g_getI (pc := 161) hX fl_Mo_120 rfl rfl d_Mo_readsJar_161 ?_
          rw [upM_ne (by omega), upM_ne (by omega), RS_13]
          refine v_iload (pc := 164) hX rfl d_Mo_readsJar_164 ?_
          refine g_iast (pc := 166) hX rfl (IX.of (n := 6) (by omega) (by decide)) d_Mo_readsJar_166 ?_
          refine v_aload_n (pc := 167) hX rfl d_Mo_readsJar_167 ?_
          refine g_getR (pc := 168) hX fl_Mo_46 rfl rfl nf_36_18 d_Mo_readsJar_168 ?_
          refine v_aload_n (pc := 171) hX rfl d_Mo_readsJar_171 ?_
          refine g_getI (pc := 172) hX fl_Mo_120 rfl rfl d_Mo_readsJar_172 ?_
          rw [upM_ne (by omega), upM_ne (by omega), upM_ne (by omega), RS_13]
          refine v_iload (pc := 175) hX rfl d_Mo_readsJar_175 ?_
          refine g_iast (pc := 177) hX rfl (IX.of (n := 6) (by omega) (by decide)) d_Mo_readsJar_177 ?_
          refine v_aload_n (pc := 178) hX rfl d_Mo_readsJar_178 ?_
          refine g_getR (pc := 179) hX fl_Mo_49 rfl rfl nf_36_19 d_Mo_readsJar_179 ?_
          refine v_aload_n (pc := 182) hX rfl d_Mo_readsJar_182 ?_
          refine g_getI (pc := 183) hX fl_Mo_120 rfl rfl d_Mo_readsJar_183 ?_
          rw [upM_ne (by omega), upM_ne (by omega), upM_ne (by omega), upM_ne (by omega), RS_13]
          refine v_iload (pc := 186) hX rfl d_Mo_readsJar_186 ?_
          refine g_iast (pc := 188) hX rfl (IX.of (n := 6) (by omega) (by decide)) d_Mo_readsJar_188 ?_
          refine v_aload_n (pc := 189) hX rfl d_Mo_readsJar_189 ?_
          refine v_dup (pc := 190) hX rfl d_Mo_readsJar_190 ?_
          refine g_getI (pc := 191) hX fl_Mo_120 rfl rfl d_Mo_readsJar_191 ?_
          rw [upM_ne (by omega), upM_ne (by omega), upM_ne (by omega), upM_ne (by omega), upM_ne (by omega), RS_13]
          refine v_iconst (pc := 194) (v := 1) hX (by decide) d_Mo_readsJar_194 ?_
          refine v_iadd (pc := 195) hX d_Mo_readsJar_195 ?_
          refine g_putI (pc := 196) hX fl_Mo_120 rfl (finI rfl rfl) rfl rfl rfl d_Mo_readsJar_196 ?_
          refine v_iconst (pc := 199) (v := 1) hX (by decide) d_Mo_readsJar_199 ?_
          exact f_zret (pc := 200) hX hR (rfl) (RS_J (by unfold tJf kcN; rw [if_pos rfl, ← hcd]; first | (rw [if_pos (by simpa using h126)]) | (rw [if_neg h126, if_neg (by rw [show cdA q m (1 + 6 * x + 1) = 119 from by simpa using h136]; decide), if_pos (by simpa using h136)]) | (rw [if_neg h126, if_pos (by rcases kc_ok.mpr hk with w | w | w; exact absurd w h126; exact absurd w h136; exact w)])) rfl rfl rfl rfl) d_Mo_readsJar_200
      · refine v_iconst (pc := 129) (v := 0) hX (by decide) d_Mo_readsJar_129 ?_
        refine v_goto (pc := 130) (tgt := 144) hX d_Mo_readsJar_130 rfl ?_
        refine g_iast (pc := 144) hX rfl (IX.of (n := 6) (by omega) (by decide)) d_Mo_readsJar_144 ?_
        refine v_aload_n (pc := 145) hX rfl d_Mo_readsJar_145 ?_
        refine g_getR (pc := 146) hX fl_Mo_40 rfl rfl nf_36_16 d_Mo_readsJar_146 ?_
        refine v_aload_n (pc := 149) hX rfl d_Mo_readsJar_149 ?_
        refine g_getI (pc := 150) hX fl_Mo_120 rfl rfl d_Mo_readsJar_150 ?_
        rw [upM_ne (by omega), RS_13]
        refine v_iload (pc := 153) hX rfl d_Mo_readsJar_153 ?_
        refine g_iast (pc := 155) hX rfl (IX.of (n := 6) (by omega) (by decide)) d_Mo_readsJar_155 ?_
        refine v_aload_n (pc := 156) hX rfl d_Mo_readsJar_156 ?_
        refine g_getR (pc := 157) hX fl_Mo_43 rfl rfl nf_36_17 d_Mo_readsJar_157 ?_
        refine v_aload_n (pc := 160) hX rfl d_Mo_readsJar_160 ?_
        refine g_getI (pc := 161) hX fl_Mo_120 rfl rfl d_Mo_readsJar_161 ?_
        rw [upM_ne (by omega), upM_ne (by omega), RS_13]
        refine v_iload (pc := 164) hX rfl d_Mo_readsJar_164 ?_
        refine g_iast (pc := 166) hX rfl (IX.of (n := 6) (by omega) (by decide)) d_Mo_readsJar_166 ?_
        refine v_aload_n (pc := 167) hX rfl d_Mo_readsJar_167 ?_
        refine g_getR (pc := 168) hX fl_Mo_46 rfl rfl nf_36_18 d_Mo_readsJar_168 ?_
        refine v_aload_n (pc := 171) hX rfl d_Mo_readsJar_171 ?_
        refine g_getI (pc := 172) hX fl_Mo_120 rfl rfl d_Mo_readsJar_172 ?_
        rw [upM_ne (by omega), upM_ne (by omega), upM_ne (by omega), RS_13]
        refine v_iload (pc := 175) hX rfl d_Mo_readsJar_175 ?_
        refine g_iast (pc := 177) hX rfl (IX.of (n := 6) (by omega) (by decide)) d_Mo_readsJar_177 ?_
        refine v_aload_n (pc := 178) hX rfl d_Mo_readsJar_178 ?_
        refine g_getR (pc := 179) hX fl_Mo_49 rfl rfl nf_36_19 d_Mo_readsJar_179 ?_
        refine v_aload_n (pc := 182) hX rfl d_Mo_readsJar_182 ?_
        refine g_getI (pc := 183) hX fl_Mo_120 rfl rfl d_Mo_readsJar_183 ?_
        rw [upM_ne (by omega), upM_ne (by omega), upM_ne (by omega), upM_ne (by omega), RS_13]
        refine v_iload (pc := 186) hX rfl d_Mo_readsJar_186 ?_
        refine g_iast (pc := 188) hX rfl (IX.of (n := 6) (by omega) (by decide)) d_Mo_readsJar_188 ?_
        refine v_aload_n (pc := 189) hX rfl d_Mo_readsJar_189 ?_
        refine v_dup (pc := 190) hX rfl d_Mo_readsJar_190 ?_
        refine g_getI (pc := 191) hX fl_Mo_120 rfl rfl d_Mo_readsJar_191 ?_
        rw [upM_ne (by omega), upM_ne (by omega), upM_ne (by omega), upM_ne (by omega), upM_ne (by omega), RS_13]
        refine v_iconst (pc := 194) (v := 1) hX (by decide) d_Mo_readsJar_194 ?_
        refine v_iadd (pc := 195) hX d_Mo_readsJar_195 ?_
        refine g_putI (pc := 196) hX fl_Mo_120 rfl (finI rfl rfl) rfl rfl rfl d_Mo_readsJar_196 ?_
        refine v_iconst (pc := 199) (v := 1) hX (by decide) d_Mo_readsJar_199 ?_
        exact f_zret (pc := 200) hX hR (rfl) (RS_J (by unfold tJf kcN; rw [if_pos rfl, ← hcd]; first | (rw [if_pos (by simpa using h126)]) | (rw [if_neg h126, if_neg (by rw [show cdA q m (1 + 6 * x + 1) = 119 from by simpa using h136]; decide), if_pos (by simpa using h136)]) | (rw [if_neg h126, if_pos (by rcases kc_ok.mpr hk with w | w | w; exact absurd w h126; exact absurd w h136; exact w)])) rfl rfl rfl rfl) d_Mo_readsJar_200
/-- what readsJar leaves where it fails -/
def fJ (q : Nat → Int32) (m x : Nat) : Nat := if x < 6 ∧ stB q m (1 + 6 * x) 59 = true then 1 + 6 * x + ftJ q m (1 + 6 * x) else 1 + 6 * x
theorem C_Mo_rJ_no {M : MM} {F m x y P : Nat} {q : Nat → Int32} (hF : F + m ≤ 240) (hm : m ≤ 60) (hq : ∀ t, t < m → M 62 (F + t) = q t) (hx : x ≤ 6) (hg : ¬ (x < 6 ∧ gJ q m x = true)) : AF y_Mo_readsJar c_Mo_readsJar 8 (some .boolean) 3 [vR 36, vI (i3 F), vI (i3 m)] (RS M q (1 + 6 * x) x y P) (some (vI (bI false))) (RS M q (fJ q m x) x y P) := by
  unfold fJ
  by_cases h0 : x < 6 ∧ stB q m (1 + 6 * x) 59 = true
  · rw [if_pos h0]
    obtain ⟨hx6, hs⟩ := h0
    have hne : ¬ ftJ q m (1 + 6 * x) = 6 := fun w => hg ⟨hx6, by unfold gJ; rw [hs, decide_eq_true w]; rfl⟩
    by_cases hk : 1 + 6 * x + 1 < m ∧ kcN (q (1 + 6 * x + 1)) ≠ -9
    · have e : ftJ q m (1 + 6 * x) = 2 + chs (fun i => !dgB q m (1 + 6 * x + 2 + i)) 4 := if_pos hk
      have hl := chs_le (fun i => !dgB q m (1 + 6 * x + 2 + i)) 4
      have hlt : chs (fun i => !dgB q m (1 + 6 * x + 2 + i)) 4 < 4 := by omega
      have hP := chs_P hlt
      have hb := chs_lt (P := fun i => !dgB q m (1 + 6 * x + 2 + i)) (n := 4)
      have hb' : ∀ i, i < chs (fun i => !dgB q m (1 + 6 * x + 2 + i)) 4 → dgB q m (1 + 6 * x + 2 + i) = true := fun i hi => by simpa using hb i hi
      have hP' : dgB q m (1 + 6 * x + 2 + chs (fun i => !dgB q m (1 + 6 * x + 2 + i)) 4) = false := by simpa using hP
      rw [e]
      generalize chs (fun i => !dgB q m (1 + 6 * x + 2 + i)) 4 = c at *
      rcases (show c = 0 ∨ c = 1 ∨ c = 2 ∨ c = 3 by omega) with rfl | rfl | rfl | rfl
      · exact C_Mo_rJ_d0 hF hm hq hx hx6 hs hk hP'
      · exact C_Mo_rJ_d1 hF hm hq hx hx6 hs hk (hb' 0 (by decide)) hP'
      · exact C_Mo_rJ_d2 hF hm hq hx hx6 hs hk (hb' 0 (by decide)) (hb' 1 (by decide)) hP'
      · exact C_Mo_rJ_d3 hF hm hq hx hx6 hs hk (hb' 0 (by decide)) (hb' 1 (by decide)) (hb' 2 (by decide)) hP'
    · have e : ftJ q m (1 + 6 * x) = 1 := if_neg hk
      rw [e]
      exact C_Mo_rJ_f1 hF hm hq hx hx6 hs hk
  · rw [if_neg h0]
    exact C_Mo_rJ_f0 hF hm hq hx h0
theorem C_Mo_rJ_yes {M : MM} {F m x y P : Nat} {q : Nat → Int32} (hF : F + m ≤ 240) (hm : m ≤ 60) (hq : ∀ t, t < m → M 62 (F + t) = q t) (hx6 : x < 6) (hg : stB q m (1 + 6 * x) 59 = true ∧ ftJ q m (1 + 6 * x) = 6) : AF y_Mo_readsJar c_Mo_readsJar 8 (some .boolean) 3 [vR 36, vI (i3 F), vI (i3 m)] (RS M q (1 + 6 * x) x y P) (some (vI (bI true))) (RS M q (1 + 6 * (x + 1)) (x + 1) y P) := by
  obtain ⟨hk, hd⟩ := ft6 hg.2
  rw [show 1 + 6 * (x + 1) = 1 + 6 * x + 6 by omega]
  exact C_Mo_rJ_ok hF hm hq (by omega) hx6 hg.1 hk (hd 0 (by decide)) (hd 1 (by decide)) (hd 2 (by decide)) (hd 3 (by decide))
theorem add_sub32 (a b c : Int32) : a + b - c = a + (b - c) := by rw [Int32.sub_eq_add_neg, Int32.add_assoc, ← Int32.sub_eq_add_neg]
theorem d_Mo_readsDecider_0 : decode c_Mo_readsDecider 0 = .ok (.aload_n 0, 1) := by decide +kernel
theorem d_Mo_readsDecider_1 : decode c_Mo_readsDecider 1 = .ok (.getfield 127, 3) := by decide +kernel
theorem d_Mo_readsDecider_4 : decode c_Mo_readsDecider 4 = .ok (.iconst 4, 1) := by decide +kernel
theorem d_Mo_readsDecider_5 : decode c_Mo_readsDecider 5 = .ok (.if_icmp .eq 14, 3) := by decide +kernel
theorem d_Mo_readsDecider_8 : decode c_Mo_readsDecider 8 = .ok (.aload_n 0, 1) := by decide +kernel
theorem d_Mo_readsDecider_9 : decode c_Mo_readsDecider 9 = .ok (.iload_n 1, 1) := by decide +kernel
theorem d_Mo_readsDecider_10 : decode c_Mo_readsDecider 10 = .ok (.iload_n 2, 1) := by decide +kernel
theorem d_Mo_readsDecider_11 : decode c_Mo_readsDecider 11 = .ok (.invokevirtual 114, 3) := by decide +kernel
theorem d_Mo_readsDecider_14 : decode c_Mo_readsDecider 14 = .ok (.bipush 44, 2) := by decide +kernel
theorem d_Mo_readsDecider_16 : decode c_Mo_readsDecider 16 = .ok (.if_icmp .eq 5, 3) := by decide +kernel
theorem d_Mo_readsDecider_19 : decode c_Mo_readsDecider 19 = .ok (.iconst 0, 1) := by decide +kernel
theorem d_Mo_readsDecider_20 : decode c_Mo_readsDecider 20 = .ok (.ireturn, 1) := by decide +kernel
theorem d_Mo_readsDecider_21 : decode c_Mo_readsDecider 21 = .ok (.aload_n 0, 1) := by decide +kernel
theorem d_Mo_readsDecider_22 : decode c_Mo_readsDecider 22 = .ok (.dup, 1) := by decide +kernel
theorem d_Mo_readsDecider_23 : decode c_Mo_readsDecider 23 = .ok (.getfield 111, 3) := by decide +kernel
theorem d_Mo_readsDecider_26 : decode c_Mo_readsDecider 26 = .ok (.iconst 1, 1) := by decide +kernel
theorem d_Mo_readsDecider_27 : decode c_Mo_readsDecider 27 = .ok (.iadd, 1) := by decide +kernel
theorem d_Mo_readsDecider_28 : decode c_Mo_readsDecider 28 = .ok (.putfield 111, 3) := by decide +kernel
theorem d_Mo_readsDecider_31 : decode c_Mo_readsDecider 31 = .ok (.aload_n 0, 1) := by decide +kernel
theorem d_Mo_readsDecider_32 : decode c_Mo_readsDecider 32 = .ok (.iload_n 1, 1) := by decide +kernel
theorem d_Mo_readsDecider_33 : decode c_Mo_readsDecider 33 = .ok (.iload_n 2, 1) := by decide +kernel
theorem d_Mo_readsDecider_34 : decode c_Mo_readsDecider 34 = .ok (.iconst 0, 1) := by decide +kernel
theorem d_Mo_readsDecider_35 : decode c_Mo_readsDecider 35 = .ok (.invokevirtual 123, 3) := by decide +kernel
theorem d_Mo_readsDecider_38 : decode c_Mo_readsDecider 38 = .ok (.istore_n 3, 1) := by decide +kernel
theorem d_Mo_readsDecider_39 : decode c_Mo_readsDecider 39 = .ok (.aload_n 0, 1) := by decide +kernel
theorem d_Mo_readsDecider_40 : decode c_Mo_readsDecider 40 = .ok (.iload_n 1, 1) := by decide +kernel
theorem d_Mo_readsDecider_41 : decode c_Mo_readsDecider 41 = .ok (.iload_n 2, 1) := by decide +kernel
theorem d_Mo_readsDecider_42 : decode c_Mo_readsDecider 42 = .ok (.iload_n 3, 1) := by decide +kernel
theorem d_Mo_readsDecider_43 : decode c_Mo_readsDecider 43 = .ok (.invokevirtual 123, 3) := by decide +kernel
theorem d_Mo_readsDecider_46 : decode c_Mo_readsDecider 46 = .ok (.istore 4, 2) := by decide +kernel
theorem d_Mo_readsDecider_48 : decode c_Mo_readsDecider 48 = .ok (.aload_n 0, 1) := by decide +kernel
theorem d_Mo_readsDecider_49 : decode c_Mo_readsDecider 49 = .ok (.iload_n 1, 1) := by decide +kernel
theorem d_Mo_readsDecider_50 : decode c_Mo_readsDecider 50 = .ok (.iload_n 2, 1) := by decide +kernel
theorem d_Mo_readsDecider_51 : decode c_Mo_readsDecider 51 = .ok (.iload 4, 2) := by decide +kernel
theorem d_Mo_readsDecider_53 : decode c_Mo_readsDecider 53 = .ok (.invokevirtual 123, 3) := by decide +kernel
theorem d_Mo_readsDecider_56 : decode c_Mo_readsDecider 56 = .ok (.istore 5, 2) := by decide +kernel
theorem d_Mo_readsDecider_58 : decode c_Mo_readsDecider 58 = .ok (.aload_n 0, 1) := by decide +kernel
theorem d_Mo_readsDecider_59 : decode c_Mo_readsDecider 59 = .ok (.iload_n 1, 1) := by decide +kernel
theorem d_Mo_readsDecider_60 : decode c_Mo_readsDecider 60 = .ok (.iload_n 2, 1) := by decide +kernel
theorem d_Mo_readsDecider_61 : decode c_Mo_readsDecider 61 = .ok (.iload 5, 2) := by decide +kernel
theorem d_Mo_readsDecider_63 : decode c_Mo_readsDecider 63 = .ok (.invokevirtual 123, 3) := by decide +kernel
theorem d_Mo_readsDecider_66 : decode c_Mo_readsDecider 66 = .ok (.istore 6, 2) := by decide +kernel
theorem d_Mo_readsDecider_68 : decode c_Mo_readsDecider 68 = .ok (.iload 6, 2) := by decide +kernel
theorem d_Mo_readsDecider_70 : decode c_Mo_readsDecider 70 = .ok (.ifCond .ge 5, 3) := by decide +kernel
theorem d_Mo_readsDecider_73 : decode c_Mo_readsDecider 73 = .ok (.iconst 0, 1) := by decide +kernel
theorem d_Mo_readsDecider_74 : decode c_Mo_readsDecider 74 = .ok (.ireturn, 1) := by decide +kernel
theorem d_Mo_readsDecider_75 : decode c_Mo_readsDecider 75 = .ok (.aload_n 0, 1) := by decide +kernel
theorem d_Mo_readsDecider_76 : decode c_Mo_readsDecider 76 = .ok (.getfield 52, 3) := by decide +kernel
theorem d_Mo_readsDecider_79 : decode c_Mo_readsDecider 79 = .ok (.aload_n 0, 1) := by decide +kernel
theorem d_Mo_readsDecider_80 : decode c_Mo_readsDecider 80 = .ok (.getfield 127, 3) := by decide +kernel
theorem d_Mo_readsDecider_83 : decode c_Mo_readsDecider 83 = .ok (.iload_n 3, 1) := by decide +kernel
theorem d_Mo_readsDecider_84 : decode c_Mo_readsDecider 84 = .ok (.iastore, 1) := by decide +kernel
theorem d_Mo_readsDecider_85 : decode c_Mo_readsDecider 85 = .ok (.aload_n 0, 1) := by decide +kernel
theorem d_Mo_readsDecider_86 : decode c_Mo_readsDecider 86 = .ok (.getfield 55, 3) := by decide +kernel
theorem d_Mo_readsDecider_89 : decode c_Mo_readsDecider 89 = .ok (.aload_n 0, 1) := by decide +kernel
theorem d_Mo_readsDecider_90 : decode c_Mo_readsDecider 90 = .ok (.getfield 127, 3) := by decide +kernel
theorem d_Mo_readsDecider_93 : decode c_Mo_readsDecider 93 = .ok (.iload 4, 2) := by decide +kernel
theorem d_Mo_readsDecider_95 : decode c_Mo_readsDecider 95 = .ok (.iastore, 1) := by decide +kernel
theorem d_Mo_readsDecider_96 : decode c_Mo_readsDecider 96 = .ok (.aload_n 0, 1) := by decide +kernel
theorem d_Mo_readsDecider_97 : decode c_Mo_readsDecider 97 = .ok (.getfield 58, 3) := by decide +kernel
theorem d_Mo_readsDecider_100 : decode c_Mo_readsDecider 100 = .ok (.aload_n 0, 1) := by decide +kernel
theorem d_Mo_readsDecider_101 : decode c_Mo_readsDecider 101 = .ok (.getfield 127, 3) := by decide +kernel
theorem d_Mo_readsDecider_104 : decode c_Mo_readsDecider 104 = .ok (.bipush 10, 2) := by decide +kernel
theorem d_Mo_readsDecider_106 : decode c_Mo_readsDecider 106 = .ok (.iload 5, 2) := by decide +kernel
theorem d_Mo_readsDecider_108 : decode c_Mo_readsDecider 108 = .ok (.imul, 1) := by decide +kernel
theorem d_Mo_readsDecider_109 : decode c_Mo_readsDecider 109 = .ok (.iload 6, 2) := by decide +kernel
theorem d_Mo_readsDecider_111 : decode c_Mo_readsDecider 111 = .ok (.iadd, 1) := by decide +kernel
theorem d_Mo_readsDecider_112 : decode c_Mo_readsDecider 112 = .ok (.iastore, 1) := by decide +kernel
theorem d_Mo_readsDecider_113 : decode c_Mo_readsDecider 113 = .ok (.aload_n 0, 1) := by decide +kernel
theorem d_Mo_readsDecider_114 : decode c_Mo_readsDecider 114 = .ok (.dup, 1) := by decide +kernel
theorem d_Mo_readsDecider_115 : decode c_Mo_readsDecider 115 = .ok (.getfield 127, 3) := by decide +kernel
theorem d_Mo_readsDecider_118 : decode c_Mo_readsDecider 118 = .ok (.iconst 1, 1) := by decide +kernel
theorem d_Mo_readsDecider_119 : decode c_Mo_readsDecider 119 = .ok (.iadd, 1) := by decide +kernel
theorem d_Mo_readsDecider_120 : decode c_Mo_readsDecider 120 = .ok (.putfield 127, 3) := by decide +kernel
theorem d_Mo_readsDecider_123 : decode c_Mo_readsDecider 123 = .ok (.iconst 1, 1) := by decide +kernel
theorem d_Mo_readsDecider_124 : decode c_Mo_readsDecider 124 = .ok (.ireturn, 1) := by decide +kernel
theorem C_Mo_rD_f0 {M : MM} {F m x y P : Nat} {q : Nat → Int32} (hF : F + m ≤ 240) (hm : m ≤ 60) (hq : ∀ t, t < m → M 62 (F + t) = q t) (hy : y ≤ 4) (hP60 : P ≤ 60) (h0 : ¬ (y < 4 ∧ stB q m (P + 5 * y) 44 = true)) : AF y_Mo_readsDecider c_Mo_readsDecider 7 (some .boolean) 3 [vR 36, vI (i3 F), vI (i3 m)] (RS M q (P + 5 * y) x y P) (some (vI (bI false))) (RS M q (P + 5 * y) x y P) := by
  refine AF.of k_Mo_readsDecider (lo := [some (vR 36), some (vI (i3 F)), some (vI (i3 m)), none, none, none, none]) rfl (Nat.le_of_ble_eq_true rfl) (fun X hX hR => ?_)
  refine v_aload_n (pc := 0) hX rfl d_Mo_readsDecider_0 ?_
  refine g_getI (pc := 1) hX fl_Mo_127 rfl rfl d_Mo_readsDecider_1 ?_
  rw [RS_14]
  refine v_iconst (pc := 4) (v := 4) hX (by decide) d_Mo_readsDecider_4 ?_
  refine v_icmp_eq (pc := 5) (tgt := 19) hX d_Mo_readsDecider_5 rfl (fun h5 => ?_) (fun h5 => ?_)
  · refine v_iconst (pc := 19) (v := 0) hX (by decide) d_Mo_readsDecider_19 ?_
    exact f_zret (pc := 20) hX hR (rfl) (rfl) d_Mo_readsDecider_20
  · have hy4 : y < 4 := by
      by_cases w : y = 4
      · exact absurd (by rw [w]; rfl) h5
      · omega
    refine v_aload_n (pc := 8) hX rfl d_Mo_readsDecider_8 ?_
    refine v_iload_n (pc := 9) hX rfl d_Mo_readsDecider_9 ?_
    refine v_iload_n (pc := 10) hX rfl d_Mo_readsDecider_10 ?_
    refine f_callV (pc := 11) hX k_Mo_codeAt ki_Mo_codeAt kv_Mo_codeAt ml_Mo_114 (C_Mo_codeAt (r := P + 5 * y) hF hm hq (by omega)) rfl rfl rfl rfl rfl (Nat.le_of_ble_eq_true rfl) (Nat.le_of_ble_eq_true rfl) (Nat.le_of_ble_eq_true rfl) d_Mo_readsDecider_11 ?_
    refine v_bipush (pc := 14) (v := 44) hX (by decide) d_Mo_readsDecider_14 ?_
    refine v_icmp_eq (pc := 16) (tgt := 21) hX d_Mo_readsDecider_16 rfl (fun h16 => False.elim (h0 ⟨hy4, (cdA_st (by decide)).mp h16⟩)) (fun h16 => ?_)
    refine v_iconst (pc := 19) (v := 0) hX (by decide) d_Mo_readsDecider_19 ?_
    exact f_zret (pc := 20) hX hR (rfl) (rfl) d_Mo_readsDecider_20
theorem C_Mo_rD_d0 {M : MM} {F m x y P : Nat} {q : Nat → Int32} (hF : F + m ≤ 240) (hm : m ≤ 60) (hq : ∀ t, t < m → M 62 (F + t) = q t) (hy : y ≤ 4) (hP60 : P ≤ 60) (hy4 : y < 4) (hs : stB q m (P + 5 * y) 44 = true) (d0 : dgB q m (P + 5 * y + 1 + 0) = false) : AF y_Mo_readsDecider c_Mo_readsDecider 7 (some .boolean) 3 [vR 36, vI (i3 F), vI (i3 m)] (RS M q (P + 5 * y) x y P) (some (vI (bI false))) (RS M q (P + 5 * y + 1 + 0) x y P) := by
  refine AF.of k_Mo_readsDecider (lo := [some (vR 36), some (vI (i3 F)), some (vI (i3 m)), none, none, none, none]) rfl (Nat.le_of_ble_eq_true rfl) (fun X hX hR => ?_)
  refine v_aload_n (pc := 0) hX rfl d_Mo_readsDecider_0 ?_
  refine g_getI (pc := 1) hX fl_Mo_127 rfl rfl d_Mo_readsDecider_1 ?_
  rw [RS_14]
  refine v_iconst (pc := 4) (v := 4) hX (by decide) d_Mo_readsDecider_4 ?_
  refine v_icmp_eq (pc := 5) (tgt := 19) hX d_Mo_readsDecider_5 rfl (fun h5 => False.elim (by have := (i3_inj (a := y) (b := 4) (by omega) (by decide)).mp h5; omega)) (fun h5 => ?_)
  refine v_aload_n (pc := 8) hX rfl d_Mo_readsDecider_8 ?_
  refine v_iload_n (pc := 9) hX rfl d_Mo_readsDecider_9 ?_
  refine v_iload_n (pc := 10) hX rfl d_Mo_readsDecider_10 ?_
  refine f_callV (pc := 11) hX k_Mo_codeAt ki_Mo_codeAt kv_Mo_codeAt ml_Mo_114 (C_Mo_codeAt (r := P + 5 * y) hF hm hq (by omega)) rfl rfl rfl rfl rfl (Nat.le_of_ble_eq_true rfl) (Nat.le_of_ble_eq_true rfl) (Nat.le_of_ble_eq_true rfl) d_Mo_readsDecider_11 ?_
  refine v_bipush (pc := 14) (v := 44) hX (by decide) d_Mo_readsDecider_14 ?_
  refine v_icmp_eq (pc := 16) (tgt := 21) hX d_Mo_readsDecider_16 rfl (fun h16 => ?_) (fun h16 => False.elim (h16 ((cdA_st (by decide)).mpr hs)))
  refine v_aload_n (pc := 21) hX rfl d_Mo_readsDecider_21 ?_
  refine v_dup (pc := 22) hX rfl d_Mo_readsDecider_22 ?_
  refine g_getI (pc := 23) hX fl_Mo_111 rfl rfl d_Mo_readsDecider_23 ?_
  rw [RS_12]
  refine v_iconst (pc := 26) (v := 1) hX (by decide) d_Mo_readsDecider_26 ?_
  refine v_iadd (pc := 27) hX d_Mo_readsDecider_27 ?_
  refine g_putI (pc := 28) hX fl_Mo_111 rfl (finI rfl rfl) rfl rfl rfl d_Mo_readsDecider_28 ?_
  rw [show i3 (P + 5 * y) + 1 = i3 (P + 5 * y + 1) from (i3_succ _).symm, RS_at]
  refine v_aload_n (pc := 31) hX rfl d_Mo_readsDecider_31 ?_
  refine v_iload_n (pc := 32) hX rfl d_Mo_readsDecider_32 ?_
  refine v_iload_n (pc := 33) hX rfl d_Mo_readsDecider_33 ?_
  refine v_iconst (pc := 34) (v := 0) hX (by decide) d_Mo_readsDecider_34 ?_
  refine f_callV (pc := 35) hX k_Mo_figure ki_Mo_figure kv_Mo_figure ml_Mo_123 (C_Mo_figN (r := P + 5 * y + 1 + 0) hF hm hq (by omega) (by decide) d0) rfl rfl rfl rfl rfl (Nat.le_of_ble_eq_true rfl) (Nat.le_of_ble_eq_true rfl) (Nat.le_of_ble_eq_true rfl) d_Mo_readsDecider_35 ?_
  refine v_istore_n (pc := 38) (lo' := [some (vR _), some (vI _), some (vI _), some (vI _), none, none, none]) hX (Nat.le_of_ble_eq_true rfl) rfl d_Mo_readsDecider_38 ?_
  refine v_aload_n (pc := 39) hX rfl d_Mo_readsDecider_39 ?_
  refine v_iload_n (pc := 40) hX rfl d_Mo_readsDecider_40 ?_
  refine v_iload_n (pc := 41) hX rfl d_Mo_readsDecider_41 ?_
  refine v_iload_n (pc := 42) hX rfl d_Mo_readsDecider_42 ?_
  refine f_callV (pc := 43) hX k_Mo_figure ki_Mo_figure kv_Mo_figure ml_Mo_123 (C_Mo_figX hF hm hq) rfl rfl rfl rfl rfl (Nat.le_of_ble_eq_true rfl) (Nat.le_of_ble_eq_true rfl) (Nat.le_of_ble_eq_true rfl) d_Mo_readsDecider_43 ?_
  refine v_istore (pc := 46) (lo' := [some (vR _), some (vI _), some (vI _), some (vI _), some (vI _), none, none]) hX (Nat.le_of_ble_eq_true rfl) rfl d_Mo_readsDecider_46 ?_
  refine v_aload_n (pc := 48) hX rfl d_Mo_readsDecider_48 ?_
  refine v_iload_n (pc := 49) hX rfl d_Mo_readsDecider_49 ?_
  refine v_iload_n (pc := 50) hX rfl d_Mo_readsDecider_50 ?_
  refine v_iload (pc := 51) hX rfl d_Mo_readsDecider_51 ?_
  refine f_callV (pc := 53) hX k_Mo_figure ki_Mo_figure kv_Mo_figure ml_Mo_123 (C_Mo_figX hF hm hq) rfl rfl rfl rfl rfl (Nat.le_of_ble_eq_true rfl) (Nat.le_of_ble_eq_true rfl) (Nat.le_of_ble_eq_true rfl) d_Mo_readsDecider_53 ?_
  refine v_istore (pc := 56) (lo' := [some (vR _), some (vI _), some (vI _), some (vI _), some (vI _), some (vI _), none]) hX (Nat.le_of_ble_eq_true rfl) rfl d_Mo_readsDecider_56 ?_
  refine v_aload_n (pc := 58) hX rfl d_Mo_readsDecider_58 ?_
  refine v_iload_n (pc := 59) hX rfl d_Mo_readsDecider_59 ?_
  refine v_iload_n (pc := 60) hX rfl d_Mo_readsDecider_60 ?_
  refine v_iload (pc := 61) hX rfl d_Mo_readsDecider_61 ?_
  refine f_callV (pc := 63) hX k_Mo_figure ki_Mo_figure kv_Mo_figure ml_Mo_123 (C_Mo_figX hF hm hq) rfl rfl rfl rfl rfl (Nat.le_of_ble_eq_true rfl) (Nat.le_of_ble_eq_true rfl) (Nat.le_of_ble_eq_true rfl) d_Mo_readsDecider_63 ?_
  refine v_istore (pc := 66) (lo' := [some (vR _), some (vI _), some (vI _), some (vI _), some (vI _), some (vI _), some (vI _)]) hX (Nat.le_of_ble_eq_true rfl) rfl d_Mo_readsDecider_66 ?_
  refine v_iload (pc := 68) hX rfl d_Mo_readsDecider_68 ?_
  refine v_if_ge (pc := 70) (tgt := 75) hX d_Mo_readsDecider_70 rfl (fun h70 => False.elim (absurd h70 (by decide))) (fun h70 => ?_)
  refine v_iconst (pc := 73) (v := 0) hX (by decide) d_Mo_readsDecider_73 ?_
  exact f_zret (pc := 74) hX hR (rfl) (rfl) d_Mo_readsDecider_74
theorem C_Mo_rD_d1 {M : MM} {F m x y P : Nat} {q : Nat → Int32} (hF : F + m ≤ 240) (hm : m ≤ 60) (hq : ∀ t, t < m → M 62 (F + t) = q t) (hy : y ≤ 4) (hP60 : P ≤ 60) (hy4 : y < 4) (hs : stB q m (P + 5 * y) 44 = true) (d0 : dgB q m (P + 5 * y + 1 + 0) = true) (d1 : dgB q m (P + 5 * y + 1 + 1) = false) : AF y_Mo_readsDecider c_Mo_readsDecider 7 (some .boolean) 3 [vR 36, vI (i3 F), vI (i3 m)] (RS M q (P + 5 * y) x y P) (some (vI (bI false))) (RS M q (P + 5 * y + 1 + 1) x y P) := by
  refine AF.of k_Mo_readsDecider (lo := [some (vR 36), some (vI (i3 F)), some (vI (i3 m)), none, none, none, none]) rfl (Nat.le_of_ble_eq_true rfl) (fun X hX hR => ?_)
  refine v_aload_n (pc := 0) hX rfl d_Mo_readsDecider_0 ?_
  refine g_getI (pc := 1) hX fl_Mo_127 rfl rfl d_Mo_readsDecider_1 ?_
  rw [RS_14]
  refine v_iconst (pc := 4) (v := 4) hX (by decide) d_Mo_readsDecider_4 ?_
  refine v_icmp_eq (pc := 5) (tgt := 19) hX d_Mo_readsDecider_5 rfl (fun h5 => False.elim (by have := (i3_inj (a := y) (b := 4) (by omega) (by decide)).mp h5; omega)) (fun h5 => ?_)
  refine v_aload_n (pc := 8) hX rfl d_Mo_readsDecider_8 ?_
  refine v_iload_n (pc := 9) hX rfl d_Mo_readsDecider_9 ?_
  refine v_iload_n (pc := 10) hX rfl d_Mo_readsDecider_10 ?_
  refine f_callV (pc := 11) hX k_Mo_codeAt ki_Mo_codeAt kv_Mo_codeAt ml_Mo_114 (C_Mo_codeAt (r := P + 5 * y) hF hm hq (by omega)) rfl rfl rfl rfl rfl (Nat.le_of_ble_eq_true rfl) (Nat.le_of_ble_eq_true rfl) (Nat.le_of_ble_eq_true rfl) d_Mo_readsDecider_11 ?_
  refine v_bipush (pc := 14) (v := 44) hX (by decide) d_Mo_readsDecider_14 ?_
  refine v_icmp_eq (pc := 16) (tgt := 21) hX d_Mo_readsDecider_16 rfl (fun h16 => ?_) (fun h16 => False.elim (h16 ((cdA_st (by decide)).mpr hs)))
  refine v_aload_n (pc := 21) hX rfl d_Mo_readsDecider_21 ?_
  refine v_dup (pc := 22) hX rfl d_Mo_readsDecider_22 ?_
  refine g_getI (pc := 23) hX fl_Mo_111 rfl rfl d_Mo_readsDecider_23 ?_
  rw [RS_12]
  refine v_iconst (pc := 26) (v := 1) hX (by decide) d_Mo_readsDecider_26 ?_
  refine v_iadd (pc := 27) hX d_Mo_readsDecider_27 ?_
  refine g_putI (pc := 28) hX fl_Mo_111 rfl (finI rfl rfl) rfl rfl rfl d_Mo_readsDecider_28 ?_
  rw [show i3 (P + 5 * y) + 1 = i3 (P + 5 * y + 1) from (i3_succ _).symm, RS_at]
  refine v_aload_n (pc := 31) hX rfl d_Mo_readsDecider_31 ?_
  refine v_iload_n (pc := 32) hX rfl d_Mo_readsDecider_32 ?_
  refine v_iload_n (pc := 33) hX rfl d_Mo_readsDecider_33 ?_
  refine v_iconst (pc := 34) (v := 0) hX (by decide) d_Mo_readsDecider_34 ?_
  refine f_callV (pc := 35) hX k_Mo_figure ki_Mo_figure kv_Mo_figure ml_Mo_123 (C_Mo_figY (r := P + 5 * y + 1 + 0) hF hm hq (by omega) (by decide) d0) rfl rfl rfl rfl rfl (Nat.le_of_ble_eq_true rfl) (Nat.le_of_ble_eq_true rfl) (Nat.le_of_ble_eq_true rfl) d_Mo_readsDecider_35 ?_
  refine v_istore_n (pc := 38) (lo' := [some (vR _), some (vI _), some (vI _), some (vI _), none, none, none]) hX (Nat.le_of_ble_eq_true rfl) rfl d_Mo_readsDecider_38 ?_
  refine v_aload_n (pc := 39) hX rfl d_Mo_readsDecider_39 ?_
  refine v_iload_n (pc := 40) hX rfl d_Mo_readsDecider_40 ?_
  refine v_iload_n (pc := 41) hX rfl d_Mo_readsDecider_41 ?_
  refine v_iload_n (pc := 42) hX rfl d_Mo_readsDecider_42 ?_
  refine f_callV (pc := 43) hX k_Mo_figure ki_Mo_figure kv_Mo_figure ml_Mo_123 (C_Mo_figN (r := P + 5 * y + 1 + 1) hF hm hq (by omega) (dg_ge d0) d1) rfl rfl rfl rfl rfl (Nat.le_of_ble_eq_true rfl) (Nat.le_of_ble_eq_true rfl) (Nat.le_of_ble_eq_true rfl) d_Mo_readsDecider_43 ?_
  refine v_istore (pc := 46) (lo' := [some (vR _), some (vI _), some (vI _), some (vI _), some (vI _), none, none]) hX (Nat.le_of_ble_eq_true rfl) rfl d_Mo_readsDecider_46 ?_
  refine v_aload_n (pc := 48) hX rfl d_Mo_readsDecider_48 ?_
  refine v_iload_n (pc := 49) hX rfl d_Mo_readsDecider_49 ?_
  refine v_iload_n (pc := 50) hX rfl d_Mo_readsDecider_50 ?_
  refine v_iload (pc := 51) hX rfl d_Mo_readsDecider_51 ?_
  refine f_callV (pc := 53) hX k_Mo_figure ki_Mo_figure kv_Mo_figure ml_Mo_123 (C_Mo_figX hF hm hq) rfl rfl rfl rfl rfl (Nat.le_of_ble_eq_true rfl) (Nat.le_of_ble_eq_true rfl) (Nat.le_of_ble_eq_true rfl) d_Mo_readsDecider_53 ?_
  refine v_istore (pc := 56) (lo' := [some (vR _), some (vI _), some (vI _), some (vI _), some (vI _), some (vI _), none]) hX (Nat.le_of_ble_eq_true rfl) rfl d_Mo_readsDecider_56 ?_
  refine v_aload_n (pc := 58) hX rfl d_Mo_readsDecider_58 ?_
  refine v_iload_n (pc := 59) hX rfl d_Mo_readsDecider_59 ?_
  refine v_iload_n (pc := 60) hX rfl d_Mo_readsDecider_60 ?_
  refine v_iload (pc := 61) hX rfl d_Mo_readsDecider_61 ?_
  refine f_callV (pc := 63) hX k_Mo_figure ki_Mo_figure kv_Mo_figure ml_Mo_123 (C_Mo_figX hF hm hq) rfl rfl rfl rfl rfl (Nat.le_of_ble_eq_true rfl) (Nat.le_of_ble_eq_true rfl) (Nat.le_of_ble_eq_true rfl) d_Mo_readsDecider_63 ?_
  refine v_istore (pc := 66) (lo' := [some (vR _), some (vI _), some (vI _), some (vI _), some (vI _), some (vI _), some (vI _)]) hX (Nat.le_of_ble_eq_true rfl) rfl d_Mo_readsDecider_66 ?_
  refine v_iload (pc := 68) hX rfl d_Mo_readsDecider_68 ?_
  refine v_if_ge (pc := 70) (tgt := 75) hX d_Mo_readsDecider_70 rfl (fun h70 => False.elim (absurd h70 (by decide))) (fun h70 => ?_)
  refine v_iconst (pc := 73) (v := 0) hX (by decide) d_Mo_readsDecider_73 ?_
  exact f_zret (pc := 74) hX hR (rfl) (rfl) d_Mo_readsDecider_74
theorem C_Mo_rD_d2 {M : MM} {F m x y P : Nat} {q : Nat → Int32} (hF : F + m ≤ 240) (hm : m ≤ 60) (hq : ∀ t, t < m → M 62 (F + t) = q t) (hy : y ≤ 4) (hP60 : P ≤ 60) (hy4 : y < 4) (hs : stB q m (P + 5 * y) 44 = true) (d0 : dgB q m (P + 5 * y + 1 + 0) = true) (d1 : dgB q m (P + 5 * y + 1 + 1) = true) (d2 : dgB q m (P + 5 * y + 1 + 2) = false) : AF y_Mo_readsDecider c_Mo_readsDecider 7 (some .boolean) 3 [vR 36, vI (i3 F), vI (i3 m)] (RS M q (P + 5 * y) x y P) (some (vI (bI false))) (RS M q (P + 5 * y + 1 + 2) x y P) := by
  refine AF.of k_Mo_readsDecider (lo := [some (vR 36), some (vI (i3 F)), some (vI (i3 m)), none, none, none, none]) rfl (Nat.le_of_ble_eq_true rfl) (fun X hX hR => ?_)
  refine v_aload_n (pc := 0) hX rfl d_Mo_readsDecider_0 ?_
  refine g_getI (pc := 1) hX fl_Mo_127 rfl rfl d_Mo_readsDecider_1 ?_
  rw [RS_14]
  refine v_iconst (pc := 4) (v := 4) hX (by decide) d_Mo_readsDecider_4 ?_
  refine v_icmp_eq (pc := 5) (tgt := 19) hX d_Mo_readsDecider_5 rfl (fun h5 => False.elim (by have := (i3_inj (a := y) (b := 4) (by omega) (by decide)).mp h5; omega)) (fun h5 => ?_)
  refine v_aload_n (pc := 8) hX rfl d_Mo_readsDecider_8 ?_
  refine v_iload_n (pc := 9) hX rfl d_Mo_readsDecider_9 ?_
  refine v_iload_n (pc := 10) hX rfl d_Mo_readsDecider_10 ?_
  refine f_callV (pc := 11) hX k_Mo_codeAt ki_Mo_codeAt kv_Mo_codeAt ml_Mo_114 (C_Mo_codeAt (r := P + 5 * y) hF hm hq (by omega)) rfl rfl rfl rfl rfl (Nat.le_of_ble_eq_true rfl) (Nat.le_of_ble_eq_true rfl) (Nat.le_of_ble_eq_true rfl) d_Mo_readsDecider_11 ?_
  refine v_bipush (pc := 14) (v := 44) hX (by decide) d_Mo_readsDecider_14 ?_
  refine v_icmp_eq (pc := 16) (tgt := 21) hX d_Mo_readsDecider_16 rfl (fun h16 => ?_) (fun h16 => False.elim (h16 ((cdA_st (by decide)).mpr hs)))
  refine v_aload_n (pc := 21) hX rfl d_Mo_readsDecider_21 ?_
  refine v_dup (pc := 22) hX rfl d_Mo_readsDecider_22 ?_
  refine g_getI (pc := 23) hX fl_Mo_111 rfl rfl d_Mo_readsDecider_23 ?_
  rw [RS_12]
  refine v_iconst (pc := 26) (v := 1) hX (by decide) d_Mo_readsDecider_26 ?_
  refine v_iadd (pc := 27) hX d_Mo_readsDecider_27 ?_
  refine g_putI (pc := 28) hX fl_Mo_111 rfl (finI rfl rfl) rfl rfl rfl d_Mo_readsDecider_28 ?_
  rw [show i3 (P + 5 * y) + 1 = i3 (P + 5 * y + 1) from (i3_succ _).symm, RS_at]
  refine v_aload_n (pc := 31) hX rfl d_Mo_readsDecider_31 ?_
  refine v_iload_n (pc := 32) hX rfl d_Mo_readsDecider_32 ?_
  refine v_iload_n (pc := 33) hX rfl d_Mo_readsDecider_33 ?_
  refine v_iconst (pc := 34) (v := 0) hX (by decide) d_Mo_readsDecider_34 ?_
  refine f_callV (pc := 35) hX k_Mo_figure ki_Mo_figure kv_Mo_figure ml_Mo_123 (C_Mo_figY (r := P + 5 * y + 1 + 0) hF hm hq (by omega) (by decide) d0) rfl rfl rfl rfl rfl (Nat.le_of_ble_eq_true rfl) (Nat.le_of_ble_eq_true rfl) (Nat.le_of_ble_eq_true rfl) d_Mo_readsDecider_35 ?_
  refine v_istore_n (pc := 38) (lo' := [some (vR _), some (vI _), some (vI _), some (vI _), none, none, none]) hX (Nat.le_of_ble_eq_true rfl) rfl d_Mo_readsDecider_38 ?_
  refine v_aload_n (pc := 39) hX rfl d_Mo_readsDecider_39 ?_
  refine v_iload_n (pc := 40) hX rfl d_Mo_readsDecider_40 ?_
  refine v_iload_n (pc := 41) hX rfl d_Mo_readsDecider_41 ?_
  refine v_iload_n (pc := 42) hX rfl d_Mo_readsDecider_42 ?_
  refine f_callV (pc := 43) hX k_Mo_figure ki_Mo_figure kv_Mo_figure ml_Mo_123 (C_Mo_figY (r := P + 5 * y + 1 + 1) hF hm hq (by omega) (dg_ge d0) d1) rfl rfl rfl rfl rfl (Nat.le_of_ble_eq_true rfl) (Nat.le_of_ble_eq_true rfl) (Nat.le_of_ble_eq_true rfl) d_Mo_readsDecider_43 ?_
  refine v_istore (pc := 46) (lo' := [some (vR _), some (vI _), some (vI _), some (vI _), some (vI _), none, none]) hX (Nat.le_of_ble_eq_true rfl) rfl d_Mo_readsDecider_46 ?_
  refine v_aload_n (pc := 48) hX rfl d_Mo_readsDecider_48 ?_
  refine v_iload_n (pc := 49) hX rfl d_Mo_readsDecider_49 ?_
  refine v_iload_n (pc := 50) hX rfl d_Mo_readsDecider_50 ?_
  refine v_iload (pc := 51) hX rfl d_Mo_readsDecider_51 ?_
  refine f_callV (pc := 53) hX k_Mo_figure ki_Mo_figure kv_Mo_figure ml_Mo_123 (C_Mo_figN (r := P + 5 * y + 1 + 2) hF hm hq (by omega) (dg_ge d1) d2) rfl rfl rfl rfl rfl (Nat.le_of_ble_eq_true rfl) (Nat.le_of_ble_eq_true rfl) (Nat.le_of_ble_eq_true rfl) d_Mo_readsDecider_53 ?_
  refine v_istore (pc := 56) (lo' := [some (vR _), some (vI _), some (vI _), some (vI _), some (vI _), some (vI _), none]) hX (Nat.le_of_ble_eq_true rfl) rfl d_Mo_readsDecider_56 ?_
  refine v_aload_n (pc := 58) hX rfl d_Mo_readsDecider_58 ?_
  refine v_iload_n (pc := 59) hX rfl d_Mo_readsDecider_59 ?_
  refine v_iload_n (pc := 60) hX rfl d_Mo_readsDecider_60 ?_
  refine v_iload (pc := 61) hX rfl d_Mo_readsDecider_61 ?_
  refine f_callV (pc := 63) hX k_Mo_figure ki_Mo_figure kv_Mo_figure ml_Mo_123 (C_Mo_figX hF hm hq) rfl rfl rfl rfl rfl (Nat.le_of_ble_eq_true rfl) (Nat.le_of_ble_eq_true rfl) (Nat.le_of_ble_eq_true rfl) d_Mo_readsDecider_63 ?_
  refine v_istore (pc := 66) (lo' := [some (vR _), some (vI _), some (vI _), some (vI _), some (vI _), some (vI _), some (vI _)]) hX (Nat.le_of_ble_eq_true rfl) rfl d_Mo_readsDecider_66 ?_
  refine v_iload (pc := 68) hX rfl d_Mo_readsDecider_68 ?_
  refine v_if_ge (pc := 70) (tgt := 75) hX d_Mo_readsDecider_70 rfl (fun h70 => False.elim (absurd h70 (by decide))) (fun h70 => ?_)
  refine v_iconst (pc := 73) (v := 0) hX (by decide) d_Mo_readsDecider_73 ?_
  exact f_zret (pc := 74) hX hR (rfl) (rfl) d_Mo_readsDecider_74
theorem C_Mo_rD_d3 {M : MM} {F m x y P : Nat} {q : Nat → Int32} (hF : F + m ≤ 240) (hm : m ≤ 60) (hq : ∀ t, t < m → M 62 (F + t) = q t) (hy : y ≤ 4) (hP60 : P ≤ 60) (hy4 : y < 4) (hs : stB q m (P + 5 * y) 44 = true) (d0 : dgB q m (P + 5 * y + 1 + 0) = true) (d1 : dgB q m (P + 5 * y + 1 + 1) = true) (d2 : dgB q m (P + 5 * y + 1 + 2) = true) (d3 : dgB q m (P + 5 * y + 1 + 3) = false) : AF y_Mo_readsDecider c_Mo_readsDecider 7 (some .boolean) 3 [vR 36, vI (i3 F), vI (i3 m)] (RS M q (P + 5 * y) x y P) (some (vI (bI false))) (RS M q (P + 5 * y + 1 + 3) x y P) := by
  refine AF.of k_Mo_readsDecider (lo := [some (vR 36), some (vI (i3 F)), some (vI (i3 m)), none, none, none, none]) rfl (Nat.le_of_ble_eq_true rfl) (fun X hX hR => ?_)
  refine v_aload_n (pc := 0) hX rfl d_Mo_readsDecider_0 ?_
  refine g_getI (pc := 1) hX fl_Mo_127 rfl rfl d_Mo_readsDecider_1 ?_
  rw [RS_14]
  refine v_iconst (pc := 4) (v := 4) hX (by decide) d_Mo_readsDecider_4 ?_
  refine v_icmp_eq (pc := 5) (tgt := 19) hX d_Mo_readsDecider_5 rfl (fun h5 => False.elim (by have := (i3_inj (a := y) (b := 4) (by omega) (by decide)).mp h5; omega)) (fun h5 => ?_)
  refine v_aload_n (pc := 8) hX rfl d_Mo_readsDecider_8 ?_
  refine v_iload_n (pc := 9) hX rfl d_Mo_readsDecider_9 ?_
  refine v_iload_n (pc := 10) hX rfl d_Mo_readsDecider_10 ?_
  refine f_callV (pc := 11) hX k_Mo_codeAt ki_Mo_codeAt kv_Mo_codeAt ml_Mo_114 (C_Mo_codeAt (r := P + 5 * y) hF hm hq (by omega)) rfl rfl rfl rfl rfl (Nat.le_of_ble_eq_true rfl) (Nat.le_of_ble_eq_true rfl) (Nat.le_of_ble_eq_true rfl) d_Mo_readsDecider_11 ?_
  refine v_bipush (pc := 14) (v := 44) hX (by decide) d_Mo_readsDecider_14 ?_
  refine v_icmp_eq (pc := 16) (tgt := 21) hX d_Mo_readsDecider_16 rfl (fun h16 => ?_) (fun h16 => False.elim (h16 ((cdA_st (by decide)).mpr hs)))
  refine v_aload_n (pc := 21) hX rfl d_Mo_readsDecider_21 ?_
  refine v_dup (pc := 22) hX rfl d_Mo_readsDecider_22 ?_
  refine g_getI (pc := 23) hX fl_Mo_111 rfl rfl d_Mo_readsDecider_23 ?_
  rw [RS_12]
  refine v_iconst (pc := 26) (v := 1) hX (by decide) d_Mo_readsDecider_26 ?_
  refine v_iadd (pc := 27) hX d_Mo_readsDecider_27 ?_
  refine g_putI (pc := 28) hX fl_Mo_111 rfl (finI rfl rfl) rfl rfl rfl d_Mo_readsDecider_28 ?_
  rw [show i3 (P + 5 * y) + 1 = i3 (P + 5 * y + 1) from (i3_succ _).symm, RS_at]
  refine v_aload_n (pc := 31) hX rfl d_Mo_readsDecider_31 ?_
  refine v_iload_n (pc := 32) hX rfl d_Mo_readsDecider_32 ?_
  refine v_iload_n (pc := 33) hX rfl d_Mo_readsDecider_33 ?_
  refine v_iconst (pc := 34) (v := 0) hX (by decide) d_Mo_readsDecider_34 ?_
  refine f_callV (pc := 35) hX k_Mo_figure ki_Mo_figure kv_Mo_figure ml_Mo_123 (C_Mo_figY (r := P + 5 * y + 1 + 0) hF hm hq (by omega) (by decide) d0) rfl rfl rfl rfl rfl (Nat.le_of_ble_eq_true rfl) (Nat.le_of_ble_eq_true rfl) (Nat.le_of_ble_eq_true rfl) d_Mo_readsDecider_35 ?_
  refine v_istore_n (pc := 38) (lo' := [some (vR _), some (vI _), some (vI _), some (vI _), none, none, none]) hX (Nat.le_of_ble_eq_true rfl) rfl d_Mo_readsDecider_38 ?_
  refine v_aload_n (pc := 39) hX rfl d_Mo_readsDecider_39 ?_
  refine v_iload_n (pc := 40) hX rfl d_Mo_readsDecider_40 ?_
  refine v_iload_n (pc := 41) hX rfl d_Mo_readsDecider_41 ?_
  refine v_iload_n (pc := 42) hX rfl d_Mo_readsDecider_42 ?_
  refine f_callV (pc := 43) hX k_Mo_figure ki_Mo_figure kv_Mo_figure ml_Mo_123 (C_Mo_figY (r := P + 5 * y + 1 + 1) hF hm hq (by omega) (dg_ge d0) d1) rfl rfl rfl rfl rfl (Nat.le_of_ble_eq_true rfl) (Nat.le_of_ble_eq_true rfl) (Nat.le_of_ble_eq_true rfl) d_Mo_readsDecider_43 ?_
  refine v_istore (pc := 46) (lo' := [some (vR _), some (vI _), some (vI _), some (vI _), some (vI _), none, none]) hX (Nat.le_of_ble_eq_true rfl) rfl d_Mo_readsDecider_46 ?_
  refine v_aload_n (pc := 48) hX rfl d_Mo_readsDecider_48 ?_
  refine v_iload_n (pc := 49) hX rfl d_Mo_readsDecider_49 ?_
  refine v_iload_n (pc := 50) hX rfl d_Mo_readsDecider_50 ?_
  refine v_iload (pc := 51) hX rfl d_Mo_readsDecider_51 ?_
  refine f_callV (pc := 53) hX k_Mo_figure ki_Mo_figure kv_Mo_figure ml_Mo_123 (C_Mo_figY (r := P + 5 * y + 1 + 2) hF hm hq (by omega) (dg_ge d1) d2) rfl rfl rfl rfl rfl (Nat.le_of_ble_eq_true rfl) (Nat.le_of_ble_eq_true rfl) (Nat.le_of_ble_eq_true rfl) d_Mo_readsDecider_53 ?_
  refine v_istore (pc := 56) (lo' := [some (vR _), some (vI _), some (vI _), some (vI _), some (vI _), some (vI _), none]) hX (Nat.le_of_ble_eq_true rfl) rfl d_Mo_readsDecider_56 ?_
  refine v_aload_n (pc := 58) hX rfl d_Mo_readsDecider_58 ?_
  refine v_iload_n (pc := 59) hX rfl d_Mo_readsDecider_59 ?_
  refine v_iload_n (pc := 60) hX rfl d_Mo_readsDecider_60 ?_
  refine v_iload (pc := 61) hX rfl d_Mo_readsDecider_61 ?_
  refine f_callV (pc := 63) hX k_Mo_figure ki_Mo_figure kv_Mo_figure ml_Mo_123 (C_Mo_figN (r := P + 5 * y + 1 + 3) hF hm hq (by omega) (dg_ge d2) d3) rfl rfl rfl rfl rfl (Nat.le_of_ble_eq_true rfl) (Nat.le_of_ble_eq_true rfl) (Nat.le_of_ble_eq_true rfl) d_Mo_readsDecider_63 ?_
  refine v_istore (pc := 66) (lo' := [some (vR _), some (vI _), some (vI _), some (vI _), some (vI _), some (vI _), some (vI _)]) hX (Nat.le_of_ble_eq_true rfl) rfl d_Mo_readsDecider_66 ?_
  refine v_iload (pc := 68) hX rfl d_Mo_readsDecider_68 ?_
  refine v_if_ge (pc := 70) (tgt := 75) hX d_Mo_readsDecider_70 rfl (fun h70 => False.elim (absurd h70 (by decide))) (fun h70 => ?_)
  refine v_iconst (pc := 73) (v := 0) hX (by decide) d_Mo_readsDecider_73 ?_
  exact f_zret (pc := 74) hX hR (rfl) (rfl) d_Mo_readsDecider_74
set_option maxHeartbeats 4000000 in
theorem C_Mo_rD_ok {M : MM} {F m x y P : Nat} {q : Nat → Int32} (hF : F + m ≤ 240) (hm : m ≤ 60) (hq : ∀ t, t < m → M 62 (F + t) = q t) (hy : y ≤ 4) (hP60 : P ≤ 60) (hy4 : y < 4) (hs : stB q m (P + 5 * y) 44 = true) (d0 : dgB q m (P + 5 * y + 1 + 0) = true) (d1 : dgB q m (P + 5 * y + 1 + 1) = true) (d2 : dgB q m (P + 5 * y + 1 + 2) = true) (d3 : dgB q m (P + 5 * y + 1 + 3) = true) : AF y_Mo_readsDecider c_Mo_readsDecider 7 (some .boolean) 3 [vR 36, vI (i3 F), vI (i3 m)] (RS M q (P + 5 * y) x y P) (some (vI (bI true))) (RS M q (P + 5 * y + 5) x (y + 1) P) := by
  refine AF.of k_Mo_readsDecider (lo := [some (vR 36), some (vI (i3 F)), some (vI (i3 m)), none, none, none, none]) rfl (Nat.le_of_ble_eq_true rfl) (fun X hX hR => ?_)
  refine v_aload_n (pc := 0) hX rfl d_Mo_readsDecider_0 ?_
  refine g_getI (pc := 1) hX fl_Mo_127 rfl rfl d_Mo_readsDecider_1 ?_
  rw [RS_14]
  refine v_iconst (pc := 4) (v := 4) hX (by decide) d_Mo_readsDecider_4 ?_
  refine v_icmp_eq (pc := 5) (tgt := 19) hX d_Mo_readsDecider_5 rfl (fun h5 => False.elim (by have := (i3_inj (a := y) (b := 4) (by omega) (by decide)).mp h5; omega)) (fun h5 => ?_)
  refine v_aload_n (pc := 8) hX rfl d_Mo_readsDecider_8 ?_
  refine v_iload_n (pc := 9) hX rfl d_Mo_readsDecider_9 ?_
  refine v_iload_n (pc := 10) hX rfl d_Mo_readsDecider_10 ?_
  refine f_callV (pc := 11) hX k_Mo_codeAt ki_Mo_codeAt kv_Mo_codeAt ml_Mo_114 (C_Mo_codeAt (r := P + 5 * y) hF hm hq (by omega)) rfl rfl rfl rfl rfl (Nat.le_of_ble_eq_true rfl) (Nat.le_of_ble_eq_true rfl) (Nat.le_of_ble_eq_true rfl) d_Mo_readsDecider_11 ?_
  refine v_bipush (pc := 14) (v := 44) hX (by decide) d_Mo_readsDecider_14 ?_
  refine v_icmp_eq (pc := 16) (tgt := 21) hX d_Mo_readsDecider_16 rfl (fun h16 => ?_) (fun h16 => False.elim (h16 ((cdA_st (by decide)).mpr hs)))
  refine v_aload_n (pc := 21) hX rfl d_Mo_readsDecider_21 ?_
  refine v_dup (pc := 22) hX rfl d_Mo_readsDecider_22 ?_
  refine g_getI (pc := 23) hX fl_Mo_111 rfl rfl d_Mo_readsDecider_23 ?_
  rw [RS_12]
  refine v_iconst (pc := 26) (v := 1) hX (by decide) d_Mo_readsDecider_26 ?_
  refine v_iadd (pc := 27) hX d_Mo_readsDecider_27 ?_
  refine g_putI (pc := 28) hX fl_Mo_111 rfl (finI rfl rfl) rfl rfl rfl d_Mo_readsDecider_28 ?_
  rw [show i3 (P + 5 * y) + 1 = i3 (P + 5 * y + 1) from (i3_succ _).symm, RS_at]
  refine v_aload_n (pc := 31) hX rfl d_Mo_readsDecider_31 ?_
  refine v_iload_n (pc := 32) hX rfl d_Mo_readsDecider_32 ?_
  refine v_iload_n (pc := 33) hX rfl d_Mo_readsDecider_33 ?_
  refine v_iconst (pc := 34) (v := 0) hX (by decide) d_Mo_readsDecider_34 ?_
  refine f_callV (pc := 35) hX k_Mo_figure ki_Mo_figure kv_Mo_figure ml_Mo_123 (C_Mo_figY (r := P + 5 * y + 1 + 0) hF hm hq (by omega) (by decide) d0) rfl rfl rfl rfl rfl (Nat.le_of_ble_eq_true rfl) (Nat.le_of_ble_eq_true rfl) (Nat.le_of_ble_eq_true rfl) d_Mo_readsDecider_35 ?_
  refine v_istore_n (pc := 38) (lo' := [some (vR _), some (vI _), some (vI _), some (vI _), none, none, none]) hX (Nat.le_of_ble_eq_true rfl) rfl d_Mo_readsDecider_38 ?_
  refine v_aload_n (pc := 39) hX rfl d_Mo_readsDecider_39 ?_
  refine v_iload_n (pc := 40) hX rfl d_Mo_readsDecider_40 ?_
  refine v_iload_n (pc := 41) hX rfl d_Mo_readsDecider_41 ?_
  refine v_iload_n (pc := 42) hX rfl d_Mo_readsDecider_42 ?_
  refine f_callV (pc := 43) hX k_Mo_figure ki_Mo_figure kv_Mo_figure ml_Mo_123 (C_Mo_figY (r := P + 5 * y + 1 + 1) hF hm hq (by omega) (dg_ge d0) d1) rfl rfl rfl rfl rfl (Nat.le_of_ble_eq_true rfl) (Nat.le_of_ble_eq_true rfl) (Nat.le_of_ble_eq_true rfl) d_Mo_readsDecider_43 ?_
  refine v_istore (pc := 46) (lo' := [some (vR _), some (vI _), some (vI _), some (vI _), some (vI _), none, none]) hX (Nat.le_of_ble_eq_true rfl) rfl d_Mo_readsDecider_46 ?_
  refine v_aload_n (pc := 48) hX rfl d_Mo_readsDecider_48 ?_
  refine v_iload_n (pc := 49) hX rfl d_Mo_readsDecider_49 ?_
  refine v_iload_n (pc := 50) hX rfl d_Mo_readsDecider_50 ?_
  refine v_iload (pc := 51) hX rfl d_Mo_readsDecider_51 ?_
  refine f_callV (pc := 53) hX k_Mo_figure ki_Mo_figure kv_Mo_figure ml_Mo_123 (C_Mo_figY (r := P + 5 * y + 1 + 2) hF hm hq (by omega) (dg_ge d1) d2) rfl rfl rfl rfl rfl (Nat.le_of_ble_eq_true rfl) (Nat.le_of_ble_eq_true rfl) (Nat.le_of_ble_eq_true rfl) d_Mo_readsDecider_53 ?_
  refine v_istore (pc := 56) (lo' := [some (vR _), some (vI _), some (vI _), some (vI _), some (vI _), some (vI _), none]) hX (Nat.le_of_ble_eq_true rfl) rfl d_Mo_readsDecider_56 ?_
  refine v_aload_n (pc := 58) hX rfl d_Mo_readsDecider_58 ?_
  refine v_iload_n (pc := 59) hX rfl d_Mo_readsDecider_59 ?_
  refine v_iload_n (pc := 60) hX rfl d_Mo_readsDecider_60 ?_
  refine v_iload (pc := 61) hX rfl d_Mo_readsDecider_61 ?_
  refine f_callV (pc := 63) hX k_Mo_figure ki_Mo_figure kv_Mo_figure ml_Mo_123 (C_Mo_figY (r := P + 5 * y + 1 + 3) hF hm hq (by omega) (dg_ge d2) d3) rfl rfl rfl rfl rfl (Nat.le_of_ble_eq_true rfl) (Nat.le_of_ble_eq_true rfl) (Nat.le_of_ble_eq_true rfl) d_Mo_readsDecider_63 ?_
  refine v_istore (pc := 66) (lo' := [some (vR _), some (vI _), some (vI _), some (vI _), some (vI _), some (vI _), some (vI _)]) hX (Nat.le_of_ble_eq_true rfl) rfl d_Mo_readsDecider_66 ?_
  refine v_iload (pc := 68) hX rfl d_Mo_readsDecider_68 ?_
  refine v_if_ge (pc := 70) (tgt := 75) hX d_Mo_readsDecider_70 rfl (fun h70 => ?_) (fun h70 => False.elim (h70 (dg_ge d3)))
  refine v_aload_n (pc := 75) hX rfl d_Mo_readsDecider_75 ?_
  refine g_getR (pc := 76) hX fl_Mo_52 rfl rfl nf_36_20 d_Mo_readsDecider_76 ?_
  refine v_aload_n (pc := 79) hX rfl d_Mo_readsDecider_79 ?_
  refine g_getI (pc := 80) hX fl_Mo_127 rfl rfl d_Mo_readsDecider_80 ?_
  rw [RS_14]
  refine v_iload_n (pc := 83) hX rfl d_Mo_readsDecider_83 ?_
  refine g_iast (pc := 84) hX rfl (IX.of (n := 4) (by omega) (by decide)) d_Mo_readsDecider_84 ?_
  refine v_aload_n (pc := 85) hX rfl d_Mo_readsDecider_85 ?_
  refine g_getR (pc := 86) hX fl_Mo_55 rfl rfl nf_36_21 d_Mo_readsDecider_86 ?_
  refine v_aload_n (pc := 89) hX rfl d_Mo_readsDecider_89 ?_
  refine g_getI (pc := 90) hX fl_Mo_127 rfl rfl d_Mo_readsDecider_90 ?_
  rw [upM_ne (by omega), RS_14]
  refine v_iload (pc := 93) hX rfl d_Mo_readsDecider_93 ?_
  refine g_iast (pc := 95) hX rfl (IX.of (n := 4) (by omega) (by decide)) d_Mo_readsDecider_95 ?_
  refine v_aload_n (pc := 96) hX rfl d_Mo_readsDecider_96 ?_
  refine g_getR (pc := 97) hX fl_Mo_58 rfl rfl nf_36_22 d_Mo_readsDecider_97 ?_
  refine v_aload_n (pc := 100) hX rfl d_Mo_readsDecider_100 ?_
  refine g_getI (pc := 101) hX fl_Mo_127 rfl rfl d_Mo_readsDecider_101 ?_
  rw [upM_ne (by omega), upM_ne (by omega), RS_14]
  refine v_bipush (pc := 104) (v := 10) hX (by decide) d_Mo_readsDecider_104 ?_
  refine v_iload (pc := 106) hX rfl d_Mo_readsDecider_106 ?_
  refine v_imul (pc := 108) hX d_Mo_readsDecider_108 ?_
  refine v_iload (pc := 109) hX rfl d_Mo_readsDecider_109 ?_
  refine v_iadd (pc := 111) hX d_Mo_readsDecider_111 ?_
  refine g_iast (pc := 112) hX rfl (IX.of (n := 4) (by omega) (by decide)) d_Mo_readsDecider_112 ?_
  refine v_aload_n (pc := 113) hX rfl d_Mo_readsDecider_113 ?_
  refine v_dup (pc := 114) hX rfl d_Mo_readsDecider_114 ?_
  refine g_getI (pc := 115) hX fl_Mo_127 rfl rfl d_Mo_readsDecider_115 ?_
  rw [upM_ne (by omega), upM_ne (by omega), upM_ne (by omega), RS_14]
  refine v_iconst (pc := 118) (v := 1) hX (by decide) d_Mo_readsDecider_118 ?_
  refine v_iadd (pc := 119) hX d_Mo_readsDecider_119 ?_
  refine g_putI (pc := 120) hX fl_Mo_127 rfl (finI rfl rfl) rfl rfl rfl d_Mo_readsDecider_120 ?_
  refine v_iconst (pc := 123) (v := 1) hX (by decide) d_Mo_readsDecider_123 ?_
  exact f_zret (pc := 124) hX hR (rfl) (RS_D rfl rfl (by unfold tDf; rw [if_neg (by decide), if_neg (by decide), if_pos rfl, add_sub32])) d_Mo_readsDecider_124
def fD (q : Nat → Int32) (m P y : Nat) : Nat := if y < 4 ∧ stB q m (P + 5 * y) 44 = true then P + 5 * y + ftD q m (P + 5 * y) else P + 5 * y
theorem C_Mo_rD_no {M : MM} {F m x y P : Nat} {q : Nat → Int32} (hF : F + m ≤ 240) (hm : m ≤ 60) (hq : ∀ t, t < m → M 62 (F + t) = q t) (hy : y ≤ 4) (hP60 : P ≤ 60) (hg : ¬ (y < 4 ∧ gD q m P y = true)) : AF y_Mo_readsDecider c_Mo_readsDecider 7 (some .boolean) 3 [vR 36, vI (i3 F), vI (i3 m)] (RS M q (P + 5 * y) x y P) (some (vI (bI false))) (RS M q (fD q m P y) x y P) := by
  unfold fD
  by_cases h0 : y < 4 ∧ stB q m (P + 5 * y) 44 = true
  · rw [if_pos h0]
    obtain ⟨hy4, hs⟩ := h0
    have hne : ¬ ftD q m (P + 5 * y) = 5 := fun w => hg ⟨hy4, by unfold gD; rw [hs, decide_eq_true w]; rfl⟩
    have e : ftD q m (P + 5 * y) = 1 + chs (fun i => !dgB q m (P + 5 * y + 1 + i)) 4 := rfl
    have hl := chs_le (fun i => !dgB q m (P + 5 * y + 1 + i)) 4
    have hlt : chs (fun i => !dgB q m (P + 5 * y + 1 + i)) 4 < 4 := by omega
    have hP := chs_P hlt
    have hb := chs_lt (P := fun i => !dgB q m (P + 5 * y + 1 + i)) (n := 4)
    have hb' : ∀ i, i < chs (fun i => !dgB q m (P + 5 * y + 1 + i)) 4 → dgB q m (P + 5 * y + 1 + i) = true := fun i hi => by simpa using hb i hi
    have hP' : dgB q m (P + 5 * y + 1 + chs (fun i => !dgB q m (P + 5 * y + 1 + i)) 4) = false := by simpa using hP
    rw [e]
    generalize chs (fun i => !dgB q m (P + 5 * y + 1 + i)) 4 = c at *
    rcases (show c = 0 ∨ c = 1 ∨ c = 2 ∨ c = 3 by omega) with rfl | rfl | rfl | rfl
    · exact C_Mo_rD_d0 hF hm hq hy hP60 hy4 hs hP'
    · exact C_Mo_rD_d1 hF hm hq hy hP60 hy4 hs (hb' 0 (by decide)) hP'
    · exact C_Mo_rD_d2 hF hm hq hy hP60 hy4 hs (hb' 0 (by decide)) (hb' 1 (by decide)) hP'
    · exact C_Mo_rD_d3 hF hm hq hy hP60 hy4 hs (hb' 0 (by decide)) (hb' 1 (by decide)) (hb' 2 (by decide)) hP'
  · rw [if_neg h0]
    exact C_Mo_rD_f0 hF hm hq hy hP60 h0
theorem C_Mo_rD_yes {M : MM} {F m x y P : Nat} {q : Nat → Int32} (hF : F + m ≤ 240) (hm : m ≤ 60) (hq : ∀ t, t < m → M 62 (F + t) = q t) (hP60 : P ≤ 60) (hy4 : y < 4) (hg : stB q m (P + 5 * y) 44 = true ∧ ftD q m (P + 5 * y) = 5) : AF y_Mo_readsDecider c_Mo_readsDecider 7 (some .boolean) 3 [vR 36, vI (i3 F), vI (i3 m)] (RS M q (P + 5 * y) x y P) (some (vI (bI true))) (RS M q (P + 5 * (y + 1)) x (y + 1) P) := by
  have hd := ft5 hg.2
  rw [show P + 5 * (y + 1) = P + 5 * y + 5 by omega]
  exact C_Mo_rD_ok hF hm hq (by omega) hP60 hy4 hg.1 (hd 0 (by decide)) (hd 1 (by decide)) (hd 2 (by decide)) (hd 3 (by decide))
