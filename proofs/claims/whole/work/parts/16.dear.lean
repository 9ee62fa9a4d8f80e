/-! Whom to serve: a decider, how dear. -/
theorem d_Se_jarFor_0 : decode c_Se_jarFor 0 = .ok (.iload_n 2, 1) := by decide +kernel
theorem d_Se_jarFor_1 : decode c_Se_jarFor 1 = .ok (.aload_n 1, 1) := by decide +kernel
theorem d_Se_jarFor_2 : decode c_Se_jarFor 2 = .ok (.getfield 26, 3) := by decide +kernel
theorem d_Se_jarFor_5 : decode c_Se_jarFor 5 = .ok (.invokestatic 32, 3) := by decide +kernel
theorem d_Se_jarFor_8 : decode c_Se_jarFor 8 = .ok (.ifCond .eq 12, 3) := by decide +kernel
theorem d_Se_jarFor_11 : decode c_Se_jarFor 11 = .ok (.aload_n 0, 1) := by decide +kernel
theorem d_Se_jarFor_12 : decode c_Se_jarFor 12 = .ok (.getfield 15, 3) := by decide +kernel
theorem d_Se_jarFor_15 : decode c_Se_jarFor 15 = .ok (.iload_n 2, 1) := by decide +kernel
theorem d_Se_jarFor_16 : decode c_Se_jarFor 16 = .ok (.iaload, 1) := by decide +kernel
theorem d_Se_jarFor_17 : decode c_Se_jarFor 17 = .ok (.goto 5, 3) := by decide +kernel
theorem d_Se_jarFor_20 : decode c_Se_jarFor 20 = .ok (.bipush (-9), 2) := by decide +kernel
theorem d_Se_jarFor_22 : decode c_Se_jarFor 22 = .ok (.ireturn, 1) := by decide +kernel
theorem C_Se_jarFor_in {M : MM} {nd b : Nat} (hM3 : M 3 3 = i3 nd) (h4 : nd ≤ 4) (hb : b < nd) : AF y_Se_jarFor c_Se_jarFor 3 (some .int) 2 [vR 19, vR 3, vI (i3 b)] (M) (some (vI (M 21 b))) (M) := by
  refine AF.of k_Se_jarFor (lo := [some (vR 19), some (vR 3), some (vI (i3 b))]) rfl (Nat.le_of_ble_eq_true rfl) (fun X hX hR => ?_)
  refine v_iload_n (pc := 0) hX rfl d_Se_jarFor_0 ?_
  refine v_aload_n (pc := 1) hX rfl d_Se_jarFor_1 ?_
  refine g_getI (pc := 2) hX fl_Se_26 rfl rfl d_Se_jarFor_2 ?_
  rw [hM3]
  refine f_callN (pc := 5) hX k_LJ_isBelow ks_LJ_isBelow (by decide) (C_LJ_isBelow) rfl rfl rfl (Nat.le_of_ble_eq_true rfl) (Nat.le_of_ble_eq_true rfl) (Nat.le_of_ble_eq_true rfl) d_Se_jarFor_5 ?_
  refine f_ifeqB (pc := 8) (tgt := 20) hX d_Se_jarFor_8 rfl (fun h8 => False.elim (absurd h8 (by rw [i3_int (by omega), rg_i3 hb (by omega)]; decide))) (fun h8 => ?_)
  refine v_aload_n (pc := 11) hX rfl d_Se_jarFor_11 ?_
  refine g_getR (pc := 12) hX fl_Se_15 rfl rfl nf_19_1 d_Se_jarFor_12 ?_
  refine v_iload_n (pc := 15) hX rfl d_Se_jarFor_15 ?_
  refine g_iald (pc := 16) hX rfl (IX.of (n := 4) (by omega) (by decide)) d_Se_jarFor_16 ?_
  refine v_goto (pc := 17) (tgt := 22) hX d_Se_jarFor_17 rfl ?_
  exact f_iret (pc := 22) hX hR (rfl) (rfl) d_Se_jarFor_22
theorem C_Se_jarFor_out {M : MM} {nd b : Nat} (hM3 : M 3 3 = i3 nd) (h4 : nd ≤ 4) (hb : nd ≤ b) (hb2 : b ≤ 9) : AF y_Se_jarFor c_Se_jarFor 3 (some .int) 2 [vR 19, vR 3, vI (i3 b)] (M) (some (vI (-9))) (M) := by
  refine AF.of k_Se_jarFor (lo := [some (vR 19), some (vR 3), some (vI (i3 b))]) rfl (Nat.le_of_ble_eq_true rfl) (fun X hX hR => ?_)
  refine v_iload_n (pc := 0) hX rfl d_Se_jarFor_0 ?_
  refine v_aload_n (pc := 1) hX rfl d_Se_jarFor_1 ?_
  refine g_getI (pc := 2) hX fl_Se_26 rfl rfl d_Se_jarFor_2 ?_
  rw [hM3]
  refine f_callN (pc := 5) hX k_LJ_isBelow ks_LJ_isBelow (by decide) (C_LJ_isBelow) rfl rfl rfl (Nat.le_of_ble_eq_true rfl) (Nat.le_of_ble_eq_true rfl) (Nat.le_of_ble_eq_true rfl) d_Se_jarFor_5 ?_
  refine f_ifeqB (pc := 8) (tgt := 20) hX d_Se_jarFor_8 rfl (fun h8 => ?_) (fun h8 => False.elim (absurd h8 (by rw [i3_int (by omega), show rg (i3 b) 0 ((nd : Int) - 1) = false from rg_false.mpr (by rw [i3_int (by omega)]; omega)]; decide)))
  refine v_bipush (pc := 20) (v := (-9)) hX (by decide) d_Se_jarFor_20 ?_
  exact f_iret (pc := 22) hX hR (rfl) (rfl) d_Se_jarFor_22
-- how dear
def drN (f : Nat → Bool) (p : Nat) : Nat → Nat
  | 0 => p
  | v + 1 => if p < v + 1 ∧ f (v + 1) = true then v + 1 else drN f p v
theorem dr_low (f : Nat → Bool) (p : Nat) : ∀ v, v ≤ p → drN f p v = p
  | 0, _ => rfl
  | v + 1, h => by unfold drN; rw [if_neg (by omega)]; exact dr_low f p v (by omega)
theorem dr_hit {f : Nat → Bool} {p v : Nat} (h : p < v) (hf : f v = true) : drN f p v = v := by
  match v, h with
  | v + 1, h => unfold drN; rw [if_pos ⟨h, hf⟩]
theorem dr_no {f : Nat → Bool} {p k : Nat} (hk : k < 9) (hf : f (9 - k) = false) : drN f p (9 - k) = drN f p (9 - (k + 1)) := by
  generalize hd : 9 - (k + 1) = d
  rw [show 9 - k = d + 1 by omega] at hf ⊢
  conv => lhs; unfold drN
  rw [if_neg (by rw [hf]; simp)]
def dM (M : MM) (j k : Nat) : MM := if k = 0 then bgM M 6 else upM (bgM M 6) (6 + j) 4 (i3 (10 - k))
theorem upM_up {M : MM} {r k : Nat} {x y : Int32} : upM (upM M r k x) r k y = upM M r k y := by
  funext a i
  unfold upM
  by_cases e : a = r ∧ i = k
  · rw [if_pos e, if_pos e]
  · rw [if_neg e, if_neg e, if_neg e]
theorem dM_up {M : MM} {j k : Nat} {x : Int32} : upM (dM M j k) (6 + j) 4 x = upM (bgM M 6) (6 + j) 4 x := by
  unfold dM
  split
  · rfl
  · exact upM_up
theorem bg_up {M : MM} {j : Nat} {x : Int32} (hj : j < 6) : bgM (upM (bgM M 6) (6 + j) 4 x) 6 = upM (bgM M 6) (6 + j) 4 x := by
  funext a i
  show (if a = 20 ∧ i < 6 then upM (bgM M 6) (6 + j) 4 x (6 + i) 3 else upM (bgM M 6) (6 + j) 4 x a i) = _
  by_cases e : a = 20 ∧ i < 6
  · rw [if_pos e, upM_ne (by omega), upM_ne (by omega), bgM_ne (by omega)]
    unfold bgM
    rw [if_pos e]
  · rw [if_neg e]
theorem CJ.set {M : MM} {n j k : Nat} {J : JT} {x : Int32} (h : CJ M n J) (hj : j < n) : CJ (upM M (6 + j) k x) n (upM J j k x) := by
  obtain ⟨h1, h2, h3⟩ := h
  refine ⟨h1, by rw [upM_ne (by omega)]; exact h2, fun j' hj' i hi => ?_⟩
  unfold upM
  by_cases e : j' = j ∧ i = k
  · rw [if_pos (by omega), if_pos e]
  · rw [if_neg (by omega), if_neg e]; exact h3 j' hj' i hi
theorem CB.upj {M : MM} {n j k : Nat} {B : JT} {x : Int32} (h : CB M n B) (hj : j < 6) : CB (upM M (6 + j) k x) n B := by
  obtain ⟨h1, h2, h3⟩ := h
  exact ⟨h1, by rw [upM_ne (by omega)]; exact h2, fun j' hj' i hi => by rw [upM_ne (by omega)]; exact h3 j' hj' i hi⟩
theorem HV.up4 {n j : Nat} {J : JT} {hv : Nat → Nat} {x : Int32} (h : HV n J hv) : HV n (upM J j 4 x) hv := fun j' hj' => by rw [upM_ne (by omega)]; exact h j' hj'
def mvN (J B : JT) (n nd : Nat) (hv : Nat → Nat) (j v : Nat) : Nat := mostN (okB (upM J j 4 (i3 v)) B) n nd nd hv
theorem upM_back2 {M : MM} {r k : Nat} {y : Int32} (h : M r k = y) : upM M r k y = M := by
  funext a i
  unfold upM
  by_cases e : a = r ∧ i = k
  · rw [if_pos e, e.1, e.2, h]
  · rw [if_neg e]
theorem d_Se_dearest_0 : decode c_Se_dearest 0 = .ok (.aload_n 2, 1) := by decide +kernel
theorem d_Se_dearest_1 : decode c_Se_dearest 1 = .ok (.getfield 36, 3) := by decide +kernel
theorem d_Se_dearest_4 : decode c_Se_dearest 4 = .ok (.istore_n 3, 1) := by decide +kernel
theorem d_Se_dearest_5 : decode c_Se_dearest 5 = .ok (.aload_n 0, 1) := by decide +kernel
theorem d_Se_dearest_6 : decode c_Se_dearest 6 = .ok (.aload_n 1, 1) := by decide +kernel
theorem d_Se_dearest_7 : decode c_Se_dearest 7 = .ok (.invokevirtual 41, 3) := by decide +kernel
theorem d_Se_dearest_10 : decode c_Se_dearest 10 = .ok (.istore 4, 2) := by decide +kernel
theorem d_Se_dearest_12 : decode c_Se_dearest 12 = .ok (.iload_n 3, 1) := by decide +kernel
theorem d_Se_dearest_13 : decode c_Se_dearest 13 = .ok (.istore 5, 2) := by decide +kernel
theorem d_Se_dearest_15 : decode c_Se_dearest 15 = .ok (.bipush 9, 2) := by decide +kernel
theorem d_Se_dearest_17 : decode c_Se_dearest 17 = .ok (.istore 6, 2) := by decide +kernel
theorem d_Se_dearest_19 : decode c_Se_dearest 19 = .ok (.iload 6, 2) := by decide +kernel
theorem d_Se_dearest_21 : decode c_Se_dearest 21 = .ok (.iload_n 3, 1) := by decide +kernel
theorem d_Se_dearest_22 : decode c_Se_dearest 22 = .ok (.if_icmp .le 39, 3) := by decide +kernel
theorem d_Se_dearest_25 : decode c_Se_dearest 25 = .ok (.iload 5, 2) := by decide +kernel
theorem d_Se_dearest_27 : decode c_Se_dearest 27 = .ok (.iload_n 3, 1) := by decide +kernel
theorem d_Se_dearest_28 : decode c_Se_dearest 28 = .ok (.if_icmp .ne 33, 3) := by decide +kernel
theorem d_Se_dearest_31 : decode c_Se_dearest 31 = .ok (.aload_n 2, 1) := by decide +kernel
theorem d_Se_dearest_32 : decode c_Se_dearest 32 = .ok (.iload 6, 2) := by decide +kernel
theorem d_Se_dearest_34 : decode c_Se_dearest 34 = .ok (.putfield 36, 3) := by decide +kernel
theorem d_Se_dearest_37 : decode c_Se_dearest 37 = .ok (.aload_n 0, 1) := by decide +kernel
theorem d_Se_dearest_38 : decode c_Se_dearest 38 = .ok (.aload_n 1, 1) := by decide +kernel
theorem d_Se_dearest_39 : decode c_Se_dearest 39 = .ok (.invokevirtual 41, 3) := by decide +kernel
theorem d_Se_dearest_42 : decode c_Se_dearest 42 = .ok (.iload 4, 2) := by decide +kernel
theorem d_Se_dearest_44 : decode c_Se_dearest 44 = .ok (.if_icmp .lt 8, 3) := by decide +kernel
theorem d_Se_dearest_47 : decode c_Se_dearest 47 = .ok (.iload 6, 2) := by decide +kernel
theorem d_Se_dearest_49 : decode c_Se_dearest 49 = .ok (.goto 4, 3) := by decide +kernel
theorem d_Se_dearest_52 : decode c_Se_dearest 52 = .ok (.iload_n 3, 1) := by decide +kernel
theorem d_Se_dearest_53 : decode c_Se_dearest 53 = .ok (.istore 5, 2) := by decide +kernel
theorem d_Se_dearest_55 : decode c_Se_dearest 55 = .ok (.iinc 6 (-1), 3) := by decide +kernel
theorem d_Se_dearest_58 : decode c_Se_dearest 58 = .ok (.goto (-39), 3) := by decide +kernel
theorem d_Se_dearest_61 : decode c_Se_dearest 61 = .ok (.aload_n 2, 1) := by decide +kernel
theorem d_Se_dearest_62 : decode c_Se_dearest 62 = .ok (.iload_n 3, 1) := by decide +kernel
theorem d_Se_dearest_63 : decode c_Se_dearest 63 = .ok (.putfield 36, 3) := by decide +kernel
theorem d_Se_dearest_66 : decode c_Se_dearest 66 = .ok (.iload 5, 2) := by decide +kernel
theorem d_Se_dearest_68 : decode c_Se_dearest 68 = .ok (.ireturn, 1) := by decide +kernel
set_option maxHeartbeats 4000000 in
theorem C_Se_dearest {M : MM} {n nd : Nat} {J B : JT} {hv : Nat → Nat} (hJ : CJ M n J) (hB : CB M nd B) (hH : HV n J hv) {j p : Nat} (hj : j < n) (hp : J j 4 = i3 p) (hp9 : p ≤ 9) : AF y_Se_dearest c_Se_dearest 7 (some .int) 14 [vR 19, vR 3, vR (6 + j)] (M) (some (vI (i3 (drN (fun v => decide (mostN (okB J B) n nd nd hv ≤ mvN J B n nd hv j v)) p 9)))) (bgM M 6) := by
  have h4 := hB.1
  have hM3 := hB.2.1
  have h6 := hJ.1
  have hsj := sh_jar j (by omega)
  have hMp : M (6 + j) 4 = i3 p := by rw [hJ.2.2 j hj 4 (by decide)]; exact hp
  have hml := mostN_le (okB J B) n nd nd hv
  have hJ1 : CJ (bgM M 6) n J := hJ.eq (fun a ha i => bgM_ne (by omega))
  have hB1 : CB (bgM M 6) nd B := hB.eq (fun a ha i => bgM_ne (by omega))
  have hbp : bgM M 6 (6 + j) 4 = i3 p := by rw [bgM_ne (by omega)]; exact hMp
  refine AF.of k_Se_dearest (lo := [some (vR 19), some (vR 3), some (vR (6 + j)), none, none, none, none]) rfl (Nat.le_of_ble_eq_true rfl) (fun X hX hR => ?_)
  refine v_aload_n (pc := 0) hX rfl d_Se_dearest_0 ?_
  refine g_getI (pc := 1) hX fl_Se_36 rfl (by assumption) d_Se_dearest_1 ?_
  rw [hMp]
  refine v_istore_n (pc := 4) (lo' := [some (vR _), some (vR _), some (vR _), some (vI _), none, none, none]) hX (Nat.le_of_ble_eq_true rfl) rfl d_Se_dearest_4 ?_
  refine v_aload_n (pc := 5) hX rfl d_Se_dearest_5 ?_
  refine v_aload_n (pc := 6) hX rfl d_Se_dearest_6 ?_
  refine f_callV (pc := 7) hX k_Se_howMany ki_Se_howMany kv_Se_howMany ml_Se_41 (C_Se_howMany hJ hB hH) rfl rfl rfl rfl rfl (Nat.le_of_ble_eq_true rfl) (Nat.le_of_ble_eq_true rfl) (Nat.le_of_ble_eq_true rfl) d_Se_dearest_7 ?_
  refine v_istore (pc := 10) (lo' := [some (vR _), some (vR _), some (vR _), some (vI _), some (vI _), none, none]) hX (Nat.le_of_ble_eq_true rfl) rfl d_Se_dearest_10 ?_
  refine v_iload_n (pc := 12) hX rfl d_Se_dearest_12 ?_
  refine v_istore (pc := 13) (lo' := [some (vR _), some (vR _), some (vR _), some (vI _), some (vI _), some (vI _), none]) hX (Nat.le_of_ble_eq_true rfl) rfl d_Se_dearest_13 ?_
  refine v_bipush (pc := 15) (v := 9) hX (by decide) d_Se_dearest_15 ?_
  refine v_istore (pc := 17) (lo' := [some (vR _), some (vR _), some (vR _), some (vI _), some (vI _), some (vI _), some (vI _)]) hX (Nat.le_of_ble_eq_true rfl) rfl d_Se_dearest_17 ?_
  refine VW.cast (lo' := [some (vR 19), some (vR 3), some (vR (6 + j)), some (vI (i3 p)), some (vI (i3 (mostN (okB J B) n nd nd hv))), some (vI (i3 p)), some (vI (i3 (9 - 0)))]) (st' := []) (G' := gM (dM M j 0)) rfl rfl rfl ?_
  refine v_forI (X := X) (head := 19) (9 - p) (fun kk => [some (vR 19), some (vR 3), some (vR (6 + j)), some (vI (i3 p)), some (vI (i3 (mostN (okB J B) n nd nd hv))), some (vI (i3 p)), some (vI (i3 (9 - kk)))]) (fun kk => dM M j kk) (fun kk => drN (fun v => decide (mostN (okB J B) n nd nd hv ≤ mvN J B n nd hv j v)) p 9 = drN (fun v => decide (mostN (okB J B) n nd nd hv ≤ mvN J B n nd hv j v)) p (9 - kk)) (rfl) (fun k hk hIk ih19 => ?_) (fun hIk => ?_)
  · show VW X 19 [some (vR 19), some (vR 3), some (vR (6 + j)), some (vI (i3 p)), some (vI (i3 (mostN (okB J B) n nd nd hv))), some (vI (i3 p)), some (vI (i3 (9 - k)))] [] (gM (dM M j k))
    have hIk : drN (fun v => decide (mostN (okB J B) n nd nd hv ≤ mvN J B n nd hv j v)) p 9 = drN (fun v => decide (mostN (okB J B) n nd nd hv ≤ mvN J B n nd hv j v)) p (9 - k) := hIk
    have hmv := mostN_le (okB (upM J j 4 (i3 (9 - k))) B) n nd nd hv
    refine v_iload (pc := 19) hX rfl d_Se_dearest_19 ?_
    refine v_iload_n (pc := 21) hX rfl d_Se_dearest_21 ?_
    refine v_icmp_le (pc := 22) (tgt := 61) hX d_Se_dearest_22 rfl (fun h22 => False.elim (by have := (i3_le (by omega) (by omega)).mp h22; omega)) (fun h22 => ?_)
    refine v_iload (pc := 25) hX rfl d_Se_dearest_25 ?_
    refine v_iload_n (pc := 27) hX rfl d_Se_dearest_27 ?_
    refine v_icmp_ne (pc := 28) (tgt := 61) hX d_Se_dearest_28 rfl (fun h28 => False.elim (h28 rfl)) (fun h28 => ?_)
    refine v_aload_n (pc := 31) hX rfl d_Se_dearest_31 ?_
    refine v_iload (pc := 32) hX rfl d_Se_dearest_32 ?_
    refine g_putI (pc := 34) hX fl_Se_36 rfl (finI rfl rfl) (by assumption) rfl rfl d_Se_dearest_34 ?_
    rw [dM_up]
    refine v_aload_n (pc := 37) hX rfl d_Se_dearest_37 ?_
    refine v_aload_n (pc := 38) hX rfl d_Se_dearest_38 ?_
    refine f_callV (pc := 39) hX k_Se_howMany ki_Se_howMany kv_Se_howMany ml_Se_41 (C_Se_howMany (hJ1.set hj) (hB1.upj (by omega)) hH.up4) rfl rfl rfl rfl rfl (Nat.le_of_ble_eq_true rfl) (Nat.le_of_ble_eq_true rfl) (Nat.le_of_ble_eq_true rfl) d_Se_dearest_39 ?_
    rw [bg_up (by omega)]
    refine v_iload (pc := 42) hX rfl d_Se_dearest_42 ?_
    refine v_icmp_lt (pc := 44) (tgt := 52) hX d_Se_dearest_44 rfl (fun h44 => ?_) (fun h44 => ?_)
    · refine v_iload_n (pc := 52) hX rfl d_Se_dearest_52 ?_
      refine v_istore (pc := 53) (lo' := [some (vR _), some (vR _), some (vR _), some (vI _), some (vI _), some (vI _), some (vI _)]) hX (Nat.le_of_ble_eq_true rfl) rfl d_Se_dearest_53 ?_
      refine v_iinc (pc := 55) (lo' := [some (vR _), some (vR _), some (vR _), some (vI _), some (vI _), some (vI _), some (vI _)]) hX rfl rfl d_Se_dearest_55 ?_
      refine v_goto (pc := 58) (tgt := 19) hX d_Se_dearest_58 rfl ?_
      exact VW.cast (by rw [i3_pred (by omega)]) rfl (by unfold dM; rw [if_neg (Nat.succ_ne_zero k), show 10 - (k + 1) = 9 - k by omega]) (ih19 (by rw [hIk]; exact dr_no (by omega) (decide_eq_false (fun q => by unfold mvN at q; have := (i3_lt (by omega) (by omega)).mp h44; omega))))
    · refine v_iload (pc := 47) hX rfl d_Se_dearest_47 ?_
      refine v_goto (pc := 49) (tgt := 53) hX d_Se_dearest_49 rfl ?_
      refine v_istore (pc := 53) (lo' := [some (vR _), some (vR _), some (vR _), some (vI _), some (vI _), some (vI _), some (vI _)]) hX (Nat.le_of_ble_eq_true rfl) rfl d_Se_dearest_53 ?_
      refine v_iinc (pc := 55) (lo' := [some (vR _), some (vR _), some (vR _), some (vI _), some (vI _), some (vI _), some (vI _)]) hX rfl rfl d_Se_dearest_55 ?_
      refine v_goto (pc := 58) (tgt := 19) hX d_Se_dearest_58 rfl ?_
      refine v_iload (pc := 19) hX rfl d_Se_dearest_19 ?_
      refine v_iload_n (pc := 21) hX rfl d_Se_dearest_21 ?_
      refine v_icmp_le (pc := 22) (tgt := 61) hX d_Se_dearest_22 rfl (fun h22 => ?_) (fun h22 => ?_)
      · refine v_aload_n (pc := 61) hX rfl d_Se_dearest_61 ?_
        refine v_iload_n (pc := 62) hX rfl d_Se_dearest_62 ?_
        refine g_putI (pc := 63) hX fl_Se_36 rfl (finI rfl rfl) (by assumption) rfl rfl d_Se_dearest_63 ?_
        rw [upM_up, upM_back2 hbp]
        refine v_iload (pc := 66) hX rfl d_Se_dearest_66 ?_
        exact f_iret (pc := 68) hX hR (by rw [hIk, dr_hit (by omega) (decide_eq_true (Nat.le_of_not_lt (fun q => h44 ((i3_lt (by omega) (by omega)).mpr q))))]) (rfl) d_Se_dearest_68
      · refine v_iload (pc := 25) hX rfl d_Se_dearest_25 ?_
        refine v_iload_n (pc := 27) hX rfl d_Se_dearest_27 ?_
        refine v_icmp_ne (pc := 28) (tgt := 61) hX d_Se_dearest_28 rfl (fun h28 => ?_) (fun h28 => False.elim (by have := (i3_inj (by omega) (by omega)).mp h28; omega))
        refine v_aload_n (pc := 61) hX rfl d_Se_dearest_61 ?_
        refine v_iload_n (pc := 62) hX rfl d_Se_dearest_62 ?_
        refine g_putI (pc := 63) hX fl_Se_36 rfl (finI rfl rfl) (by assumption) rfl rfl d_Se_dearest_63 ?_
        rw [upM_up, upM_back2 hbp]
        refine v_iload (pc := 66) hX rfl d_Se_dearest_66 ?_
        exact f_iret (pc := 68) hX hR (by rw [hIk, dr_hit (by omega) (decide_eq_true (Nat.le_of_not_lt (fun q => h44 ((i3_lt (by omega) (by omega)).mpr q))))]) (rfl) d_Se_dearest_68
  · show VW X 19 [some (vR 19), some (vR 3), some (vR (6 + j)), some (vI (i3 p)), some (vI (i3 (mostN (okB J B) n nd nd hv))), some (vI (i3 p)), some (vI (i3 (9 - (9 - p))))] [] (gM (dM M j (9 - p)))
    have hIk : drN (fun v => decide (mostN (okB J B) n nd nd hv ≤ mvN J B n nd hv j v)) p 9 = drN (fun v => decide (mostN (okB J B) n nd nd hv ≤ mvN J B n nd hv j v)) p (9 - (9 - p)) := hIk
    refine v_iload (pc := 19) hX rfl d_Se_dearest_19 ?_
    refine v_iload_n (pc := 21) hX rfl d_Se_dearest_21 ?_
    refine v_icmp_le (pc := 22) (tgt := 61) hX d_Se_dearest_22 rfl (fun h22 => ?_) (fun h22 => False.elim (h22 ((i3_le (by omega) (by omega)).mpr (by omega))))
    refine v_aload_n (pc := 61) hX rfl d_Se_dearest_61 ?_
    refine v_iload_n (pc := 62) hX rfl d_Se_dearest_62 ?_
    refine g_putI (pc := 63) hX fl_Se_36 rfl (finI rfl rfl) (by assumption) rfl rfl d_Se_dearest_63 ?_
    rw [dM_up, upM_back2 hbp]
    refine v_iload (pc := 66) hX rfl d_Se_dearest_66 ?_
    exact f_iret (pc := 68) hX hR (by rw [hIk, dr_low _ _ _ (by omega)]) (rfl) d_Se_dearest_68
