/-! The calls of the class: store, blends, sales, which to take. -/
theorem jpart_eq {M : MM} {n j : Nat} {J : JT} {w : Int32} (hJ : CJ M n J) (hj : j < n) : jpart (M (6 + j)) w = jpart (J j) w := by
  unfold jpart
  rw [hJ.2.2 j hj 0 (by decide), hJ.2.2 j hj 1 (by decide), hJ.2.2 j hj 2 (by decide), hJ.2.2 j hj 3 (by decide), hJ.2.2 j hj 4 (by decide)]
theorem dpart_eq {M : MM} {n j : Nat} {B : JT} {w : Int32} (hB : CB M n B) (hj : j < n) : dpart (M (12 + j)) w = dpart (B j) w := by
  unfold dpart
  rw [hB.2.2 j hj 0 (by decide), hB.2.2 j hj 1 (by decide), hB.2.2 j hj 2 (by decide), hB.2.2 j hj 3 (by decide)]
theorem d_LJ_refused_0 : decode c_LJ_refused 0 = .ok (.aload_n 0, 1) := by decide +kernel
theorem d_LJ_refused_1 : decode c_LJ_refused 1 = .ok (.iconst 0, 1) := by decide +kernel
theorem d_LJ_refused_2 : decode c_LJ_refused 2 = .ok (.putfield 52, 3) := by decide +kernel
theorem d_LJ_refused_5 : decode c_LJ_refused 5 = .ok (.iload_n 1, 1) := by decide +kernel
theorem d_LJ_refused_6 : decode c_LJ_refused 6 = .ok (.ireturn, 1) := by decide +kernel
theorem C_LJ_refused {M : MM} {v : Int32} : AF y_LJ_refused c_LJ_refused 2 (some .int) 1 [vR 2, vI v] (M) (some (vI v)) (upM M 2 6 0) := by
  refine AF.of k_LJ_refused (lo := [some (vR 2), some (vI v)]) rfl (Nat.le_of_ble_eq_true rfl) (fun X hX hR => ?_)
  refine v_aload_n (pc := 0) hX rfl d_LJ_refused_0 ?_
  refine v_iconst (pc := 1) (v := 0) hX (by decide) d_LJ_refused_1 ?_
  refine g_putI (pc := 2) hX fl_LJ_52 rfl (finI rfl rfl) rfl rfl rfl d_LJ_refused_2 ?_
  refine v_iload_n (pc := 5) hX rfl d_LJ_refused_5 ?_
  exact f_iret (pc := 6) hX hR (rfl) (rfl) d_LJ_refused_6
theorem d_LJ_failed_0 : decode c_LJ_failed 0 = .ok (.aload_n 0, 1) := by decide +kernel
theorem d_LJ_failed_1 : decode c_LJ_failed 1 = .ok (.iload_n 1, 1) := by decide +kernel
theorem d_LJ_failed_2 : decode c_LJ_failed 2 = .ok (.putfield 52, 3) := by decide +kernel
theorem d_LJ_failed_5 : decode c_LJ_failed 5 = .ok (.bipush (-10), 2) := by decide +kernel
theorem d_LJ_failed_7 : decode c_LJ_failed 7 = .ok (.iload_n 1, 1) := by decide +kernel
theorem d_LJ_failed_8 : decode c_LJ_failed 8 = .ok (.isub, 1) := by decide +kernel
theorem d_LJ_failed_9 : decode c_LJ_failed 9 = .ok (.ireturn, 1) := by decide +kernel
theorem C_LJ_failed {M : MM} {v : Int32} : AF y_LJ_failed c_LJ_failed 2 (some .int) 1 [vR 2, vI v] (M) (some (vI (-10 - v))) (upM M 2 6 v) := by
  refine AF.of k_LJ_failed (lo := [some (vR 2), some (vI v)]) rfl (Nat.le_of_ble_eq_true rfl) (fun X hX hR => ?_)
  refine v_aload_n (pc := 0) hX rfl d_LJ_failed_0 ?_
  refine v_iload_n (pc := 1) hX rfl d_LJ_failed_1 ?_
  refine g_putI (pc := 2) hX fl_LJ_52 rfl (finI rfl rfl) rfl rfl rfl d_LJ_failed_2 ?_
  refine v_bipush (pc := 5) (v := (-10)) hX (by decide) d_LJ_failed_5 ?_
  refine v_iload_n (pc := 7) hX rfl d_LJ_failed_7 ?_
  refine v_isub (pc := 8) hX d_LJ_failed_8 ?_
  exact f_iret (pc := 9) hX hR (rfl) (rfl) d_LJ_failed_9
theorem d_LJ_sheetAt_0 : decode c_LJ_sheetAt 0 = .ok (.iload_n 1, 1) := by decide +kernel
theorem d_LJ_sheetAt_1 : decode c_LJ_sheetAt 1 = .ok (.iconst 4, 1) := by decide +kernel
theorem d_LJ_sheetAt_2 : decode c_LJ_sheetAt 2 = .ok (.invokestatic 65, 3) := by decide +kernel
theorem d_LJ_sheetAt_5 : decode c_LJ_sheetAt 5 = .ok (.ifCond .eq 12, 3) := by decide +kernel
theorem d_LJ_sheetAt_8 : decode c_LJ_sheetAt 8 = .ok (.aload_n 0, 1) := by decide +kernel
theorem d_LJ_sheetAt_9 : decode c_LJ_sheetAt 9 = .ok (.getfield 48, 3) := by decide +kernel
theorem d_LJ_sheetAt_12 : decode c_LJ_sheetAt 12 = .ok (.iload_n 1, 1) := by decide +kernel
theorem d_LJ_sheetAt_13 : decode c_LJ_sheetAt 13 = .ok (.aaload, 1) := by decide +kernel
theorem d_LJ_sheetAt_14 : decode c_LJ_sheetAt 14 = .ok (.goto 4, 3) := by decide +kernel
theorem d_LJ_sheetAt_17 : decode c_LJ_sheetAt 17 = .ok (.aconst_null, 1) := by decide +kernel
theorem d_LJ_sheetAt_18 : decode c_LJ_sheetAt 18 = .ok (.areturn, 1) := by decide +kernel
theorem C_LJ_sheetAt_in {M : MM} {k : Nat} (hk : k < 4) : AF y_LJ_sheetAt c_LJ_sheetAt 2 (some (.object "LastJars$Sheet")) 2 [vR 2, vI (i3 k)] (M) (some (vR (28 + 2 * k))) (M) := by
  refine AF.of k_LJ_sheetAt (lo := [some (vR 2), some (vI (i3 k))]) rfl (Nat.le_of_ble_eq_true rfl) (fun X hX hR => ?_)
  refine v_iload_n (pc := 0) hX rfl d_LJ_sheetAt_0 ?_
  refine v_iconst (pc := 1) (v := 4) hX (by decide) d_LJ_sheetAt_1 ?_
  refine f_callS (pc := 2) hX k_LJ_isBelow ks_LJ_isBelow ml_LJ_65 (C_LJ_isBelow) rfl rfl rfl (Nat.le_of_ble_eq_true rfl) (Nat.le_of_ble_eq_true rfl) (Nat.le_of_ble_eq_true rfl) d_LJ_sheetAt_2 ?_
  refine f_ifeqB (pc := 5) (tgt := 17) hX d_LJ_sheetAt_5 rfl (fun h5 => False.elim (absurd h5 (by rw [show rg (i3 k) 0 ((4 : Int32).toInt - 1) = true from rg_i3 (n := 4) hk (by decide)]; decide))) (fun h5 => ?_)
  refine v_aload_n (pc := 8) hX rfl d_LJ_sheetAt_8 ?_
  refine g_getR (pc := 9) hX fl_LJ_48 rfl rfl nf_2_5 d_LJ_sheetAt_9 ?_
  refine v_iload_n (pc := 12) hX rfl d_LJ_sheetAt_12 ?_
  refine g_aald (pc := 13) (c := 5) hX (by decide) (by decide) rfl (IX.of hk (by decide)) (nf_sheet k hk) d_LJ_sheetAt_13 ?_
  refine v_goto (pc := 14) (tgt := 18) hX d_LJ_sheetAt_14 rfl ?_
  exact f_aret (pc := 18) hX hR (rfl) (rfl) d_LJ_sheetAt_18
theorem C_LJ_sheetAt_out {M : MM} {x : Int32} (hx : rg x 0 3 = false) : AF y_LJ_sheetAt c_LJ_sheetAt 2 (some (.object "LastJars$Sheet")) 2 [vR 2, vI x] (M) (some (vR 0)) (M) := by
  refine AF.of k_LJ_sheetAt (lo := [some (vR 2), some (vI x)]) rfl (Nat.le_of_ble_eq_true rfl) (fun X hX hR => ?_)
  refine v_iload_n (pc := 0) hX rfl d_LJ_sheetAt_0 ?_
  refine v_iconst (pc := 1) (v := 4) hX (by decide) d_LJ_sheetAt_1 ?_
  refine f_callS (pc := 2) hX k_LJ_isBelow ks_LJ_isBelow ml_LJ_65 (C_LJ_isBelow) rfl rfl rfl (Nat.le_of_ble_eq_true rfl) (Nat.le_of_ble_eq_true rfl) (Nat.le_of_ble_eq_true rfl) d_LJ_sheetAt_2 ?_
  refine f_ifeqB (pc := 5) (tgt := 17) hX d_LJ_sheetAt_5 rfl (fun h5 => ?_) (fun h5 => False.elim (absurd h5 (by rw [show rg x 0 ((4 : Int32).toInt - 1) = false from hx]; decide)))
  refine v_null (pc := 17) hX d_LJ_sheetAt_17 ?_
  exact f_aret (pc := 18) hX hR (rfl) (rfl) d_LJ_sheetAt_18
theorem d_LJ_ofJar_0 : decode c_LJ_ofJar 0 = .ok (.aload_n 0, 1) := by decide +kernel
theorem d_LJ_ofJar_1 : decode c_LJ_ofJar 1 = .ok (.getfield 12, 3) := by decide +kernel
theorem d_LJ_ofJar_4 : decode c_LJ_ofJar 4 = .ok (.iload_n 1, 1) := by decide +kernel
theorem d_LJ_ofJar_5 : decode c_LJ_ofJar 5 = .ok (.invokevirtual 92, 3) := by decide +kernel
theorem d_LJ_ofJar_8 : decode c_LJ_ofJar 8 = .ok (.astore_n 3, 1) := by decide +kernel
theorem d_LJ_ofJar_9 : decode c_LJ_ofJar 9 = .ok (.aload_n 3, 1) := by decide +kernel
theorem d_LJ_ofJar_10 : decode c_LJ_ofJar 10 = .ok (.ifnonnull 7, 3) := by decide +kernel
theorem d_LJ_ofJar_13 : decode c_LJ_ofJar 13 = .ok (.iconst (-1), 1) := by decide +kernel
theorem d_LJ_ofJar_14 : decode c_LJ_ofJar 14 = .ok (.goto 8, 3) := by decide +kernel
theorem d_LJ_ofJar_17 : decode c_LJ_ofJar 17 = .ok (.aload_n 3, 1) := by decide +kernel
theorem d_LJ_ofJar_18 : decode c_LJ_ofJar 18 = .ok (.iload_n 2, 1) := by decide +kernel
theorem d_LJ_ofJar_19 : decode c_LJ_ofJar 19 = .ok (.invokevirtual 96, 3) := by decide +kernel
theorem d_LJ_ofJar_22 : decode c_LJ_ofJar 22 = .ok (.ireturn, 1) := by decide +kernel
theorem C_LJ_ofJar_out {M : MM} {n : Nat} {J : JT} {x : Int32} (hJ : CJ M n J) (hx : rg x 0 ((n : Int) - 1) = false) {u : Int32} : AF y_LJ_ofJar c_LJ_ofJar 4 (some .int) 4 [vR 2, vI x, vI u] (M) (some (vI (-1))) (M) := by
  refine AF.of k_LJ_ofJar (lo := [some (vR 2), some (vI x), some (vI u), none]) rfl (Nat.le_of_ble_eq_true rfl) (fun X hX hR => ?_)
  refine v_aload_n (pc := 0) hX rfl d_LJ_ofJar_0 ?_
  refine g_getR (pc := 1) hX fl_LJ_12 rfl rfl nf_2_0 d_LJ_ofJar_1 ?_
  refine v_iload_n (pc := 4) hX rfl d_LJ_ofJar_4 ?_
  refine f_callV (pc := 5) hX k_Sp_jarAt ki_Sp_jarAt kv_Sp_jarAt ml_LJ_92 (C_Sp_jarAt_out hJ.1 hJ.2.1 hx) rfl rfl rfl rfl rfl (Nat.le_of_ble_eq_true rfl) (Nat.le_of_ble_eq_true rfl) (Nat.le_of_ble_eq_true rfl) d_LJ_ofJar_5 ?_
  refine v_astore_n (pc := 8) (lo' := [some (vR _), some (vI _), some (vI _), some (vR _)]) hX (Nat.le_of_ble_eq_true rfl) rfl d_LJ_ofJar_8 ?_
  refine v_aload_n (pc := 9) hX rfl d_LJ_ofJar_9 ?_
  refine v_ifnonnull (pc := 10) (tgt := 17) hX d_LJ_ofJar_10 rfl (fun h10 => False.elim (by revert h10; decide)) (fun h10 => ?_)
  refine v_iconst (pc := 13) (v := (-1)) hX (by decide) d_LJ_ofJar_13 ?_
  refine v_goto (pc := 14) (tgt := 22) hX d_LJ_ofJar_14 rfl ?_
  exact f_iret (pc := 22) hX hR (rfl) (rfl) d_LJ_ofJar_22
theorem C_LJ_ofJar_in {M : MM} {n j : Nat} {J : JT} (hJ : CJ M n J) (hj : j < n) {u : Int32} : AF y_LJ_ofJar c_LJ_ofJar 4 (some .int) 4 [vR 2, vI (i3 j), vI u] (M) (some (vI (jpart (J j) u))) (M) := by
  have h6 := hJ.1
  have hsj := sh_jar j (by omega)
  refine AF.of k_LJ_ofJar (lo := [some (vR 2), some (vI (i3 j)), some (vI u), none]) rfl (Nat.le_of_ble_eq_true rfl) (fun X hX hR => ?_)
  refine v_aload_n (pc := 0) hX rfl d_LJ_ofJar_0 ?_
  refine g_getR (pc := 1) hX fl_LJ_12 rfl rfl nf_2_0 d_LJ_ofJar_1 ?_
  refine v_iload_n (pc := 4) hX rfl d_LJ_ofJar_4 ?_
  refine f_callV (pc := 5) hX k_Sp_jarAt ki_Sp_jarAt kv_Sp_jarAt ml_LJ_92 (C_Sp_jarAt_in hJ.1 hJ.2.1 hj) rfl rfl rfl rfl rfl (Nat.le_of_ble_eq_true rfl) (Nat.le_of_ble_eq_true rfl) (Nat.le_of_ble_eq_true rfl) d_LJ_ofJar_5 ?_
  refine v_astore_n (pc := 8) (lo' := [some (vR _), some (vI _), some (vI _), some (vR _)]) hX (Nat.le_of_ble_eq_true rfl) rfl d_LJ_ofJar_8 ?_
  refine v_aload_n (pc := 9) hX rfl d_LJ_ofJar_9 ?_
  refine v_ifnonnull (pc := 10) (tgt := 17) hX d_LJ_ofJar_10 rfl (fun h10 => ?_) (fun h10 => False.elim (by have := sh_two (by assumption); omega))
  refine v_aload_n (pc := 17) hX rfl d_LJ_ofJar_17 ?_
  refine v_iload_n (pc := 18) hX rfl d_LJ_ofJar_18 ?_
  refine f_callV (pc := 19) hX k_Ja_part ki_Ja_part kv_Ja_part ml_LJ_96 (C_Ja_part (by assumption)) (by assumption) rfl rfl rfl rfl (Nat.le_of_ble_eq_true rfl) (Nat.le_of_ble_eq_true rfl) (Nat.le_of_ble_eq_true rfl) d_LJ_ofJar_19 ?_
  exact f_iret (pc := 22) hX hR (jpart_eq hJ hj) (rfl) d_LJ_ofJar_22
theorem d_LJ_ofDecider_0 : decode c_LJ_ofDecider 0 = .ok (.aload_n 0, 1) := by decide +kernel
theorem d_LJ_ofDecider_1 : decode c_LJ_ofDecider 1 = .ok (.getfield 12, 3) := by decide +kernel
theorem d_LJ_ofDecider_4 : decode c_LJ_ofDecider 4 = .ok (.iload_n 1, 1) := by decide +kernel
theorem d_LJ_ofDecider_5 : decode c_LJ_ofDecider 5 = .ok (.invokevirtual 101, 3) := by decide +kernel
theorem d_LJ_ofDecider_8 : decode c_LJ_ofDecider 8 = .ok (.astore_n 3, 1) := by decide +kernel
theorem d_LJ_ofDecider_9 : decode c_LJ_ofDecider 9 = .ok (.aload_n 3, 1) := by decide +kernel
theorem d_LJ_ofDecider_10 : decode c_LJ_ofDecider 10 = .ok (.ifnonnull 7, 3) := by decide +kernel
theorem d_LJ_ofDecider_13 : decode c_LJ_ofDecider 13 = .ok (.iconst (-1), 1) := by decide +kernel
theorem d_LJ_ofDecider_14 : decode c_LJ_ofDecider 14 = .ok (.goto 8, 3) := by decide +kernel
theorem d_LJ_ofDecider_17 : decode c_LJ_ofDecider 17 = .ok (.aload_n 3, 1) := by decide +kernel
theorem d_LJ_ofDecider_18 : decode c_LJ_ofDecider 18 = .ok (.iload_n 2, 1) := by decide +kernel
theorem d_LJ_ofDecider_19 : decode c_LJ_ofDecider 19 = .ok (.invokevirtual 105, 3) := by decide +kernel
theorem d_LJ_ofDecider_22 : decode c_LJ_ofDecider 22 = .ok (.ireturn, 1) := by decide +kernel
theorem C_LJ_ofDecider_out {M : MM} {n : Nat} {B : JT} {x : Int32} (hB : CB M n B) (hx : rg x 0 ((n : Int) - 1) = false) {u : Int32} : AF y_LJ_ofDecider c_LJ_ofDecider 4 (some .int) 3 [vR 2, vI x, vI u] (M) (some (vI (-1))) (M) := by
  refine AF.of k_LJ_ofDecider (lo := [some (vR 2), some (vI x), some (vI u), none]) rfl (Nat.le_of_ble_eq_true rfl) (fun X hX hR => ?_)
  refine v_aload_n (pc := 0) hX rfl d_LJ_ofDecider_0 ?_
  refine g_getR (pc := 1) hX fl_LJ_12 rfl rfl nf_2_0 d_LJ_ofDecider_1 ?_
  refine v_iload_n (pc := 4) hX rfl d_LJ_ofDecider_4 ?_
  refine f_callV (pc := 5) hX k_Sp_deciderAt ki_Sp_deciderAt kv_Sp_deciderAt ml_LJ_101 (C_Sp_deciderAt_out hB.1 hB.2.1 hx) rfl rfl rfl rfl rfl (Nat.le_of_ble_eq_true rfl) (Nat.le_of_ble_eq_true rfl) (Nat.le_of_ble_eq_true rfl) d_LJ_ofDecider_5 ?_
  refine v_astore_n (pc := 8) (lo' := [some (vR _), some (vI _), some (vI _), some (vR _)]) hX (Nat.le_of_ble_eq_true rfl) rfl d_LJ_ofDecider_8 ?_
  refine v_aload_n (pc := 9) hX rfl d_LJ_ofDecider_9 ?_
  refine v_ifnonnull (pc := 10) (tgt := 17) hX d_LJ_ofDecider_10 rfl (fun h10 => False.elim (by revert h10; decide)) (fun h10 => ?_)
  refine v_iconst (pc := 13) (v := (-1)) hX (by decide) d_LJ_ofDecider_13 ?_
  refine v_goto (pc := 14) (tgt := 22) hX d_LJ_ofDecider_14 rfl ?_
  exact f_iret (pc := 22) hX hR (rfl) (rfl) d_LJ_ofDecider_22
theorem C_LJ_ofDecider_in {M : MM} {n j : Nat} {B : JT} (hB : CB M n B) (hj : j < n) {u : Int32} : AF y_LJ_ofDecider c_LJ_ofDecider 4 (some .int) 3 [vR 2, vI (i3 j), vI u] (M) (some (vI (dpart (B j) u))) (M) := by
  have h4 := hB.1
  have hsd := sh_dec j (by omega)
  refine AF.of k_LJ_ofDecider (lo := [some (vR 2), some (vI (i3 j)), some (vI u), none]) rfl (Nat.le_of_ble_eq_true rfl) (fun X hX hR => ?_)
  refine v_aload_n (pc := 0) hX rfl d_LJ_ofDecider_0 ?_
  refine g_getR (pc := 1) hX fl_LJ_12 rfl rfl nf_2_0 d_LJ_ofDecider_1 ?_
  refine v_iload_n (pc := 4) hX rfl d_LJ_ofDecider_4 ?_
  refine f_callV (pc := 5) hX k_Sp_deciderAt ki_Sp_deciderAt kv_Sp_deciderAt ml_LJ_101 (C_Sp_deciderAt_in hB.1 hB.2.1 hj) rfl rfl rfl rfl rfl (Nat.le_of_ble_eq_true rfl) (Nat.le_of_ble_eq_true rfl) (Nat.le_of_ble_eq_true rfl) d_LJ_ofDecider_5 ?_
  refine v_astore_n (pc := 8) (lo' := [some (vR _), some (vI _), some (vI _), some (vR _)]) hX (Nat.le_of_ble_eq_true rfl) rfl d_LJ_ofDecider_8 ?_
  refine v_aload_n (pc := 9) hX rfl d_LJ_ofDecider_9 ?_
  refine v_ifnonnull (pc := 10) (tgt := 17) hX d_LJ_ofDecider_10 rfl (fun h10 => ?_) (fun h10 => False.elim (by have := sh_two (by assumption); omega))
  refine v_aload_n (pc := 17) hX rfl d_LJ_ofDecider_17 ?_
  refine v_iload_n (pc := 18) hX rfl d_LJ_ofDecider_18 ?_
  refine f_callV (pc := 19) hX k_De_part ki_De_part kv_De_part ml_LJ_105 (C_De_part (by assumption)) (by assumption) rfl rfl rfl rfl (Nat.le_of_ble_eq_true rfl) (Nat.le_of_ble_eq_true rfl) (Nat.le_of_ble_eq_true rfl) d_LJ_ofDecider_19 ?_
  exact f_iret (pc := 22) hX hR (dpart_eq hB hj) (rfl) d_LJ_ofDecider_22
theorem jp1 {f : Nat → Int32} : jpart f 1 = f 1 := by simp [jpart]
theorem jp0 {f : Nat → Int32} : jpart f 0 = f 0 := by simp [jpart]
theorem jp2 {f : Nat → Int32} : jpart f 2 = f 2 := by simp [jpart]
theorem jp3 {f : Nat → Int32} : jpart f 3 = f 3 := by simp [jpart]
theorem jp4 {f : Nat → Int32} : jpart f 4 = f 4 := by simp [jpart]
theorem dp0 {f : Nat → Int32} : dpart f 0 = f 0 := by simp [dpart]
theorem dp2 {f : Nat → Int32} : dpart f 2 = f 2 := by simp [dpart]
theorem d_LJ_changeJar_0 : decode c_LJ_changeJar 0 = .ok (.aload_n 0, 1) := by decide +kernel
theorem d_LJ_changeJar_1 : decode c_LJ_changeJar 1 = .ok (.getfield 12, 3) := by decide +kernel
theorem d_LJ_changeJar_4 : decode c_LJ_changeJar 4 = .ok (.iload_n 1, 1) := by decide +kernel
theorem d_LJ_changeJar_5 : decode c_LJ_changeJar 5 = .ok (.invokevirtual 92, 3) := by decide +kernel
theorem d_LJ_changeJar_8 : decode c_LJ_changeJar 8 = .ok (.astore 4, 2) := by decide +kernel
theorem d_LJ_changeJar_10 : decode c_LJ_changeJar 10 = .ok (.aload 4, 2) := by decide +kernel
theorem d_LJ_changeJar_12 : decode c_LJ_changeJar 12 = .ok (.ifnonnull 5, 3) := by decide +kernel
theorem d_LJ_changeJar_15 : decode c_LJ_changeJar 15 = .ok (.iconst (-1), 1) := by decide +kernel
theorem d_LJ_changeJar_16 : decode c_LJ_changeJar 16 = .ok (.ireturn, 1) := by decide +kernel
theorem d_LJ_changeJar_17 : decode c_LJ_changeJar 17 = .ok (.iload_n 3, 1) := by decide +kernel
theorem d_LJ_changeJar_18 : decode c_LJ_changeJar 18 = .ok (.bipush 10, 2) := by decide +kernel
theorem d_LJ_changeJar_20 : decode c_LJ_changeJar 20 = .ok (.invokestatic 65, 3) := by decide +kernel
theorem d_LJ_changeJar_23 : decode c_LJ_changeJar 23 = .ok (.ifCond .ne 6, 3) := by decide +kernel
theorem d_LJ_changeJar_26 : decode c_LJ_changeJar 26 = .ok (.bipush (-2), 2) := by decide +kernel
theorem d_LJ_changeJar_28 : decode c_LJ_changeJar 28 = .ok (.ireturn, 1) := by decide +kernel
theorem d_LJ_changeJar_29 : decode c_LJ_changeJar 29 = .ok (.aload 4, 2) := by decide +kernel
theorem d_LJ_changeJar_31 : decode c_LJ_changeJar 31 = .ok (.iload_n 2, 1) := by decide +kernel
theorem d_LJ_changeJar_32 : decode c_LJ_changeJar 32 = .ok (.invokevirtual 96, 3) := by decide +kernel
theorem d_LJ_changeJar_35 : decode c_LJ_changeJar 35 = .ok (.istore 5, 2) := by decide +kernel
theorem d_LJ_changeJar_37 : decode c_LJ_changeJar 37 = .ok (.aload 4, 2) := by decide +kernel
theorem d_LJ_changeJar_39 : decode c_LJ_changeJar 39 = .ok (.iload_n 2, 1) := by decide +kernel
theorem d_LJ_changeJar_40 : decode c_LJ_changeJar 40 = .ok (.iload_n 3, 1) := by decide +kernel
theorem d_LJ_changeJar_41 : decode c_LJ_changeJar 41 = .ok (.invokevirtual 280, 3) := by decide +kernel
theorem d_LJ_changeJar_44 : decode c_LJ_changeJar 44 = .ok (.iload 5, 2) := by decide +kernel
theorem d_LJ_changeJar_46 : decode c_LJ_changeJar 46 = .ok (.ireturn, 1) := by decide +kernel
theorem C_LJ_changeJar_1_out {M : MM} {n : Nat} {J : JT} {x : Int32} (hJ : CJ M n J) (hx : rg x 0 ((n : Int) - 1) = false) {u : Int32} : AF y_LJ_changeJar c_LJ_changeJar 6 (some .int) 4 [vR 2, vI x, vI 1, vI u] (M) (some (vI (-1))) (M) := by
  refine AF.of k_LJ_changeJar (lo := [some (vR 2), some (vI x), some (vI 1), some (vI u), none, none]) rfl (Nat.le_of_ble_eq_true rfl) (fun X hX hR => ?_)
  refine v_aload_n (pc := 0) hX rfl d_LJ_changeJar_0 ?_
  refine g_getR (pc := 1) hX fl_LJ_12 rfl rfl nf_2_0 d_LJ_changeJar_1 ?_
  refine v_iload_n (pc := 4) hX rfl d_LJ_changeJar_4 ?_
  refine f_callV (pc := 5) hX k_Sp_jarAt ki_Sp_jarAt kv_Sp_jarAt ml_LJ_92 (C_Sp_jarAt_out hJ.1 hJ.2.1 hx) rfl rfl rfl rfl rfl (Nat.le_of_ble_eq_true rfl) (Nat.le_of_ble_eq_true rfl) (Nat.le_of_ble_eq_true rfl) d_LJ_changeJar_5 ?_
  refine v_astore (pc := 8) (lo' := [some (vR _), some (vI _), some (vI _), some (vI _), some (vR _), none]) hX (Nat.le_of_ble_eq_true rfl) rfl d_LJ_changeJar_8 ?_
  refine v_aload (pc := 10) hX rfl d_LJ_changeJar_10 ?_
  refine v_ifnonnull (pc := 12) (tgt := 17) hX d_LJ_changeJar_12 rfl (fun h12 => False.elim (by revert h12; decide)) (fun h12 => ?_)
  refine v_iconst (pc := 15) (v := (-1)) hX (by decide) d_LJ_changeJar_15 ?_
  exact f_iret (pc := 16) hX hR (rfl) (rfl) d_LJ_changeJar_16
theorem C_LJ_changeJar_1_bad {M : MM} {n j : Nat} {J : JT} (hJ : CJ M n J) (hj : j < n) {u : Int32} (hu : rg u 0 9 = false) : AF y_LJ_changeJar c_LJ_changeJar 6 (some .int) 4 [vR 2, vI (i3 j), vI 1, vI u] (M) (some (vI (-2))) (M) := by
  have h6 := hJ.1
  have hsj := sh_jar j (by omega)
  refine AF.of k_LJ_changeJar (lo := [some (vR 2), some (vI (i3 j)), some (vI 1), some (vI u), none, none]) rfl (Nat.le_of_ble_eq_true rfl) (fun X hX hR => ?_)
  refine v_aload_n (pc := 0) hX rfl d_LJ_changeJar_0 ?_
  refine g_getR (pc := 1) hX fl_LJ_12 rfl rfl nf_2_0 d_LJ_changeJar_1 ?_
  refine v_iload_n (pc := 4) hX rfl d_LJ_changeJar_4 ?_
  refine f_callV (pc := 5) hX k_Sp_jarAt ki_Sp_jarAt kv_Sp_jarAt ml_LJ_92 (C_Sp_jarAt_in hJ.1 hJ.2.1 hj) rfl rfl rfl rfl rfl (Nat.le_of_ble_eq_true rfl) (Nat.le_of_ble_eq_true rfl) (Nat.le_of_ble_eq_true rfl) d_LJ_changeJar_5 ?_
  refine v_astore (pc := 8) (lo' := [some (vR _), some (vI _), some (vI _), some (vI _), some (vR _), none]) hX (Nat.le_of_ble_eq_true rfl) rfl d_LJ_changeJar_8 ?_
  refine v_aload (pc := 10) hX rfl d_LJ_changeJar_10 ?_
  refine v_ifnonnull (pc := 12) (tgt := 17) hX d_LJ_changeJar_12 rfl (fun h12 => ?_) (fun h12 => False.elim (by have := sh_two (by assumption); omega))
  refine v_iload_n (pc := 17) hX rfl d_LJ_changeJar_17 ?_
  refine v_bipush (pc := 18) (v := 10) hX (by decide) d_LJ_changeJar_18 ?_
  refine f_callS (pc := 20) hX k_LJ_isBelow ks_LJ_isBelow ml_LJ_65 (C_LJ_isBelow) rfl rfl rfl (Nat.le_of_ble_eq_true rfl) (Nat.le_of_ble_eq_true rfl) (Nat.le_of_ble_eq_true rfl) d_LJ_changeJar_20 ?_
  rw [show (10 : Int32).toInt - 1 = 9 from rfl]
  refine f_ifneB (pc := 23) (tgt := 29) hX d_LJ_changeJar_23 rfl (fun h23 => False.elim (by rw [hu] at h23; cases h23)) (fun h23 => ?_)
  refine v_bipush (pc := 26) (v := (-2)) hX (by decide) d_LJ_changeJar_26 ?_
  exact f_iret (pc := 28) hX hR (rfl) (rfl) d_LJ_changeJar_28
theorem C_LJ_changeJar_1_ok {M : MM} {n j : Nat} {J : JT} (hJ : CJ M n J) (hj : j < n) {u : Int32} (hu : rg u 0 9 = true) : AF y_LJ_changeJar c_LJ_changeJar 6 (some .int) 4 [vR 2, vI (i3 j), vI 1, vI u] (M) (some (vI (J j 1))) (upM M (6 + j) 1 u) := by
  have h6 := hJ.1
  have hsj := sh_jar j (by omega)
  refine AF.of k_LJ_changeJar (lo := [some (vR 2), some (vI (i3 j)), some (vI 1), some (vI u), none, none]) rfl (Nat.le_of_ble_eq_true rfl) (fun X hX hR => ?_)
  refine v_aload_n (pc := 0) hX rfl d_LJ_changeJar_0 ?_
  refine g_getR (pc := 1) hX fl_LJ_12 rfl rfl nf_2_0 d_LJ_changeJar_1 ?_
  refine v_iload_n (pc := 4) hX rfl d_LJ_changeJar_4 ?_
  refine f_callV (pc := 5) hX k_Sp_jarAt ki_Sp_jarAt kv_Sp_jarAt ml_LJ_92 (C_Sp_jarAt_in hJ.1 hJ.2.1 hj) rfl rfl rfl rfl rfl (Nat.le_of_ble_eq_true rfl) (Nat.le_of_ble_eq_true rfl) (Nat.le_of_ble_eq_true rfl) d_LJ_changeJar_5 ?_
  refine v_astore (pc := 8) (lo' := [some (vR _), some (vI _), some (vI _), some (vI _), some (vR _), none]) hX (Nat.le_of_ble_eq_true rfl) rfl d_LJ_changeJar_8 ?_
  refine v_aload (pc := 10) hX rfl d_LJ_changeJar_10 ?_
  refine v_ifnonnull (pc := 12) (tgt := 17) hX d_LJ_changeJar_12 rfl (fun h12 => ?_) (fun h12 => False.elim (by have := sh_two (by assumption); omega))
  refine v_iload_n (pc := 17) hX rfl d_LJ_changeJar_17 ?_
  refine v_bipush (pc := 18) (v := 10) hX (by decide) d_LJ_changeJar_18 ?_
  refine f_callS (pc := 20) hX k_LJ_isBelow ks_LJ_isBelow ml_LJ_65 (C_LJ_isBelow) rfl rfl rfl (Nat.le_of_ble_eq_true rfl) (Nat.le_of_ble_eq_true rfl) (Nat.le_of_ble_eq_true rfl) d_LJ_changeJar_20 ?_
  rw [show (10 : Int32).toInt - 1 = 9 from rfl]
  refine f_ifneB (pc := 23) (tgt := 29) hX d_LJ_changeJar_23 rfl (fun h23 => ?_) (fun h23 => False.elim (by rw [hu] at h23; cases h23))
  refine v_aload (pc := 29) hX rfl d_LJ_changeJar_29 ?_
  refine v_iload_n (pc := 31) hX rfl d_LJ_changeJar_31 ?_
  refine f_callV (pc := 32) hX k_Ja_part ki_Ja_part kv_Ja_part ml_LJ_96 (C_Ja_part (by assumption)) (by assumption) rfl rfl rfl rfl (Nat.le_of_ble_eq_true rfl) (Nat.le_of_ble_eq_true rfl) (Nat.le_of_ble_eq_true rfl) d_LJ_changeJar_32 ?_
  refine v_istore (pc := 35) (lo' := [some (vR _), some (vI _), some (vI _), some (vI _), some (vR _), some (vI _)]) hX (Nat.le_of_ble_eq_true rfl) rfl d_LJ_changeJar_35 ?_
  refine v_aload (pc := 37) hX rfl d_LJ_changeJar_37 ?_
  refine v_iload_n (pc := 39) hX rfl d_LJ_changeJar_39 ?_
  refine v_iload_n (pc := 40) hX rfl d_LJ_changeJar_40 ?_
  refine f_callV0 (pc := 41) hX k_Ja_become ki_Ja_become kv_Ja_become ml_LJ_280 (C_Ja_become_1 (by assumption)) (by assumption) rfl rfl rfl rfl (Nat.le_of_ble_eq_true rfl) (Nat.le_of_ble_eq_true rfl) (Nat.le_of_ble_eq_true rfl) d_LJ_changeJar_41 ?_
  refine v_iload (pc := 44) hX rfl d_LJ_changeJar_44 ?_
  exact f_iret (pc := 46) hX hR (by rw [jp1]; exact hJ.2.2 j hj 1 (by decide)) (rfl) d_LJ_changeJar_46
theorem d_LJ_cure_0 : decode c_LJ_cure 0 = .ok (.aload_n 0, 1) := by decide +kernel
theorem d_LJ_cure_1 : decode c_LJ_cure 1 = .ok (.iload_n 1, 1) := by decide +kernel
theorem d_LJ_cure_2 : decode c_LJ_cure 2 = .ok (.iconst 1, 1) := by decide +kernel
theorem d_LJ_cure_3 : decode c_LJ_cure 3 = .ok (.iload_n 2, 1) := by decide +kernel
theorem d_LJ_cure_4 : decode c_LJ_cure 4 = .ok (.invokevirtual 108, 3) := by decide +kernel
theorem d_LJ_cure_7 : decode c_LJ_cure 7 = .ok (.ireturn, 1) := by decide +kernel
theorem C_LJ_cure_out {M : MM} {n : Nat} {J : JT} {x : Int32} (hJ : CJ M n J) (hx : rg x 0 ((n : Int) - 1) = false) {u : Int32} : AF y_LJ_cure c_LJ_cure 3 (some .int) 5 [vR 2, vI x, vI u] (M) (some (vI (-1))) (M) := by
  refine AF.of k_LJ_cure (lo := [some (vR 2), some (vI x), some (vI u)]) rfl (Nat.le_of_ble_eq_true rfl) (fun X hX hR => ?_)
  refine v_aload_n (pc := 0) hX rfl d_LJ_cure_0 ?_
  refine v_iload_n (pc := 1) hX rfl d_LJ_cure_1 ?_
  refine v_iconst (pc := 2) (v := 1) hX (by decide) d_LJ_cure_2 ?_
  refine v_iload_n (pc := 3) hX rfl d_LJ_cure_3 ?_
  refine f_callV (pc := 4) hX k_LJ_changeJar ki_LJ_changeJar kv_LJ_changeJar ml_LJ_108 (C_LJ_changeJar_1_out hJ hx) rfl rfl rfl rfl rfl (Nat.le_of_ble_eq_true rfl) (Nat.le_of_ble_eq_true rfl) (Nat.le_of_ble_eq_true rfl) d_LJ_cure_4 ?_
  exact f_iret (pc := 7) hX hR (rfl) (rfl) d_LJ_cure_7
theorem C_LJ_cure_bad {M : MM} {n j : Nat} {J : JT} (hJ : CJ M n J) (hj : j < n) {u : Int32} (hu : rg u 0 9 = false) : AF y_LJ_cure c_LJ_cure 3 (some .int) 5 [vR 2, vI (i3 j), vI u] (M) (some (vI (-2))) (M) := by
  refine AF.of k_LJ_cure (lo := [some (vR 2), some (vI (i3 j)), some (vI u)]) rfl (Nat.le_of_ble_eq_true rfl) (fun X hX hR => ?_)
  refine v_aload_n (pc := 0) hX rfl d_LJ_cure_0 ?_
  refine v_iload_n (pc := 1) hX rfl d_LJ_cure_1 ?_
  refine v_iconst (pc := 2) (v := 1) hX (by decide) d_LJ_cure_2 ?_
  refine v_iload_n (pc := 3) hX rfl d_LJ_cure_3 ?_
  refine f_callV (pc := 4) hX k_LJ_changeJar ki_LJ_changeJar kv_LJ_changeJar ml_LJ_108 (C_LJ_changeJar_1_bad hJ hj hu) rfl rfl rfl rfl rfl (Nat.le_of_ble_eq_true rfl) (Nat.le_of_ble_eq_true rfl) (Nat.le_of_ble_eq_true rfl) d_LJ_cure_4 ?_
  exact f_iret (pc := 7) hX hR (rfl) (rfl) d_LJ_cure_7
theorem C_LJ_cure_ok {M : MM} {n j : Nat} {J : JT} (hJ : CJ M n J) (hj : j < n) {u : Int32} (hu : rg u 0 9 = true) : AF y_LJ_cure c_LJ_cure 3 (some .int) 5 [vR 2, vI (i3 j), vI u] (M) (some (vI (J j 1))) (upM M (6 + j) 1 u) := by
  refine AF.of k_LJ_cure (lo := [some (vR 2), some (vI (i3 j)), some (vI u)]) rfl (Nat.le_of_ble_eq_true rfl) (fun X hX hR => ?_)
  refine v_aload_n (pc := 0) hX rfl d_LJ_cure_0 ?_
  refine v_iload_n (pc := 1) hX rfl d_LJ_cure_1 ?_
  refine v_iconst (pc := 2) (v := 1) hX (by decide) d_LJ_cure_2 ?_
  refine v_iload_n (pc := 3) hX rfl d_LJ_cure_3 ?_
  refine f_callV (pc := 4) hX k_LJ_changeJar ki_LJ_changeJar kv_LJ_changeJar ml_LJ_108 (C_LJ_changeJar_1_ok hJ hj hu) rfl rfl rfl rfl rfl (Nat.le_of_ble_eq_true rfl) (Nat.le_of_ble_eq_true rfl) (Nat.le_of_ble_eq_true rfl) d_LJ_cure_4 ?_
  exact f_iret (pc := 7) hX hR (rfl) (rfl) d_LJ_cure_7
theorem C_LJ_changeJar_3_out {M : MM} {n : Nat} {J : JT} {x : Int32} (hJ : CJ M n J) (hx : rg x 0 ((n : Int) - 1) = false) {u : Int32} : AF y_LJ_changeJar c_LJ_changeJar 6 (some .int) 4 [vR 2, vI x, vI 3, vI u] (M) (some (vI (-1))) (M) := by
  refine AF.of k_LJ_changeJar (lo := [some (vR 2), some (vI x), some (vI 3), some (vI u), none, none]) rfl (Nat.le_of_ble_eq_true rfl) (fun X hX hR => ?_)
  refine v_aload_n (pc := 0) hX rfl d_LJ_changeJar_0 ?_
  refine g_getR (pc := 1) hX fl_LJ_12 rfl rfl nf_2_0 d_LJ_changeJar_1 ?_
  refine v_iload_n (pc := 4) hX rfl d_LJ_changeJar_4 ?_
  refine f_callV (pc := 5) hX k_Sp_jarAt ki_Sp_jarAt kv_Sp_jarAt ml_LJ_92 (C_Sp_jarAt_out hJ.1 hJ.2.1 hx) rfl rfl rfl rfl rfl (Nat.le_of_ble_eq_true rfl) (Nat.le_of_ble_eq_true rfl) (Nat.le_of_ble_eq_true rfl) d_LJ_changeJar_5 ?_
  refine v_astore (pc := 8) (lo' := [some (vR _), some (vI _), some (vI _), some (vI _), some (vR _), none]) hX (Nat.le_of_ble_eq_true rfl) rfl d_LJ_changeJar_8 ?_
  refine v_aload (pc := 10) hX rfl d_LJ_changeJar_10 ?_
  refine v_ifnonnull (pc := 12) (tgt := 17) hX d_LJ_changeJar_12 rfl (fun h12 => False.elim (by revert h12; decide)) (fun h12 => ?_)
  refine v_iconst (pc := 15) (v := (-1)) hX (by decide) d_LJ_changeJar_15 ?_
  exact f_iret (pc := 16) hX hR (rfl) (rfl) d_LJ_changeJar_16
theorem C_LJ_changeJar_3_bad {M : MM} {n j : Nat} {J : JT} (hJ : CJ M n J) (hj : j < n) {u : Int32} (hu : rg u 0 9 = false) : AF y_LJ_changeJar c_LJ_changeJar 6 (some .int) 4 [vR 2, vI (i3 j), vI 3, vI u] (M) (some (vI (-2))) (M) := by
  have h6 := hJ.1
  have hsj := sh_jar j (by omega)
  refine AF.of k_LJ_changeJar (lo := [some (vR 2), some (vI (i3 j)), some (vI 3), some (vI u), none, none]) rfl (Nat.le_of_ble_eq_true rfl) (fun X hX hR => ?_)
  refine v_aload_n (pc := 0) hX rfl d_LJ_changeJar_0 ?_
  refine g_getR (pc := 1) hX fl_LJ_12 rfl rfl nf_2_0 d_LJ_changeJar_1 ?_
  refine v_iload_n (pc := 4) hX rfl d_LJ_changeJar_4 ?_
  refine f_callV (pc := 5) hX k_Sp_jarAt ki_Sp_jarAt kv_Sp_jarAt ml_LJ_92 (C_Sp_jarAt_in hJ.1 hJ.2.1 hj) rfl rfl rfl rfl rfl (Nat.le_of_ble_eq_true rfl) (Nat.le_of_ble_eq_true rfl) (Nat.le_of_ble_eq_true rfl) d_LJ_changeJar_5 ?_
  refine v_astore (pc := 8) (lo' := [some (vR _), some (vI _), some (vI _), some (vI _), some (vR _), none]) hX (Nat.le_of_ble_eq_true rfl) rfl d_LJ_changeJar_8 ?_
  refine v_aload (pc := 10) hX rfl d_LJ_changeJar_10 ?_
  refine v_ifnonnull (pc := 12) (tgt := 17) hX d_LJ_changeJar_12 rfl (fun h12 => ?_) (fun h12 => False.elim (by have := sh_two (by assumption); omega))
  refine v_iload_n (pc := 17) hX rfl d_LJ_changeJar_17 ?_
  refine v_bipush (pc := 18) (v := 10) hX (by decide) d_LJ_changeJar_18 ?_
  refine f_callS (pc := 20) hX k_LJ_isBelow ks_LJ_isBelow ml_LJ_65 (C_LJ_isBelow) rfl rfl rfl (Nat.le_of_ble_eq_true rfl) (Nat.le_of_ble_eq_true rfl) (Nat.le_of_ble_eq_true rfl) d_LJ_changeJar_20 ?_
  rw [show (10 : Int32).toInt - 1 = 9 from rfl]
  refine f_ifneB (pc := 23) (tgt := 29) hX d_LJ_changeJar_23 rfl (fun h23 => False.elim (by rw [hu] at h23; cases h23)) (fun h23 => ?_)
  refine v_bipush (pc := 26) (v := (-2)) hX (by decide) d_LJ_changeJar_26 ?_
  exact f_iret (pc := 28) hX hR (rfl) (rfl) d_LJ_changeJar_28
theorem C_LJ_changeJar_3_ok {M : MM} {n j : Nat} {J : JT} (hJ : CJ M n J) (hj : j < n) {u : Int32} (hu : rg u 0 9 = true) : AF y_LJ_changeJar c_LJ_changeJar 6 (some .int) 4 [vR 2, vI (i3 j), vI 3, vI u] (M) (some (vI (J j 3))) (upM M (6 + j) 3 u) := by
  have h6 := hJ.1
  have hsj := sh_jar j (by omega)
  refine AF.of k_LJ_changeJar (lo := [some (vR 2), some (vI (i3 j)), some (vI 3), some (vI u), none, none]) rfl (Nat.le_of_ble_eq_true rfl) (fun X hX hR => ?_)
  refine v_aload_n (pc := 0) hX rfl d_LJ_changeJar_0 ?_
  refine g_getR (pc := 1) hX fl_LJ_12 rfl rfl nf_2_0 d_LJ_changeJar_1 ?_
  refine v_iload_n (pc := 4) hX rfl d_LJ_changeJar_4 ?_
  refine f_callV (pc := 5) hX k_Sp_jarAt ki_Sp_jarAt kv_Sp_jarAt ml_LJ_92 (C_Sp_jarAt_in hJ.1 hJ.2.1 hj) rfl rfl rfl rfl rfl (Nat.le_of_ble_eq_true rfl) (Nat.le_of_ble_eq_true rfl) (Nat.le_of_ble_eq_true rfl) d_LJ_changeJar_5 ?_
  refine v_astore (pc := 8) (lo' := [some (vR _), some (vI _), some (vI _), some (vI _), some (vR _), none]) hX (Nat.le_of_ble_eq_true rfl) rfl d_LJ_changeJar_8 ?_
  refine v_aload (pc := 10) hX rfl d_LJ_changeJar_10 ?_
  refine v_ifnonnull (pc := 12) (tgt := 17) hX d_LJ_changeJar_12 rfl (fun h12 => ?_) (fun h12 => False.elim (by have := sh_two (by assumption); omega))
  refine v_iload_n (pc := 17) hX rfl d_LJ_changeJar_17 ?_
  refine v_bipush (pc := 18) (v := 10) hX (by decide) d_LJ_changeJar_18 ?_
  refine f_callS (pc := 20) hX k_LJ_isBelow ks_LJ_isBelow ml_LJ_65 (C_LJ_isBelow) rfl rfl rfl (Nat.le_of_ble_eq_true rfl) (Nat.le_of_ble_eq_true rfl) (Nat.le_of_ble_eq_true rfl) d_LJ_changeJar_20 ?_
  rw [show (10 : Int32).toInt - 1 = 9 from rfl]
  refine f_ifneB (pc := 23) (tgt := 29) hX d_LJ_changeJar_23 rfl (fun h23 => ?_) (fun h23 => False.elim (by rw [hu] at h23; cases h23))
  refine v_aload (pc := 29) hX rfl d_LJ_changeJar_29 ?_
  refine v_iload_n (pc := 31) hX rfl d_LJ_changeJar_31 ?_
  refine f_callV (pc := 32) hX k_Ja_part ki_Ja_part kv_Ja_part ml_LJ_96 (C_Ja_part (by assumption)) (by assumption) rfl rfl rfl rfl (Nat.le_of_ble_eq_true rfl) (Nat.le_of_ble_eq_true rfl) (Nat.le_of_ble_eq_true rfl) d_LJ_changeJar_32 ?_
  refine v_istore (pc := 35) (lo' := [some (vR _), some (vI _), some (vI _), some (vI _), some (vR _), some (vI _)]) hX (Nat.le_of_ble_eq_true rfl) rfl d_LJ_changeJar_35 ?_
  refine v_aload (pc := 37) hX rfl d_LJ_changeJar_37 ?_
  refine v_iload_n (pc := 39) hX rfl d_LJ_changeJar_39 ?_
  refine v_iload_n (pc := 40) hX rfl d_LJ_changeJar_40 ?_
  refine f_callV0 (pc := 41) hX k_Ja_become ki_Ja_become kv_Ja_become ml_LJ_280 (C_Ja_become_3 (by assumption)) (by assumption) rfl rfl rfl rfl (Nat.le_of_ble_eq_true rfl) (Nat.le_of_ble_eq_true rfl) (Nat.le_of_ble_eq_true rfl) d_LJ_changeJar_41 ?_
  refine v_iload (pc := 44) hX rfl d_LJ_changeJar_44 ?_
  exact f_iret (pc := 46) hX hR (by rw [jp3]; exact hJ.2.2 j hj 3 (by decide)) (rfl) d_LJ_changeJar_46
theorem d_LJ_fetch_0 : decode c_LJ_fetch 0 = .ok (.aload_n 0, 1) := by decide +kernel
theorem d_LJ_fetch_1 : decode c_LJ_fetch 1 = .ok (.iload_n 1, 1) := by decide +kernel
theorem d_LJ_fetch_2 : decode c_LJ_fetch 2 = .ok (.iconst 3, 1) := by decide +kernel
theorem d_LJ_fetch_3 : decode c_LJ_fetch 3 = .ok (.iload_n 2, 1) := by decide +kernel
theorem d_LJ_fetch_4 : decode c_LJ_fetch 4 = .ok (.invokevirtual 108, 3) := by decide +kernel
theorem d_LJ_fetch_7 : decode c_LJ_fetch 7 = .ok (.ireturn, 1) := by decide +kernel
theorem C_LJ_fetch_out {M : MM} {n : Nat} {J : JT} {x : Int32} (hJ : CJ M n J) (hx : rg x 0 ((n : Int) - 1) = false) {u : Int32} : AF y_LJ_fetch c_LJ_fetch 3 (some .int) 5 [vR 2, vI x, vI u] (M) (some (vI (-1))) (M) := by
  refine AF.of k_LJ_fetch (lo := [some (vR 2), some (vI x), some (vI u)]) rfl (Nat.le_of_ble_eq_true rfl) (fun X hX hR => ?_)
  refine v_aload_n (pc := 0) hX rfl d_LJ_fetch_0 ?_
  refine v_iload_n (pc := 1) hX rfl d_LJ_fetch_1 ?_
  refine v_iconst (pc := 2) (v := 3) hX (by decide) d_LJ_fetch_2 ?_
  refine v_iload_n (pc := 3) hX rfl d_LJ_fetch_3 ?_
  refine f_callV (pc := 4) hX k_LJ_changeJar ki_LJ_changeJar kv_LJ_changeJar ml_LJ_108 (C_LJ_changeJar_3_out hJ hx) rfl rfl rfl rfl rfl (Nat.le_of_ble_eq_true rfl) (Nat.le_of_ble_eq_true rfl) (Nat.le_of_ble_eq_true rfl) d_LJ_fetch_4 ?_
  exact f_iret (pc := 7) hX hR (rfl) (rfl) d_LJ_fetch_7
theorem C_LJ_fetch_bad {M : MM} {n j : Nat} {J : JT} (hJ : CJ M n J) (hj : j < n) {u : Int32} (hu : rg u 0 9 = false) : AF y_LJ_fetch c_LJ_fetch 3 (some .int) 5 [vR 2, vI (i3 j), vI u] (M) (some (vI (-2))) (M) := by
  refine AF.of k_LJ_fetch (lo := [some (vR 2), some (vI (i3 j)), some (vI u)]) rfl (Nat.le_of_ble_eq_true rfl) (fun X hX hR => ?_)
  refine v_aload_n (pc := 0) hX rfl d_LJ_fetch_0 ?_
  refine v_iload_n (pc := 1) hX rfl d_LJ_fetch_1 ?_
  refine v_iconst (pc := 2) (v := 3) hX (by decide) d_LJ_fetch_2 ?_
  refine v_iload_n (pc := 3) hX rfl d_LJ_fetch_3 ?_
  refine f_callV (pc := 4) hX k_LJ_changeJar ki_LJ_changeJar kv_LJ_changeJar ml_LJ_108 (C_LJ_changeJar_3_bad hJ hj hu) rfl rfl rfl rfl rfl (Nat.le_of_ble_eq_true rfl) (Nat.le_of_ble_eq_true rfl) (Nat.le_of_ble_eq_true rfl) d_LJ_fetch_4 ?_
  exact f_iret (pc := 7) hX hR (rfl) (rfl) d_LJ_fetch_7
theorem C_LJ_fetch_ok {M : MM} {n j : Nat} {J : JT} (hJ : CJ M n J) (hj : j < n) {u : Int32} (hu : rg u 0 9 = true) : AF y_LJ_fetch c_LJ_fetch 3 (some .int) 5 [vR 2, vI (i3 j), vI u] (M) (some (vI (J j 3))) (upM M (6 + j) 3 u) := by
  refine AF.of k_LJ_fetch (lo := [some (vR 2), some (vI (i3 j)), some (vI u)]) rfl (Nat.le_of_ble_eq_true rfl) (fun X hX hR => ?_)
  refine v_aload_n (pc := 0) hX rfl d_LJ_fetch_0 ?_
  refine v_iload_n (pc := 1) hX rfl d_LJ_fetch_1 ?_
  refine v_iconst (pc := 2) (v := 3) hX (by decide) d_LJ_fetch_2 ?_
  refine v_iload_n (pc := 3) hX rfl d_LJ_fetch_3 ?_
  refine f_callV (pc := 4) hX k_LJ_changeJar ki_LJ_changeJar kv_LJ_changeJar ml_LJ_108 (C_LJ_changeJar_3_ok hJ hj hu) rfl rfl rfl rfl rfl (Nat.le_of_ble_eq_true rfl) (Nat.le_of_ble_eq_true rfl) (Nat.le_of_ble_eq_true rfl) d_LJ_fetch_4 ?_
  exact f_iret (pc := 7) hX hR (rfl) (rfl) d_LJ_fetch_7
theorem C_LJ_changeJar_4_out {M : MM} {n : Nat} {J : JT} {x : Int32} (hJ : CJ M n J) (hx : rg x 0 ((n : Int) - 1) = false) {u : Int32} : AF y_LJ_changeJar c_LJ_changeJar 6 (some .int) 4 [vR 2, vI x, vI 4, vI u] (M) (some (vI (-1))) (M) := by
  refine AF.of k_LJ_changeJar (lo := [some (vR 2), some (vI x), some (vI 4), some (vI u), none, none]) rfl (Nat.le_of_ble_eq_true rfl) (fun X hX hR => ?_)
  refine v_aload_n (pc := 0) hX rfl d_LJ_changeJar_0 ?_
  refine g_getR (pc := 1) hX fl_LJ_12 rfl rfl nf_2_0 d_LJ_changeJar_1 ?_
  refine v_iload_n (pc := 4) hX rfl d_LJ_changeJar_4 ?_
  refine f_callV (pc := 5) hX k_Sp_jarAt ki_Sp_jarAt kv_Sp_jarAt ml_LJ_92 (C_Sp_jarAt_out hJ.1 hJ.2.1 hx) rfl rfl rfl rfl rfl (Nat.le_of_ble_eq_true rfl) (Nat.le_of_ble_eq_true rfl) (Nat.le_of_ble_eq_true rfl) d_LJ_changeJar_5 ?_
  refine v_astore (pc := 8) (lo' := [some (vR _), some (vI _), some (vI _), some (vI _), some (vR _), none]) hX (Nat.le_of_ble_eq_true rfl) rfl d_LJ_changeJar_8 ?_
  refine v_aload (pc := 10) hX rfl d_LJ_changeJar_10 ?_
  refine v_ifnonnull (pc := 12) (tgt := 17) hX d_LJ_changeJar_12 rfl (fun h12 => False.elim (by revert h12; decide)) (fun h12 => ?_)
  refine v_iconst (pc := 15) (v := (-1)) hX (by decide) d_LJ_changeJar_15 ?_
  exact f_iret (pc := 16) hX hR (rfl) (rfl) d_LJ_changeJar_16
theorem C_LJ_changeJar_4_bad {M : MM} {n j : Nat} {J : JT} (hJ : CJ M n J) (hj : j < n) {u : Int32} (hu : rg u 0 9 = false) : AF y_LJ_changeJar c_LJ_changeJar 6 (some .int) 4 [vR 2, vI (i3 j), vI 4, vI u] (M) (some (vI (-2))) (M) := by
  have h6 := hJ.1
  have hsj := sh_jar j (by omega)
  refine AF.of k_LJ_changeJar (lo := [some (vR 2), some (vI (i3 j)), some (vI 4), some (vI u), none, none]) rfl (Nat.le_of_ble_eq_true rfl) (fun X hX hR => ?_)
  refine v_aload_n (pc := 0) hX rfl d_LJ_changeJar_0 ?_
  refine g_getR (pc := 1) hX fl_LJ_12 rfl rfl nf_2_0 d_LJ_changeJar_1 ?_
  refine v_iload_n (pc := 4) hX rfl d_LJ_changeJar_4 ?_
  refine f_callV (pc := 5) hX k_Sp_jarAt ki_Sp_jarAt kv_Sp_jarAt ml_LJ_92 (C_Sp_jarAt_in hJ.1 hJ.2.1 hj) rfl rfl rfl rfl rfl (Nat.le_of_ble_eq_true rfl) (Nat.le_of_ble_eq_true rfl) (Nat.le_of_ble_eq_true rfl) d_LJ_changeJar_5 ?_
  refine v_astore (pc := 8) (lo' := [some (vR _), some (vI _), some (vI _), some (vI _), some (vR _), none]) hX (Nat.le_of_ble_eq_true rfl) rfl d_LJ_changeJar_8 ?_
  refine v_aload (pc := 10) hX rfl d_LJ_changeJar_10 ?_
  refine v_ifnonnull (pc := 12) (tgt := 17) hX d_LJ_changeJar_12 rfl (fun h12 => ?_) (fun h12 => False.elim (by have := sh_two (by assumption); omega))
  refine v_iload_n (pc := 17) hX rfl d_LJ_changeJar_17 ?_
  refine v_bipush (pc := 18) (v := 10) hX (by decide) d_LJ_changeJar_18 ?_
  refine f_callS (pc := 20) hX k_LJ_isBelow ks_LJ_isBelow ml_LJ_65 (C_LJ_isBelow) rfl rfl rfl (Nat.le_of_ble_eq_true rfl) (Nat.le_of_ble_eq_true rfl) (Nat.le_of_ble_eq_true rfl) d_LJ_changeJar_20 ?_
  rw [show (10 : Int32).toInt - 1 = 9 from rfl]
  refine f_ifneB (pc := 23) (tgt := 29) hX d_LJ_changeJar_23 rfl (fun h23 => False.elim (by rw [hu] at h23; cases h23)) (fun h23 => ?_)
  refine v_bipush (pc := 26) (v := (-2)) hX (by decide) d_LJ_changeJar_26 ?_
  exact f_iret (pc := 28) hX hR (rfl) (rfl) d_LJ_changeJar_28
theorem C_LJ_changeJar_4_ok {M : MM} {n j : Nat} {J : JT} (hJ : CJ M n J) (hj : j < n) {u : Int32} (hu : rg u 0 9 = true) : AF y_LJ_changeJar c_LJ_changeJar 6 (some .int) 4 [vR 2, vI (i3 j), vI 4, vI u] (M) (some (vI (J j 4))) (upM M (6 + j) 4 u) := by
  have h6 := hJ.1
  have hsj := sh_jar j (by omega)
  refine AF.of k_LJ_changeJar (lo := [some (vR 2), some (vI (i3 j)), some (vI 4), some (vI u), none, none]) rfl (Nat.le_of_ble_eq_true rfl) (fun X hX hR => ?_)
  refine v_aload_n (pc := 0) hX rfl d_LJ_changeJar_0 ?_
  refine g_getR (pc := 1) hX fl_LJ_12 rfl rfl nf_2_0 d_LJ_changeJar_1 ?_
  refine v_iload_n (pc := 4) hX rfl d_LJ_changeJar_4 ?_
  refine f_callV (pc := 5) hX k_Sp_jarAt ki_Sp_jarAt kv_Sp_jarAt ml_LJ_92 (C_Sp_jarAt_in hJ.1 hJ.2.1 hj) rfl rfl rfl rfl rfl (Nat.le_of_ble_eq_true rfl) (Nat.le_of_ble_eq_true rfl) (Nat.le_of_ble_eq_true rfl) d_LJ_changeJar_5 ?_
  refine v_astore (pc := 8) (lo' := [some (vR _), some (vI _), some (vI _), some (vI _), some (vR _), none]) hX (Nat.le_of_ble_eq_true rfl) rfl d_LJ_changeJar_8 ?_
  refine v_aload (pc := 10) hX rfl d_LJ_changeJar_10 ?_
  refine v_ifnonnull (pc := 12) (tgt := 17) hX d_LJ_changeJar_12 rfl (fun h12 => ?_) (fun h12 => False.elim (by have := sh_two (by assumption); omega))
  refine v_iload_n (pc := 17) hX rfl d_LJ_changeJar_17 ?_
  refine v_bipush (pc := 18) (v := 10) hX (by decide) d_LJ_changeJar_18 ?_
  refine f_callS (pc := 20) hX k_LJ_isBelow ks_LJ_isBelow ml_LJ_65 (C_LJ_isBelow) rfl rfl rfl (Nat.le_of_ble_eq_true rfl) (Nat.le_of_ble_eq_true rfl) (Nat.le_of_ble_eq_true rfl) d_LJ_changeJar_20 ?_
  rw [show (10 : Int32).toInt - 1 = 9 from rfl]
  refine f_ifneB (pc := 23) (tgt := 29) hX d_LJ_changeJar_23 rfl (fun h23 => ?_) (fun h23 => False.elim (by rw [hu] at h23; cases h23))
  refine v_aload (pc := 29) hX rfl d_LJ_changeJar_29 ?_
  refine v_iload_n (pc := 31) hX rfl d_LJ_changeJar_31 ?_
  refine f_callV (pc := 32) hX k_Ja_part ki_Ja_part kv_Ja_part ml_LJ_96 (C_Ja_part (by assumption)) (by assumption) rfl rfl rfl rfl (Nat.le_of_ble_eq_true rfl) (Nat.le_of_ble_eq_true rfl) (Nat.le_of_ble_eq_true rfl) d_LJ_changeJar_32 ?_
  refine v_istore (pc := 35) (lo' := [some (vR _), some (vI _), some (vI _), some (vI _), some (vR _), some (vI _)]) hX (Nat.le_of_ble_eq_true rfl) rfl d_LJ_changeJar_35 ?_
  refine v_aload (pc := 37) hX rfl d_LJ_changeJar_37 ?_
  refine v_iload_n (pc := 39) hX rfl d_LJ_changeJar_39 ?_
  refine v_iload_n (pc := 40) hX rfl d_LJ_changeJar_40 ?_
  refine f_callV0 (pc := 41) hX k_Ja_become ki_Ja_become kv_Ja_become ml_LJ_280 (C_Ja_become_4 (by assumption)) (by assumption) rfl rfl rfl rfl (Nat.le_of_ble_eq_true rfl) (Nat.le_of_ble_eq_true rfl) (Nat.le_of_ble_eq_true rfl) d_LJ_changeJar_41 ?_
  refine v_iload (pc := 44) hX rfl d_LJ_changeJar_44 ?_
  exact f_iret (pc := 46) hX hR (by rw [jp4]; exact hJ.2.2 j hj 4 (by decide)) (rfl) d_LJ_changeJar_46
theorem d_LJ_price_0 : decode c_LJ_price 0 = .ok (.aload_n 0, 1) := by decide +kernel
theorem d_LJ_price_1 : decode c_LJ_price 1 = .ok (.iload_n 1, 1) := by decide +kernel
theorem d_LJ_price_2 : decode c_LJ_price 2 = .ok (.iconst 4, 1) := by decide +kernel
theorem d_LJ_price_3 : decode c_LJ_price 3 = .ok (.iload_n 2, 1) := by decide +kernel
theorem d_LJ_price_4 : decode c_LJ_price 4 = .ok (.invokevirtual 108, 3) := by decide +kernel
theorem d_LJ_price_7 : decode c_LJ_price 7 = .ok (.ireturn, 1) := by decide +kernel
theorem C_LJ_price_out {M : MM} {n : Nat} {J : JT} {x : Int32} (hJ : CJ M n J) (hx : rg x 0 ((n : Int) - 1) = false) {u : Int32} : AF y_LJ_price c_LJ_price 3 (some .int) 5 [vR 2, vI x, vI u] (M) (some (vI (-1))) (M) := by
  refine AF.of k_LJ_price (lo := [some (vR 2), some (vI x), some (vI u)]) rfl (Nat.le_of_ble_eq_true rfl) (fun X hX hR => ?_)
  refine v_aload_n (pc := 0) hX rfl d_LJ_price_0 ?_
  refine v_iload_n (pc := 1) hX rfl d_LJ_price_1 ?_
  refine v_iconst (pc := 2) (v := 4) hX (by decide) d_LJ_price_2 ?_
  refine v_iload_n (pc := 3) hX rfl d_LJ_price_3 ?_
  refine f_callV (pc := 4) hX k_LJ_changeJar ki_LJ_changeJar kv_LJ_changeJar ml_LJ_108 (C_LJ_changeJar_4_out hJ hx) rfl rfl rfl rfl rfl (Nat.le_of_ble_eq_true rfl) (Nat.le_of_ble_eq_true rfl) (Nat.le_of_ble_eq_true rfl) d_LJ_price_4 ?_
  exact f_iret (pc := 7) hX hR (rfl) (rfl) d_LJ_price_7
theorem C_LJ_price_bad {M : MM} {n j : Nat} {J : JT} (hJ : CJ M n J) (hj : j < n) {u : Int32} (hu : rg u 0 9 = false) : AF y_LJ_price c_LJ_price 3 (some .int) 5 [vR 2, vI (i3 j), vI u] (M) (some (vI (-2))) (M) := by
  refine AF.of k_LJ_price (lo := [some (vR 2), some (vI (i3 j)), some (vI u)]) rfl (Nat.le_of_ble_eq_true rfl) (fun X hX hR => ?_)
  refine v_aload_n (pc := 0) hX rfl d_LJ_price_0 ?_
  refine v_iload_n (pc := 1) hX rfl d_LJ_price_1 ?_
  refine v_iconst (pc := 2) (v := 4) hX (by decide) d_LJ_price_2 ?_
  refine v_iload_n (pc := 3) hX rfl d_LJ_price_3 ?_
  refine f_callV (pc := 4) hX k_LJ_changeJar ki_LJ_changeJar kv_LJ_changeJar ml_LJ_108 (C_LJ_changeJar_4_bad hJ hj hu) rfl rfl rfl rfl rfl (Nat.le_of_ble_eq_true rfl) (Nat.le_of_ble_eq_true rfl) (Nat.le_of_ble_eq_true rfl) d_LJ_price_4 ?_
  exact f_iret (pc := 7) hX hR (rfl) (rfl) d_LJ_price_7
theorem C_LJ_price_ok {M : MM} {n j : Nat} {J : JT} (hJ : CJ M n J) (hj : j < n) {u : Int32} (hu : rg u 0 9 = true) : AF y_LJ_price c_LJ_price 3 (some .int) 5 [vR 2, vI (i3 j), vI u] (M) (some (vI (J j 4))) (upM M (6 + j) 4 u) := by
  refine AF.of k_LJ_price (lo := [some (vR 2), some (vI (i3 j)), some (vI u)]) rfl (Nat.le_of_ble_eq_true rfl) (fun X hX hR => ?_)
  refine v_aload_n (pc := 0) hX rfl d_LJ_price_0 ?_
  refine v_iload_n (pc := 1) hX rfl d_LJ_price_1 ?_
  refine v_iconst (pc := 2) (v := 4) hX (by decide) d_LJ_price_2 ?_
  refine v_iload_n (pc := 3) hX rfl d_LJ_price_3 ?_
  refine f_callV (pc := 4) hX k_LJ_changeJar ki_LJ_changeJar kv_LJ_changeJar ml_LJ_108 (C_LJ_changeJar_4_ok hJ hj hu) rfl rfl rfl rfl rfl (Nat.le_of_ble_eq_true rfl) (Nat.le_of_ble_eq_true rfl) (Nat.le_of_ble_eq_true rfl) d_LJ_price_4 ?_
  exact f_iret (pc := 7) hX hR (rfl) (rfl) d_LJ_price_7
theorem d_LJ_changeDecider_0 : decode c_LJ_changeDecider 0 = .ok (.aload_n 0, 1) := by decide +kernel
theorem d_LJ_changeDecider_1 : decode c_LJ_changeDecider 1 = .ok (.getfield 12, 3) := by decide +kernel
theorem d_LJ_changeDecider_4 : decode c_LJ_changeDecider 4 = .ok (.iload_n 1, 1) := by decide +kernel
theorem d_LJ_changeDecider_5 : decode c_LJ_changeDecider 5 = .ok (.invokevirtual 101, 3) := by decide +kernel
theorem d_LJ_changeDecider_8 : decode c_LJ_changeDecider 8 = .ok (.astore 5, 2) := by decide +kernel
theorem d_LJ_changeDecider_10 : decode c_LJ_changeDecider 10 = .ok (.aload 5, 2) := by decide +kernel
theorem d_LJ_changeDecider_12 : decode c_LJ_changeDecider 12 = .ok (.ifnonnull 5, 3) := by decide +kernel
theorem d_LJ_changeDecider_15 : decode c_LJ_changeDecider 15 = .ok (.iconst (-1), 1) := by decide +kernel
theorem d_LJ_changeDecider_16 : decode c_LJ_changeDecider 16 = .ok (.ireturn, 1) := by decide +kernel
theorem d_LJ_changeDecider_17 : decode c_LJ_changeDecider 17 = .ok (.iload_n 3, 1) := by decide +kernel
theorem d_LJ_changeDecider_18 : decode c_LJ_changeDecider 18 = .ok (.iload 4, 2) := by decide +kernel
theorem d_LJ_changeDecider_20 : decode c_LJ_changeDecider 20 = .ok (.invokestatic 65, 3) := by decide +kernel
theorem d_LJ_changeDecider_23 : decode c_LJ_changeDecider 23 = .ok (.ifCond .ne 6, 3) := by decide +kernel
theorem d_LJ_changeDecider_26 : decode c_LJ_changeDecider 26 = .ok (.bipush (-2), 2) := by decide +kernel
theorem d_LJ_changeDecider_28 : decode c_LJ_changeDecider 28 = .ok (.ireturn, 1) := by decide +kernel
theorem d_LJ_changeDecider_29 : decode c_LJ_changeDecider 29 = .ok (.aload 5, 2) := by decide +kernel
theorem d_LJ_changeDecider_31 : decode c_LJ_changeDecider 31 = .ok (.iload_n 2, 1) := by decide +kernel
theorem d_LJ_changeDecider_32 : decode c_LJ_changeDecider 32 = .ok (.invokevirtual 105, 3) := by decide +kernel
theorem d_LJ_changeDecider_35 : decode c_LJ_changeDecider 35 = .ok (.istore 6, 2) := by decide +kernel
theorem d_LJ_changeDecider_37 : decode c_LJ_changeDecider 37 = .ok (.aload 5, 2) := by decide +kernel
theorem d_LJ_changeDecider_39 : decode c_LJ_changeDecider 39 = .ok (.iload_n 2, 1) := by decide +kernel
theorem d_LJ_changeDecider_40 : decode c_LJ_changeDecider 40 = .ok (.iload_n 3, 1) := by decide +kernel
theorem d_LJ_changeDecider_41 : decode c_LJ_changeDecider 41 = .ok (.invokevirtual 283, 3) := by decide +kernel
theorem d_LJ_changeDecider_44 : decode c_LJ_changeDecider 44 = .ok (.iload 6, 2) := by decide +kernel
theorem d_LJ_changeDecider_46 : decode c_LJ_changeDecider 46 = .ok (.ireturn, 1) := by decide +kernel
theorem C_LJ_changeDecider_0_out {M : MM} {n : Nat} {B : JT} {x : Int32} (hB : CB M n B) (hx : rg x 0 ((n : Int) - 1) = false) {u : Int32} : AF y_LJ_changeDecider c_LJ_changeDecider 7 (some .int) 3 [vR 2, vI x, vI 0, vI u, vI 10] (M) (some (vI (-1))) (M) := by
  refine AF.of k_LJ_changeDecider (lo := [some (vR 2), some (vI x), some (vI 0), some (vI u), some (vI 10), none, none]) rfl (Nat.le_of_ble_eq_true rfl) (fun X hX hR => ?_)
  refine v_aload_n (pc := 0) hX rfl d_LJ_changeDecider_0 ?_
  refine g_getR (pc := 1) hX fl_LJ_12 rfl rfl nf_2_0 d_LJ_changeDecider_1 ?_
  refine v_iload_n (pc := 4) hX rfl d_LJ_changeDecider_4 ?_
  refine f_callV (pc := 5) hX k_Sp_deciderAt ki_Sp_deciderAt kv_Sp_deciderAt ml_LJ_101 (C_Sp_deciderAt_out hB.1 hB.2.1 hx) rfl rfl rfl rfl rfl (Nat.le_of_ble_eq_true rfl) (Nat.le_of_ble_eq_true rfl) (Nat.le_of_ble_eq_true rfl) d_LJ_changeDecider_5 ?_
  refine v_astore (pc := 8) (lo' := [some (vR _), some (vI _), some (vI _), some (vI _), some (vI _), some (vR _), none]) hX (Nat.le_of_ble_eq_true rfl) rfl d_LJ_changeDecider_8 ?_
  refine v_aload (pc := 10) hX rfl d_LJ_changeDecider_10 ?_
  refine v_ifnonnull (pc := 12) (tgt := 17) hX d_LJ_changeDecider_12 rfl (fun h12 => False.elim (by revert h12; decide)) (fun h12 => ?_)
  refine v_iconst (pc := 15) (v := (-1)) hX (by decide) d_LJ_changeDecider_15 ?_
  exact f_iret (pc := 16) hX hR (rfl) (rfl) d_LJ_changeDecider_16
theorem C_LJ_changeDecider_0_bad {M : MM} {n j : Nat} {B : JT} (hB : CB M n B) (hj : j < n) {u : Int32} (hu : rg u 0 9 = false) : AF y_LJ_changeDecider c_LJ_changeDecider 7 (some .int) 3 [vR 2, vI (i3 j), vI 0, vI u, vI 10] (M) (some (vI (-2))) (M) := by
  have h4 := hB.1
  have hsd := sh_dec j (by omega)
  refine AF.of k_LJ_changeDecider (lo := [some (vR 2), some (vI (i3 j)), some (vI 0), some (vI u), some (vI 10), none, none]) rfl (Nat.le_of_ble_eq_true rfl) (fun X hX hR => ?_)
  refine v_aload_n (pc := 0) hX rfl d_LJ_changeDecider_0 ?_
  refine g_getR (pc := 1) hX fl_LJ_12 rfl rfl nf_2_0 d_LJ_changeDecider_1 ?_
  refine v_iload_n (pc := 4) hX rfl d_LJ_changeDecider_4 ?_
  refine f_callV (pc := 5) hX k_Sp_deciderAt ki_Sp_deciderAt kv_Sp_deciderAt ml_LJ_101 (C_Sp_deciderAt_in hB.1 hB.2.1 hj) rfl rfl rfl rfl rfl (Nat.le_of_ble_eq_true rfl) (Nat.le_of_ble_eq_true rfl) (Nat.le_of_ble_eq_true rfl) d_LJ_changeDecider_5 ?_
  refine v_astore (pc := 8) (lo' := [some (vR _), some (vI _), some (vI _), some (vI _), some (vI _), some (vR _), none]) hX (Nat.le_of_ble_eq_true rfl) rfl d_LJ_changeDecider_8 ?_
  refine v_aload (pc := 10) hX rfl d_LJ_changeDecider_10 ?_
  refine v_ifnonnull (pc := 12) (tgt := 17) hX d_LJ_changeDecider_12 rfl (fun h12 => ?_) (fun h12 => False.elim (by have := sh_two (by assumption); omega))
  refine v_iload_n (pc := 17) hX rfl d_LJ_changeDecider_17 ?_
  refine v_iload (pc := 18) hX rfl d_LJ_changeDecider_18 ?_
  refine f_callS (pc := 20) hX k_LJ_isBelow ks_LJ_isBelow ml_LJ_65 (C_LJ_isBelow) rfl rfl rfl (Nat.le_of_ble_eq_true rfl) (Nat.le_of_ble_eq_true rfl) (Nat.le_of_ble_eq_true rfl) d_LJ_changeDecider_20 ?_
  rw [show (10 : Int32).toInt - 1 = 9 from rfl]
  refine f_ifneB (pc := 23) (tgt := 29) hX d_LJ_changeDecider_23 rfl (fun h23 => False.elim (by rw [hu] at h23; cases h23)) (fun h23 => ?_)
  refine v_bipush (pc := 26) (v := (-2)) hX (by decide) d_LJ_changeDecider_26 ?_
  exact f_iret (pc := 28) hX hR (rfl) (rfl) d_LJ_changeDecider_28
theorem C_LJ_changeDecider_0_ok {M : MM} {n j : Nat} {B : JT} (hB : CB M n B) (hj : j < n) {u : Int32} (hu : rg u 0 9 = true) : AF y_LJ_changeDecider c_LJ_changeDecider 7 (some .int) 3 [vR 2, vI (i3 j), vI 0, vI u, vI 10] (M) (some (vI (B j 0))) (upM M (12 + j) 0 u) := by
  have h4 := hB.1
  have hsd := sh_dec j (by omega)
  refine AF.of k_LJ_changeDecider (lo := [some (vR 2), some (vI (i3 j)), some (vI 0), some (vI u), some (vI 10), none, none]) rfl (Nat.le_of_ble_eq_true rfl) (fun X hX hR => ?_)
  refine v_aload_n (pc := 0) hX rfl d_LJ_changeDecider_0 ?_
  refine g_getR (pc := 1) hX fl_LJ_12 rfl rfl nf_2_0 d_LJ_changeDecider_1 ?_
  refine v_iload_n (pc := 4) hX rfl d_LJ_changeDecider_4 ?_
  refine f_callV (pc := 5) hX k_Sp_deciderAt ki_Sp_deciderAt kv_Sp_deciderAt ml_LJ_101 (C_Sp_deciderAt_in hB.1 hB.2.1 hj) rfl rfl rfl rfl rfl (Nat.le_of_ble_eq_true rfl) (Nat.le_of_ble_eq_true rfl) (Nat.le_of_ble_eq_true rfl) d_LJ_changeDecider_5 ?_
  refine v_astore (pc := 8) (lo' := [some (vR _), some (vI _), some (vI _), some (vI _), some (vI _), some (vR _), none]) hX (Nat.le_of_ble_eq_true rfl) rfl d_LJ_changeDecider_8 ?_
  refine v_aload (pc := 10) hX rfl d_LJ_changeDecider_10 ?_
  refine v_ifnonnull (pc := 12) (tgt := 17) hX d_LJ_changeDecider_12 rfl (fun h12 => ?_) (fun h12 => False.elim (by have := sh_two (by assumption); omega))
  refine v_iload_n (pc := 17) hX rfl d_LJ_changeDecider_17 ?_
  refine v_iload (pc := 18) hX rfl d_LJ_changeDecider_18 ?_
  refine f_callS (pc := 20) hX k_LJ_isBelow ks_LJ_isBelow ml_LJ_65 (C_LJ_isBelow) rfl rfl rfl (Nat.le_of_ble_eq_true rfl) (Nat.le_of_ble_eq_true rfl) (Nat.le_of_ble_eq_true rfl) d_LJ_changeDecider_20 ?_
  rw [show (10 : Int32).toInt - 1 = 9 from rfl]
  refine f_ifneB (pc := 23) (tgt := 29) hX d_LJ_changeDecider_23 rfl (fun h23 => ?_) (fun h23 => False.elim (by rw [hu] at h23; cases h23))
  refine v_aload (pc := 29) hX rfl d_LJ_changeDecider_29 ?_
  refine v_iload_n (pc := 31) hX rfl d_LJ_changeDecider_31 ?_
  refine f_callV (pc := 32) hX k_De_part ki_De_part kv_De_part ml_LJ_105 (C_De_part (by assumption)) (by assumption) rfl rfl rfl rfl (Nat.le_of_ble_eq_true rfl) (Nat.le_of_ble_eq_true rfl) (Nat.le_of_ble_eq_true rfl) d_LJ_changeDecider_32 ?_
  refine v_istore (pc := 35) (lo' := [some (vR _), some (vI _), some (vI _), some (vI _), some (vI _), some (vR _), some (vI _)]) hX (Nat.le_of_ble_eq_true rfl) rfl d_LJ_changeDecider_35 ?_
  refine v_aload (pc := 37) hX rfl d_LJ_changeDecider_37 ?_
  refine v_iload_n (pc := 39) hX rfl d_LJ_changeDecider_39 ?_
  refine v_iload_n (pc := 40) hX rfl d_LJ_changeDecider_40 ?_
  refine f_callV0 (pc := 41) hX k_De_become ki_De_become kv_De_become ml_LJ_283 (C_De_become_0 (by assumption)) (by assumption) rfl rfl rfl rfl (Nat.le_of_ble_eq_true rfl) (Nat.le_of_ble_eq_true rfl) (Nat.le_of_ble_eq_true rfl) d_LJ_changeDecider_41 ?_
  refine v_iload (pc := 44) hX rfl d_LJ_changeDecider_44 ?_
  exact f_iret (pc := 46) hX hR (by rw [dp0]; exact hB.2.2 j hj 0 (by decide)) (rfl) d_LJ_changeDecider_46
theorem d_LJ_dread_0 : decode c_LJ_dread 0 = .ok (.aload_n 0, 1) := by decide +kernel
theorem d_LJ_dread_1 : decode c_LJ_dread 1 = .ok (.iload_n 1, 1) := by decide +kernel
theorem d_LJ_dread_2 : decode c_LJ_dread 2 = .ok (.iconst 0, 1) := by decide +kernel
theorem d_LJ_dread_3 : decode c_LJ_dread 3 = .ok (.iload_n 2, 1) := by decide +kernel
theorem d_LJ_dread_4 : decode c_LJ_dread 4 = .ok (.bipush 10, 2) := by decide +kernel
theorem d_LJ_dread_6 : decode c_LJ_dread 6 = .ok (.invokevirtual 111, 3) := by decide +kernel
theorem d_LJ_dread_9 : decode c_LJ_dread 9 = .ok (.ireturn, 1) := by decide +kernel
theorem C_LJ_dread_out {M : MM} {n : Nat} {B : JT} {x : Int32} (hB : CB M n B) (hx : rg x 0 ((n : Int) - 1) = false) {u : Int32} : AF y_LJ_dread c_LJ_dread 3 (some .int) 4 [vR 2, vI x, vI u] (M) (some (vI (-1))) (M) := by
  refine AF.of k_LJ_dread (lo := [some (vR 2), some (vI x), some (vI u)]) rfl (Nat.le_of_ble_eq_true rfl) (fun X hX hR => ?_)
  refine v_aload_n (pc := 0) hX rfl d_LJ_dread_0 ?_
  refine v_iload_n (pc := 1) hX rfl d_LJ_dread_1 ?_
  refine v_iconst (pc := 2) (v := 0) hX (by decide) d_LJ_dread_2 ?_
  refine v_iload_n (pc := 3) hX rfl d_LJ_dread_3 ?_
  refine v_bipush (pc := 4) (v := 10) hX (by decide) d_LJ_dread_4 ?_
  refine f_callV (pc := 6) hX k_LJ_changeDecider ki_LJ_changeDecider kv_LJ_changeDecider ml_LJ_111 (C_LJ_changeDecider_0_out hB hx) rfl rfl rfl rfl rfl (Nat.le_of_ble_eq_true rfl) (Nat.le_of_ble_eq_true rfl) (Nat.le_of_ble_eq_true rfl) d_LJ_dread_6 ?_
  exact f_iret (pc := 9) hX hR (rfl) (rfl) d_LJ_dread_9
theorem C_LJ_dread_bad {M : MM} {n j : Nat} {B : JT} (hB : CB M n B) (hj : j < n) {u : Int32} (hu : rg u 0 9 = false) : AF y_LJ_dread c_LJ_dread 3 (some .int) 4 [vR 2, vI (i3 j), vI u] (M) (some (vI (-2))) (M) := by
  refine AF.of k_LJ_dread (lo := [some (vR 2), some (vI (i3 j)), some (vI u)]) rfl (Nat.le_of_ble_eq_true rfl) (fun X hX hR => ?_)
  refine v_aload_n (pc := 0) hX rfl d_LJ_dread_0 ?_
  refine v_iload_n (pc := 1) hX rfl d_LJ_dread_1 ?_
  refine v_iconst (pc := 2) (v := 0) hX (by decide) d_LJ_dread_2 ?_
  refine v_iload_n (pc := 3) hX rfl d_LJ_dread_3 ?_
  refine v_bipush (pc := 4) (v := 10) hX (by decide) d_LJ_dread_4 ?_
  refine f_callV (pc := 6) hX k_LJ_changeDecider ki_LJ_changeDecider kv_LJ_changeDecider ml_LJ_111 (C_LJ_changeDecider_0_bad hB hj hu) rfl rfl rfl rfl rfl (Nat.le_of_ble_eq_true rfl) (Nat.le_of_ble_eq_true rfl) (Nat.le_of_ble_eq_true rfl) d_LJ_dread_6 ?_
  exact f_iret (pc := 9) hX hR (rfl) (rfl) d_LJ_dread_9
theorem C_LJ_dread_ok {M : MM} {n j : Nat} {B : JT} (hB : CB M n B) (hj : j < n) {u : Int32} (hu : rg u 0 9 = true) : AF y_LJ_dread c_LJ_dread 3 (some .int) 4 [vR 2, vI (i3 j), vI u] (M) (some (vI (B j 0))) (upM M (12 + j) 0 u) := by
  refine AF.of k_LJ_dread (lo := [some (vR 2), some (vI (i3 j)), some (vI u)]) rfl (Nat.le_of_ble_eq_true rfl) (fun X hX hR => ?_)
  refine v_aload_n (pc := 0) hX rfl d_LJ_dread_0 ?_
  refine v_iload_n (pc := 1) hX rfl d_LJ_dread_1 ?_
  refine v_iconst (pc := 2) (v := 0) hX (by decide) d_LJ_dread_2 ?_
  refine v_iload_n (pc := 3) hX rfl d_LJ_dread_3 ?_
  refine v_bipush (pc := 4) (v := 10) hX (by decide) d_LJ_dread_4 ?_
  refine f_callV (pc := 6) hX k_LJ_changeDecider ki_LJ_changeDecider kv_LJ_changeDecider ml_LJ_111 (C_LJ_changeDecider_0_ok hB hj hu) rfl rfl rfl rfl rfl (Nat.le_of_ble_eq_true rfl) (Nat.le_of_ble_eq_true rfl) (Nat.le_of_ble_eq_true rfl) d_LJ_dread_6 ?_
  exact f_iret (pc := 9) hX hR (rfl) (rfl) d_LJ_dread_9
theorem C_LJ_changeDecider_2_out {M : MM} {n : Nat} {B : JT} {x : Int32} (hB : CB M n B) (hx : rg x 0 ((n : Int) - 1) = false) {u : Int32} : AF y_LJ_changeDecider c_LJ_changeDecider 7 (some .int) 3 [vR 2, vI x, vI 2, vI u, vI 100] (M) (some (vI (-1))) (M) := by
  refine AF.of k_LJ_changeDecider (lo := [some (vR 2), some (vI x), some (vI 2), some (vI u), some (vI 100), none, none]) rfl (Nat.le_of_ble_eq_true rfl) (fun X hX hR => ?_)
  refine v_aload_n (pc := 0) hX rfl d_LJ_changeDecider_0 ?_
  refine g_getR (pc := 1) hX fl_LJ_12 rfl rfl nf_2_0 d_LJ_changeDecider_1 ?_
  refine v_iload_n (pc := 4) hX rfl d_LJ_changeDecider_4 ?_
  refine f_callV (pc := 5) hX k_Sp_deciderAt ki_Sp_deciderAt kv_Sp_deciderAt ml_LJ_101 (C_Sp_deciderAt_out hB.1 hB.2.1 hx) rfl rfl rfl rfl rfl (Nat.le_of_ble_eq_true rfl) (Nat.le_of_ble_eq_true rfl) (Nat.le_of_ble_eq_true rfl) d_LJ_changeDecider_5 ?_
  refine v_astore (pc := 8) (lo' := [some (vR _), some (vI _), some (vI _), some (vI _), some (vI _), some (vR _), none]) hX (Nat.le_of_ble_eq_true rfl) rfl d_LJ_changeDecider_8 ?_
  refine v_aload (pc := 10) hX rfl d_LJ_changeDecider_10 ?_
  refine v_ifnonnull (pc := 12) (tgt := 17) hX d_LJ_changeDecider_12 rfl (fun h12 => False.elim (by revert h12; decide)) (fun h12 => ?_)
  refine v_iconst (pc := 15) (v := (-1)) hX (by decide) d_LJ_changeDecider_15 ?_
  exact f_iret (pc := 16) hX hR (rfl) (rfl) d_LJ_changeDecider_16
theorem C_LJ_changeDecider_2_bad {M : MM} {n j : Nat} {B : JT} (hB : CB M n B) (hj : j < n) {u : Int32} (hu : rg u 0 99 = false) : AF y_LJ_changeDecider c_LJ_changeDecider 7 (some .int) 3 [vR 2, vI (i3 j), vI 2, vI u, vI 100] (M) (some (vI (-2))) (M) := by
  have h4 := hB.1
  have hsd := sh_dec j (by omega)
  refine AF.of k_LJ_changeDecider (lo := [some (vR 2), some (vI (i3 j)), some (vI 2), some (vI u), some (vI 100), none, none]) rfl (Nat.le_of_ble_eq_true rfl) (fun X hX hR => ?_)
  refine v_aload_n (pc := 0) hX rfl d_LJ_changeDecider_0 ?_
  refine g_getR (pc := 1) hX fl_LJ_12 rfl rfl nf_2_0 d_LJ_changeDecider_1 ?_
  refine v_iload_n (pc := 4) hX rfl d_LJ_changeDecider_4 ?_
  refine f_callV (pc := 5) hX k_Sp_deciderAt ki_Sp_deciderAt kv_Sp_deciderAt ml_LJ_101 (C_Sp_deciderAt_in hB.1 hB.2.1 hj) rfl rfl rfl rfl rfl (Nat.le_of_ble_eq_true rfl) (Nat.le_of_ble_eq_true rfl) (Nat.le_of_ble_eq_true rfl) d_LJ_changeDecider_5 ?_
  refine v_astore (pc := 8) (lo' := [some (vR _), some (vI _), some (vI _), some (vI _), some (vI _), some (vR _), none]) hX (Nat.le_of_ble_eq_true rfl) rfl d_LJ_changeDecider_8 ?_
  refine v_aload (pc := 10) hX rfl d_LJ_changeDecider_10 ?_
  refine v_ifnonnull (pc := 12) (tgt := 17) hX d_LJ_changeDecider_12 rfl (fun h12 => ?_) (fun h12 => False.elim (by have := sh_two (by assumption); omega))
  refine v_iload_n (pc := 17) hX rfl d_LJ_changeDecider_17 ?_
  refine v_iload (pc := 18) hX rfl d_LJ_changeDecider_18 ?_
  refine f_callS (pc := 20) hX k_LJ_isBelow ks_LJ_isBelow ml_LJ_65 (C_LJ_isBelow) rfl rfl rfl (Nat.le_of_ble_eq_true rfl) (Nat.le_of_ble_eq_true rfl) (Nat.le_of_ble_eq_true rfl) d_LJ_changeDecider_20 ?_
  rw [show (100 : Int32).toInt - 1 = 99 from rfl]
  refine f_ifneB (pc := 23) (tgt := 29) hX d_LJ_changeDecider_23 rfl (fun h23 => False.elim (by rw [hu] at h23; cases h23)) (fun h23 => ?_)
  refine v_bipush (pc := 26) (v := (-2)) hX (by decide) d_LJ_changeDecider_26 ?_
  exact f_iret (pc := 28) hX hR (rfl) (rfl) d_LJ_changeDecider_28
theorem C_LJ_changeDecider_2_ok {M : MM} {n j : Nat} {B : JT} (hB : CB M n B) (hj : j < n) {u : Int32} (hu : rg u 0 99 = true) : AF y_LJ_changeDecider c_LJ_changeDecider 7 (some .int) 3 [vR 2, vI (i3 j), vI 2, vI u, vI 100] (M) (some (vI (B j 2))) (upM M (12 + j) 2 u) := by
  have h4 := hB.1
  have hsd := sh_dec j (by omega)
  refine AF.of k_LJ_changeDecider (lo := [some (vR 2), some (vI (i3 j)), some (vI 2), some (vI u), some (vI 100), none, none]) rfl (Nat.le_of_ble_eq_true rfl) (fun X hX hR => ?_)
  refine v_aload_n (pc := 0) hX rfl d_LJ_changeDecider_0 ?_
  refine g_getR (pc := 1) hX fl_LJ_12 rfl rfl nf_2_0 d_LJ_changeDecider_1 ?_
  refine v_iload_n (pc := 4) hX rfl d_LJ_changeDecider_4 ?_
  refine f_callV (pc := 5) hX k_Sp_deciderAt ki_Sp_deciderAt kv_Sp_deciderAt ml_LJ_101 (C_Sp_deciderAt_in hB.1 hB.2.1 hj) rfl rfl rfl rfl rfl (Nat.le_of_ble_eq_true rfl) (Nat.le_of_ble_eq_true rfl) (Nat.le_of_ble_eq_true rfl) d_LJ_changeDecider_5 ?_
  refine v_astore (pc := 8) (lo' := [some (vR _), some (vI _), some (vI _), some (vI _), some (vI _), some (vR _), none]) hX (Nat.le_of_ble_eq_true rfl) rfl d_LJ_changeDecider_8 ?_
  refine v_aload (pc := 10) hX rfl d_LJ_changeDecider_10 ?_
  refine v_ifnonnull (pc := 12) (tgt := 17) hX d_LJ_changeDecider_12 rfl (fun h12 => ?_) (fun h12 => False.elim (by have := sh_two (by assumption); omega))
  refine v_iload_n (pc := 17) hX rfl d_LJ_changeDecider_17 ?_
  refine v_iload (pc := 18) hX rfl d_LJ_changeDecider_18 ?_
  refine f_callS (pc := 20) hX k_LJ_isBelow ks_LJ_isBelow ml_LJ_65 (C_LJ_isBelow) rfl rfl rfl (Nat.le_of_ble_eq_true rfl) (Nat.le_of_ble_eq_true rfl) (Nat.le_of_ble_eq_true rfl) d_LJ_changeDecider_20 ?_
  rw [show (100 : Int32).toInt - 1 = 99 from rfl]
  refine f_ifneB (pc := 23) (tgt := 29) hX d_LJ_changeDecider_23 rfl (fun h23 => ?_) (fun h23 => False.elim (by rw [hu] at h23; cases h23))
  refine v_aload (pc := 29) hX rfl d_LJ_changeDecider_29 ?_
  refine v_iload_n (pc := 31) hX rfl d_LJ_changeDecider_31 ?_
  refine f_callV (pc := 32) hX k_De_part ki_De_part kv_De_part ml_LJ_105 (C_De_part (by assumption)) (by assumption) rfl rfl rfl rfl (Nat.le_of_ble_eq_true rfl) (Nat.le_of_ble_eq_true rfl) (Nat.le_of_ble_eq_true rfl) d_LJ_changeDecider_32 ?_
  refine v_istore (pc := 35) (lo' := [some (vR _), some (vI _), some (vI _), some (vI _), some (vI _), some (vR _), some (vI _)]) hX (Nat.le_of_ble_eq_true rfl) rfl d_LJ_changeDecider_35 ?_
  refine v_aload (pc := 37) hX rfl d_LJ_changeDecider_37 ?_
  refine v_iload_n (pc := 39) hX rfl d_LJ_changeDecider_39 ?_
  refine v_iload_n (pc := 40) hX rfl d_LJ_changeDecider_40 ?_
  refine f_callV0 (pc := 41) hX k_De_become ki_De_become kv_De_become ml_LJ_283 (C_De_become_2 (by assumption)) (by assumption) rfl rfl rfl rfl (Nat.le_of_ble_eq_true rfl) (Nat.le_of_ble_eq_true rfl) (Nat.le_of_ble_eq_true rfl) d_LJ_changeDecider_41 ?_
  refine v_iload (pc := 44) hX rfl d_LJ_changeDecider_44 ?_
  exact f_iret (pc := 46) hX hR (by rw [dp2]; exact hB.2.2 j hj 2 (by decide)) (rfl) d_LJ_changeDecider_46
theorem d_LJ_pay_0 : decode c_LJ_pay 0 = .ok (.aload_n 0, 1) := by decide +kernel
theorem d_LJ_pay_1 : decode c_LJ_pay 1 = .ok (.iload_n 1, 1) := by decide +kernel
theorem d_LJ_pay_2 : decode c_LJ_pay 2 = .ok (.iconst 2, 1) := by decide +kernel
theorem d_LJ_pay_3 : decode c_LJ_pay 3 = .ok (.iload_n 2, 1) := by decide +kernel
theorem d_LJ_pay_4 : decode c_LJ_pay 4 = .ok (.bipush 100, 2) := by decide +kernel
theorem d_LJ_pay_6 : decode c_LJ_pay 6 = .ok (.invokevirtual 111, 3) := by decide +kernel
theorem d_LJ_pay_9 : decode c_LJ_pay 9 = .ok (.ireturn, 1) := by decide +kernel
theorem C_LJ_pay_out {M : MM} {n : Nat} {B : JT} {x : Int32} (hB : CB M n B) (hx : rg x 0 ((n : Int) - 1) = false) {u : Int32} : AF y_LJ_pay c_LJ_pay 3 (some .int) 4 [vR 2, vI x, vI u] (M) (some (vI (-1))) (M) := by
  refine AF.of k_LJ_pay (lo := [some (vR 2), some (vI x), some (vI u)]) rfl (Nat.le_of_ble_eq_true rfl) (fun X hX hR => ?_)
  refine v_aload_n (pc := 0) hX rfl d_LJ_pay_0 ?_
  refine v_iload_n (pc := 1) hX rfl d_LJ_pay_1 ?_
  refine v_iconst (pc := 2) (v := 2) hX (by decide) d_LJ_pay_2 ?_
  refine v_iload_n (pc := 3) hX rfl d_LJ_pay_3 ?_
  refine v_bipush (pc := 4) (v := 100) hX (by decide) d_LJ_pay_4 ?_
  refine f_callV (pc := 6) hX k_LJ_changeDecider ki_LJ_changeDecider kv_LJ_changeDecider ml_LJ_111 (C_LJ_changeDecider_2_out hB hx) rfl rfl rfl rfl rfl (Nat.le_of_ble_eq_true rfl) (Nat.le_of_ble_eq_true rfl) (Nat.le_of_ble_eq_true rfl) d_LJ_pay_6 ?_
  exact f_iret (pc := 9) hX hR (rfl) (rfl) d_LJ_pay_9
theorem C_LJ_pay_bad {M : MM} {n j : Nat} {B : JT} (hB : CB M n B) (hj : j < n) {u : Int32} (hu : rg u 0 99 = false) : AF y_LJ_pay c_LJ_pay 3 (some .int) 4 [vR 2, vI (i3 j), vI u] (M) (some (vI (-2))) (M) := by
  refine AF.of k_LJ_pay (lo := [some (vR 2), some (vI (i3 j)), some (vI u)]) rfl (Nat.le_of_ble_eq_true rfl) (fun X hX hR => ?_)
  refine v_aload_n (pc := 0) hX rfl d_LJ_pay_0 ?_
  refine v_iload_n (pc := 1) hX rfl d_LJ_pay_1 ?_
  refine v_iconst (pc := 2) (v := 2) hX (by decide) d_LJ_pay_2 ?_
  refine v_iload_n (pc := 3) hX rfl d_LJ_pay_3 ?_
  refine v_bipush (pc := 4) (v := 100) hX (by decide) d_LJ_pay_4 ?_
  refine f_callV (pc := 6) hX k_LJ_changeDecider ki_LJ_changeDecider kv_LJ_changeDecider ml_LJ_111 (C_LJ_changeDecider_2_bad hB hj hu) rfl rfl rfl rfl rfl (Nat.le_of_ble_eq_true rfl) (Nat.le_of_ble_eq_true rfl) (Nat.le_of_ble_eq_true rfl) d_LJ_pay_6 ?_
  exact f_iret (pc := 9) hX hR (rfl) (rfl) d_LJ_pay_9
theorem C_LJ_pay_ok {M : MM} {n j : Nat} {B : JT} (hB : CB M n B) (hj : j < n) {u : Int32} (hu : rg u 0 99 = true) : AF y_LJ_pay c_LJ_pay 3 (some .int) 4 [vR 2, vI (i3 j), vI u] (M) (some (vI (B j 2))) (upM M (12 + j) 2 u) := by
  refine AF.of k_LJ_pay (lo := [some (vR 2), some (vI (i3 j)), some (vI u)]) rfl (Nat.le_of_ble_eq_true rfl) (fun X hX hR => ?_)
  refine v_aload_n (pc := 0) hX rfl d_LJ_pay_0 ?_
  refine v_iload_n (pc := 1) hX rfl d_LJ_pay_1 ?_
  refine v_iconst (pc := 2) (v := 2) hX (by decide) d_LJ_pay_2 ?_
  refine v_iload_n (pc := 3) hX rfl d_LJ_pay_3 ?_
  refine v_bipush (pc := 4) (v := 100) hX (by decide) d_LJ_pay_4 ?_
  refine f_callV (pc := 6) hX k_LJ_changeDecider ki_LJ_changeDecider kv_LJ_changeDecider ml_LJ_111 (C_LJ_changeDecider_2_ok hB hj hu) rfl rfl rfl rfl rfl (Nat.le_of_ble_eq_true rfl) (Nat.le_of_ble_eq_true rfl) (Nat.le_of_ble_eq_true rfl) d_LJ_pay_6 ?_
  exact f_iret (pc := 9) hX hR (rfl) (rfl) d_LJ_pay_9
theorem d_LJ_mark_0 : decode c_LJ_mark 0 = .ok (.aload_n 0, 1) := by decide +kernel
theorem d_LJ_mark_1 : decode c_LJ_mark 1 = .ok (.getfield 12, 3) := by decide +kernel
theorem d_LJ_mark_4 : decode c_LJ_mark 4 = .ok (.iload_n 1, 1) := by decide +kernel
theorem d_LJ_mark_5 : decode c_LJ_mark 5 = .ok (.invokevirtual 92, 3) := by decide +kernel
theorem d_LJ_mark_8 : decode c_LJ_mark 8 = .ok (.astore_n 3, 1) := by decide +kernel
theorem d_LJ_mark_9 : decode c_LJ_mark 9 = .ok (.aload_n 3, 1) := by decide +kernel
theorem d_LJ_mark_10 : decode c_LJ_mark 10 = .ok (.ifnonnull 5, 3) := by decide +kernel
theorem d_LJ_mark_13 : decode c_LJ_mark 13 = .ok (.iconst (-1), 1) := by decide +kernel
theorem d_LJ_mark_14 : decode c_LJ_mark 14 = .ok (.ireturn, 1) := by decide +kernel
theorem d_LJ_mark_15 : decode c_LJ_mark 15 = .ok (.iload_n 2, 1) := by decide +kernel
theorem d_LJ_mark_16 : decode c_LJ_mark 16 = .ok (.bipush 10, 2) := by decide +kernel
theorem d_LJ_mark_18 : decode c_LJ_mark 18 = .ok (.invokestatic 65, 3) := by decide +kernel
theorem d_LJ_mark_21 : decode c_LJ_mark 21 = .ok (.ifCond .eq 11, 3) := by decide +kernel
theorem d_LJ_mark_24 : decode c_LJ_mark 24 = .ok (.aload_n 3, 1) := by decide +kernel
theorem d_LJ_mark_25 : decode c_LJ_mark 25 = .ok (.iload_n 2, 1) := by decide +kernel
theorem d_LJ_mark_26 : decode c_LJ_mark 26 = .ok (.invokevirtual 115, 3) := by decide +kernel
theorem d_LJ_mark_29 : decode c_LJ_mark 29 = .ok (.goto 5, 3) := by decide +kernel
theorem d_LJ_mark_32 : decode c_LJ_mark 32 = .ok (.bipush (-2), 2) := by decide +kernel
theorem d_LJ_mark_34 : decode c_LJ_mark 34 = .ok (.ireturn, 1) := by decide +kernel
theorem C_LJ_mark_out {M : MM} {n : Nat} {J : JT} {x : Int32} (hJ : CJ M n J) (hx : rg x 0 ((n : Int) - 1) = false) {u : Int32} : AF y_LJ_mark c_LJ_mark 4 (some .int) 3 [vR 2, vI x, vI u] (M) (some (vI (-1))) (M) := by
  refine AF.of k_LJ_mark (lo := [some (vR 2), some (vI x), some (vI u), none]) rfl (Nat.le_of_ble_eq_true rfl) (fun X hX hR => ?_)
  refine v_aload_n (pc := 0) hX rfl d_LJ_mark_0 ?_
  refine g_getR (pc := 1) hX fl_LJ_12 rfl rfl nf_2_0 d_LJ_mark_1 ?_
  refine v_iload_n (pc := 4) hX rfl d_LJ_mark_4 ?_
  refine f_callV (pc := 5) hX k_Sp_jarAt ki_Sp_jarAt kv_Sp_jarAt ml_LJ_92 (C_Sp_jarAt_out hJ.1 hJ.2.1 hx) rfl rfl rfl rfl rfl (Nat.le_of_ble_eq_true rfl) (Nat.le_of_ble_eq_true rfl) (Nat.le_of_ble_eq_true rfl) d_LJ_mark_5 ?_
  refine v_astore_n (pc := 8) (lo' := [some (vR _), some (vI _), some (vI _), some (vR _)]) hX (Nat.le_of_ble_eq_true rfl) rfl d_LJ_mark_8 ?_
  refine v_aload_n (pc := 9) hX rfl d_LJ_mark_9 ?_
  refine v_ifnonnull (pc := 10) (tgt := 15) hX d_LJ_mark_10 rfl (fun h10 => False.elim (by revert h10; decide)) (fun h10 => ?_)
  refine v_iconst (pc := 13) (v := (-1)) hX (by decide) d_LJ_mark_13 ?_
  exact f_iret (pc := 14) hX hR (rfl) (rfl) d_LJ_mark_14
theorem C_LJ_mark_bad {M : MM} {n j : Nat} {J : JT} (hJ : CJ M n J) (hj : j < n) {u : Int32} (hu : rg u 0 9 = false) : AF y_LJ_mark c_LJ_mark 4 (some .int) 3 [vR 2, vI (i3 j), vI u] (M) (some (vI (-2))) (M) := by
  have h6 := hJ.1
  have hsj := sh_jar j (by omega)
  refine AF.of k_LJ_mark (lo := [some (vR 2), some (vI (i3 j)), some (vI u), none]) rfl (Nat.le_of_ble_eq_true rfl) (fun X hX hR => ?_)
  refine v_aload_n (pc := 0) hX rfl d_LJ_mark_0 ?_
  refine g_getR (pc := 1) hX fl_LJ_12 rfl rfl nf_2_0 d_LJ_mark_1 ?_
  refine v_iload_n (pc := 4) hX rfl d_LJ_mark_4 ?_
  refine f_callV (pc := 5) hX k_Sp_jarAt ki_Sp_jarAt kv_Sp_jarAt ml_LJ_92 (C_Sp_jarAt_in hJ.1 hJ.2.1 hj) rfl rfl rfl rfl rfl (Nat.le_of_ble_eq_true rfl) (Nat.le_of_ble_eq_true rfl) (Nat.le_of_ble_eq_true rfl) d_LJ_mark_5 ?_
  refine v_astore_n (pc := 8) (lo' := [some (vR _), some (vI _), some (vI _), some (vR _)]) hX (Nat.le_of_ble_eq_true rfl) rfl d_LJ_mark_8 ?_
  refine v_aload_n (pc := 9) hX rfl d_LJ_mark_9 ?_
  refine v_ifnonnull (pc := 10) (tgt := 15) hX d_LJ_mark_10 rfl (fun h10 => ?_) (fun h10 => False.elim (by have := sh_two (by assumption); omega))
  refine v_iload_n (pc := 15) hX rfl d_LJ_mark_15 ?_
  refine v_bipush (pc := 16) (v := 10) hX (by decide) d_LJ_mark_16 ?_
  refine f_callS (pc := 18) hX k_LJ_isBelow ks_LJ_isBelow ml_LJ_65 (C_LJ_isBelow) rfl rfl rfl (Nat.le_of_ble_eq_true rfl) (Nat.le_of_ble_eq_true rfl) (Nat.le_of_ble_eq_true rfl) d_LJ_mark_18 ?_
  rw [show (10 : Int32).toInt - 1 = 9 from rfl]
  refine f_ifeqB (pc := 21) (tgt := 32) hX d_LJ_mark_21 rfl (fun h21 => ?_) (fun h21 => False.elim (by rw [hu] at h21; cases h21))
  refine v_bipush (pc := 32) (v := (-2)) hX (by decide) d_LJ_mark_32 ?_
  exact f_iret (pc := 34) hX hR (rfl) (rfl) d_LJ_mark_34
theorem C_LJ_mark_ok {M : MM} {n j : Nat} {J : JT} (hJ : CJ M n J) (hj : j < n) {u : Int32} (hu : rg u 0 9 = true) : AF y_LJ_mark c_LJ_mark 4 (some .int) 3 [vR 2, vI (i3 j), vI u] (M) (some (vI (mk J j u))) (M) := by
  have h6 := hJ.1
  have hsj := sh_jar j (by omega)
  refine AF.of k_LJ_mark (lo := [some (vR 2), some (vI (i3 j)), some (vI u), none]) rfl (Nat.le_of_ble_eq_true rfl) (fun X hX hR => ?_)
  refine v_aload_n (pc := 0) hX rfl d_LJ_mark_0 ?_
  refine g_getR (pc := 1) hX fl_LJ_12 rfl rfl nf_2_0 d_LJ_mark_1 ?_
  refine v_iload_n (pc := 4) hX rfl d_LJ_mark_4 ?_
  refine f_callV (pc := 5) hX k_Sp_jarAt ki_Sp_jarAt kv_Sp_jarAt ml_LJ_92 (C_Sp_jarAt_in hJ.1 hJ.2.1 hj) rfl rfl rfl rfl rfl (Nat.le_of_ble_eq_true rfl) (Nat.le_of_ble_eq_true rfl) (Nat.le_of_ble_eq_true rfl) d_LJ_mark_5 ?_
  refine v_astore_n (pc := 8) (lo' := [some (vR _), some (vI _), some (vI _), some (vR _)]) hX (Nat.le_of_ble_eq_true rfl) rfl d_LJ_mark_8 ?_
  refine v_aload_n (pc := 9) hX rfl d_LJ_mark_9 ?_
  refine v_ifnonnull (pc := 10) (tgt := 15) hX d_LJ_mark_10 rfl (fun h10 => ?_) (fun h10 => False.elim (by have := sh_two (by assumption); omega))
  refine v_iload_n (pc := 15) hX rfl d_LJ_mark_15 ?_
  refine v_bipush (pc := 16) (v := 10) hX (by decide) d_LJ_mark_16 ?_
  refine f_callS (pc := 18) hX k_LJ_isBelow ks_LJ_isBelow ml_LJ_65 (C_LJ_isBelow) rfl rfl rfl (Nat.le_of_ble_eq_true rfl) (Nat.le_of_ble_eq_true rfl) (Nat.le_of_ble_eq_true rfl) d_LJ_mark_18 ?_
  rw [show (10 : Int32).toInt - 1 = 9 from rfl]
  refine f_ifeqB (pc := 21) (tgt := 32) hX d_LJ_mark_21 rfl (fun h21 => False.elim (by rw [hu] at h21; cases h21)) (fun h21 => ?_)
  refine v_aload_n (pc := 24) hX rfl d_LJ_mark_24 ?_
  refine v_iload_n (pc := 25) hX rfl d_LJ_mark_25 ?_
  refine f_callV (pc := 26) hX k_Ja_markIn ki_Ja_markIn kv_Ja_markIn ml_LJ_115 (C_Ja_markIn (by assumption)) (by assumption) rfl rfl rfl rfl (Nat.le_of_ble_eq_true rfl) (Nat.le_of_ble_eq_true rfl) (Nat.le_of_ble_eq_true rfl) d_LJ_mark_26 ?_
  refine v_goto (pc := 29) (tgt := 34) hX d_LJ_mark_29 rfl ?_
  exact f_iret (pc := 34) hX hR (hJ.mk hj _) (rfl) d_LJ_mark_34
theorem d_LJ_blend_0 : decode c_LJ_blend 0 = .ok (.aload_n 0, 1) := by decide +kernel
theorem d_LJ_blend_1 : decode c_LJ_blend 1 = .ok (.getfield 12, 3) := by decide +kernel
theorem d_LJ_blend_4 : decode c_LJ_blend 4 = .ok (.invokevirtual 118, 3) := by decide +kernel
theorem d_LJ_blend_7 : decode c_LJ_blend 7 = .ok (.ifCond .eq 6, 3) := by decide +kernel
theorem d_LJ_blend_10 : decode c_LJ_blend 10 = .ok (.bipush (-3), 2) := by decide +kernel
theorem d_LJ_blend_12 : decode c_LJ_blend 12 = .ok (.ireturn, 1) := by decide +kernel
theorem d_LJ_blend_13 : decode c_LJ_blend 13 = .ok (.aload_n 0, 1) := by decide +kernel
theorem d_LJ_blend_14 : decode c_LJ_blend 14 = .ok (.getfield 12, 3) := by decide +kernel
theorem d_LJ_blend_17 : decode c_LJ_blend 17 = .ok (.iload_n 1, 1) := by decide +kernel
theorem d_LJ_blend_18 : decode c_LJ_blend 18 = .ok (.invokevirtual 122, 3) := by decide +kernel
theorem d_LJ_blend_21 : decode c_LJ_blend 21 = .ok (.ifCond .eq 12, 3) := by decide +kernel
theorem d_LJ_blend_24 : decode c_LJ_blend 24 = .ok (.iload_n 2, 1) := by decide +kernel
theorem d_LJ_blend_25 : decode c_LJ_blend 25 = .ok (.bipush 10, 2) := by decide +kernel
theorem d_LJ_blend_27 : decode c_LJ_blend 27 = .ok (.invokestatic 65, 3) := by decide +kernel
theorem d_LJ_blend_30 : decode c_LJ_blend 30 = .ok (.ifCond .ne 6, 3) := by decide +kernel
theorem d_LJ_blend_33 : decode c_LJ_blend 33 = .ok (.bipush (-2), 2) := by decide +kernel
theorem d_LJ_blend_35 : decode c_LJ_blend 35 = .ok (.ireturn, 1) := by decide +kernel
theorem d_LJ_blend_36 : decode c_LJ_blend 36 = .ok (.aload_n 0, 1) := by decide +kernel
theorem d_LJ_blend_37 : decode c_LJ_blend 37 = .ok (.getfield 12, 3) := by decide +kernel
theorem d_LJ_blend_40 : decode c_LJ_blend 40 = .ok (.iload_n 1, 1) := by decide +kernel
theorem d_LJ_blend_41 : decode c_LJ_blend 41 = .ok (.iload_n 2, 1) := by decide +kernel
theorem d_LJ_blend_42 : decode c_LJ_blend 42 = .ok (.invokevirtual 126, 3) := by decide +kernel
theorem d_LJ_blend_45 : decode c_LJ_blend 45 = .ok (.ireturn, 1) := by decide +kernel
theorem C_LJ_blend_no {M : MM} {n : Nat} {J : JT} (hJ : CJ M n J) {x u : Int32} (h0 : n = 0) : AF y_LJ_blend c_LJ_blend 3 (some .int) 3 [vR 2, vI x, vI u] (M) (some (vI (-3))) (M) := by
  refine AF.of k_LJ_blend (lo := [some (vR 2), some (vI x), some (vI u)]) rfl (Nat.le_of_ble_eq_true rfl) (fun X hX hR => ?_)
  refine v_aload_n (pc := 0) hX rfl d_LJ_blend_0 ?_
  refine g_getR (pc := 1) hX fl_LJ_12 rfl rfl nf_2_0 d_LJ_blend_1 ?_
  refine f_callV (pc := 4) hX k_Sp_isMissing ki_Sp_isMissing kv_Sp_isMissing ml_LJ_118 (C_Sp_isMissing hJ) rfl rfl rfl rfl rfl (Nat.le_of_ble_eq_true rfl) (Nat.le_of_ble_eq_true rfl) (Nat.le_of_ble_eq_true rfl) d_LJ_blend_4 ?_
  refine f_ifeqB (pc := 7) (tgt := 13) hX d_LJ_blend_7 rfl (fun h7 => False.elim (by rw [decide_eq_true h0] at h7; cases h7)) (fun h7 => ?_)
  refine v_bipush (pc := 10) (v := (-3)) hX (by decide) d_LJ_blend_10 ?_
  exact f_iret (pc := 12) hX hR (rfl) (rfl) d_LJ_blend_12
theorem C_LJ_blend_bad {M : MM} {n : Nat} {J : JT} (hJ : CJ M n J) {x u : Int32} (h0 : ¬ n = 0) (hb : (rg x 1 ((2 ^ n : Nat) - 1) && rg u 0 9) = false) : AF y_LJ_blend c_LJ_blend 3 (some .int) 3 [vR 2, vI x, vI u] (M) (some (vI (-2))) (M) := by
  refine AF.of k_LJ_blend (lo := [some (vR 2), some (vI x), some (vI u)]) rfl (Nat.le_of_ble_eq_true rfl) (fun X hX hR => ?_)
  refine v_aload_n (pc := 0) hX rfl d_LJ_blend_0 ?_
  refine g_getR (pc := 1) hX fl_LJ_12 rfl rfl nf_2_0 d_LJ_blend_1 ?_
  refine f_callV (pc := 4) hX k_Sp_isMissing ki_Sp_isMissing kv_Sp_isMissing ml_LJ_118 (C_Sp_isMissing hJ) rfl rfl rfl rfl rfl (Nat.le_of_ble_eq_true rfl) (Nat.le_of_ble_eq_true rfl) (Nat.le_of_ble_eq_true rfl) d_LJ_blend_4 ?_
  refine f_ifeqB (pc := 7) (tgt := 13) hX d_LJ_blend_7 rfl (fun h7 => ?_) (fun h7 => False.elim (by rw [decide_eq_false h0] at h7; cases h7))
  refine v_aload_n (pc := 13) hX rfl d_LJ_blend_13 ?_
  refine g_getR (pc := 14) hX fl_LJ_12 rfl rfl nf_2_0 d_LJ_blend_14 ?_
  refine v_iload_n (pc := 17) hX rfl d_LJ_blend_17 ?_
  refine f_callV (pc := 18) hX k_Sp_isBlend ki_Sp_isBlend kv_Sp_isBlend ml_LJ_122 (C_Sp_isBlend hJ) rfl rfl rfl rfl rfl (Nat.le_of_ble_eq_true rfl) (Nat.le_of_ble_eq_true rfl) (Nat.le_of_ble_eq_true rfl) d_LJ_blend_18 ?_
  refine f_ifeqB (pc := 21) (tgt := 33) hX d_LJ_blend_21 rfl (fun h21 => ?_) (fun h21 => ?_)
  · refine v_bipush (pc := 33) (v := (-2)) hX (by decide) d_LJ_blend_33 ?_
    exact f_iret (pc := 35) hX hR (rfl) (rfl) d_LJ_blend_35
  · refine v_iload_n (pc := 24) hX rfl d_LJ_blend_24 ?_
    refine v_bipush (pc := 25) (v := 10) hX (by decide) d_LJ_blend_25 ?_
    refine f_callS (pc := 27) hX k_LJ_isBelow ks_LJ_isBelow ml_LJ_65 (C_LJ_isBelow) rfl rfl rfl (Nat.le_of_ble_eq_true rfl) (Nat.le_of_ble_eq_true rfl) (Nat.le_of_ble_eq_true rfl) d_LJ_blend_27 ?_
    rw [show (10 : Int32).toInt - 1 = 9 from rfl]
    refine f_ifneB (pc := 30) (tgt := 36) hX d_LJ_blend_30 rfl (fun h30 => False.elim (by rw [h21, h30] at hb; cases hb)) (fun h30 => ?_)
    refine v_bipush (pc := 33) (v := (-2)) hX (by decide) d_LJ_blend_33 ?_
    exact f_iret (pc := 35) hX hR (rfl) (rfl) d_LJ_blend_35
theorem C_LJ_blend_ok {M : MM} {n : Nat} {J : JT} (hJ : CJ M n J) {s : Nat} {u : Int32} (h0 : ¬ n = 0) (hs0 : 0 < s) (hs : s < 2 ^ n) (hu : rg u 0 9 = true) : AF y_LJ_blend c_LJ_blend 3 (some .int) 3 [vR 2, vI (i3 s), vI u] (M) (some (vI (blN J n s u))) (M) := by
  have hp := pow6 hJ.1
  have hs64 : s < 64 := by omega
  have hrg : rg (i3 s) 1 ((2 ^ n : Nat) - 1) = true := rg_true.mpr (by rw [i3_int (by omega)]; omega)
  refine AF.of k_LJ_blend (lo := [some (vR 2), some (vI (i3 s)), some (vI u)]) rfl (Nat.le_of_ble_eq_true rfl) (fun X hX hR => ?_)
  refine v_aload_n (pc := 0) hX rfl d_LJ_blend_0 ?_
  refine g_getR (pc := 1) hX fl_LJ_12 rfl rfl nf_2_0 d_LJ_blend_1 ?_
  refine f_callV (pc := 4) hX k_Sp_isMissing ki_Sp_isMissing kv_Sp_isMissing ml_LJ_118 (C_Sp_isMissing hJ) rfl rfl rfl rfl rfl (Nat.le_of_ble_eq_true rfl) (Nat.le_of_ble_eq_true rfl) (Nat.le_of_ble_eq_true rfl) d_LJ_blend_4 ?_
  refine f_ifeqB (pc := 7) (tgt := 13) hX d_LJ_blend_7 rfl (fun h7 => ?_) (fun h7 => False.elim (by rw [decide_eq_false h0] at h7; cases h7))
  refine v_aload_n (pc := 13) hX rfl d_LJ_blend_13 ?_
  refine g_getR (pc := 14) hX fl_LJ_12 rfl rfl nf_2_0 d_LJ_blend_14 ?_
  refine v_iload_n (pc := 17) hX rfl d_LJ_blend_17 ?_
  refine f_callV (pc := 18) hX k_Sp_isBlend ki_Sp_isBlend kv_Sp_isBlend ml_LJ_122 (C_Sp_isBlend hJ) rfl rfl rfl rfl rfl (Nat.le_of_ble_eq_true rfl) (Nat.le_of_ble_eq_true rfl) (Nat.le_of_ble_eq_true rfl) d_LJ_blend_18 ?_
  refine f_ifeqB (pc := 21) (tgt := 33) hX d_LJ_blend_21 rfl (fun h21 => False.elim (by rw [hrg] at h21; cases h21)) (fun h21 => ?_)
  refine v_iload_n (pc := 24) hX rfl d_LJ_blend_24 ?_
  refine v_bipush (pc := 25) (v := 10) hX (by decide) d_LJ_blend_25 ?_
  refine f_callS (pc := 27) hX k_LJ_isBelow ks_LJ_isBelow ml_LJ_65 (C_LJ_isBelow) rfl rfl rfl (Nat.le_of_ble_eq_true rfl) (Nat.le_of_ble_eq_true rfl) (Nat.le_of_ble_eq_true rfl) d_LJ_blend_27 ?_
  rw [show (10 : Int32).toInt - 1 = 9 from rfl]
  refine f_ifneB (pc := 30) (tgt := 36) hX d_LJ_blend_30 rfl (fun h30 => ?_) (fun h30 => False.elim (by rw [hu] at h30; cases h30))
  refine v_aload_n (pc := 36) hX rfl d_LJ_blend_36 ?_
  refine g_getR (pc := 37) hX fl_LJ_12 rfl rfl nf_2_0 d_LJ_blend_37 ?_
  refine v_iload_n (pc := 40) hX rfl d_LJ_blend_40 ?_
  refine v_iload_n (pc := 41) hX rfl d_LJ_blend_41 ?_
  refine f_callV (pc := 42) hX k_Sp_markOf ki_Sp_markOf kv_Sp_markOf ml_LJ_126 (C_Sp_markOf hJ (by assumption)) rfl rfl rfl rfl rfl (Nat.le_of_ble_eq_true rfl) (Nat.le_of_ble_eq_true rfl) (Nat.le_of_ble_eq_true rfl) d_LJ_blend_42 ?_
  exact f_iret (pc := 45) hX hR (rfl) (rfl) d_LJ_blend_45
theorem d_LJ_hold_0 : decode c_LJ_hold 0 = .ok (.aload_n 0, 1) := by decide +kernel
theorem d_LJ_hold_1 : decode c_LJ_hold 1 = .ok (.getfield 12, 3) := by decide +kernel
theorem d_LJ_hold_4 : decode c_LJ_hold 4 = .ok (.invokevirtual 118, 3) := by decide +kernel
theorem d_LJ_hold_7 : decode c_LJ_hold 7 = .ok (.ifCond .eq 6, 3) := by decide +kernel
theorem d_LJ_hold_10 : decode c_LJ_hold 10 = .ok (.bipush (-3), 2) := by decide +kernel
theorem d_LJ_hold_12 : decode c_LJ_hold 12 = .ok (.ireturn, 1) := by decide +kernel
theorem d_LJ_hold_13 : decode c_LJ_hold 13 = .ok (.aload_n 0, 1) := by decide +kernel
theorem d_LJ_hold_14 : decode c_LJ_hold 14 = .ok (.getfield 12, 3) := by decide +kernel
theorem d_LJ_hold_17 : decode c_LJ_hold 17 = .ok (.iload_n 1, 1) := by decide +kernel
theorem d_LJ_hold_18 : decode c_LJ_hold 18 = .ok (.invokevirtual 122, 3) := by decide +kernel
theorem d_LJ_hold_21 : decode c_LJ_hold 21 = .ok (.ifCond .eq 12, 3) := by decide +kernel
theorem d_LJ_hold_24 : decode c_LJ_hold 24 = .ok (.iload_n 2, 1) := by decide +kernel
theorem d_LJ_hold_25 : decode c_LJ_hold 25 = .ok (.bipush 10, 2) := by decide +kernel
theorem d_LJ_hold_27 : decode c_LJ_hold 27 = .ok (.invokestatic 65, 3) := by decide +kernel
theorem d_LJ_hold_30 : decode c_LJ_hold 30 = .ok (.ifCond .ne 6, 3) := by decide +kernel
theorem d_LJ_hold_33 : decode c_LJ_hold 33 = .ok (.bipush (-2), 2) := by decide +kernel
theorem d_LJ_hold_35 : decode c_LJ_hold 35 = .ok (.ireturn, 1) := by decide +kernel
theorem d_LJ_hold_36 : decode c_LJ_hold 36 = .ok (.aload_n 0, 1) := by decide +kernel
theorem d_LJ_hold_37 : decode c_LJ_hold 37 = .ok (.getfield 12, 3) := by decide +kernel
theorem d_LJ_hold_40 : decode c_LJ_hold 40 = .ok (.iload_n 1, 1) := by decide +kernel
theorem d_LJ_hold_41 : decode c_LJ_hold 41 = .ok (.iload_n 2, 1) := by decide +kernel
theorem d_LJ_hold_42 : decode c_LJ_hold 42 = .ok (.invokestatic 130, 3) := by decide +kernel
theorem d_LJ_hold_45 : decode c_LJ_hold 45 = .ok (.ireturn, 1) := by decide +kernel
theorem C_LJ_hold_no {M : MM} {n : Nat} {J : JT} (hJ : CJ M n J) {x u : Int32} (h0 : n = 0) : AF y_LJ_hold c_LJ_hold 3 (some .int) 4 [vR 2, vI x, vI u] (M) (some (vI (-3))) (M) := by
  refine AF.of k_LJ_hold (lo := [some (vR 2), some (vI x), some (vI u)]) rfl (Nat.le_of_ble_eq_true rfl) (fun X hX hR => ?_)
  refine v_aload_n (pc := 0) hX rfl d_LJ_hold_0 ?_
  refine g_getR (pc := 1) hX fl_LJ_12 rfl rfl nf_2_0 d_LJ_hold_1 ?_
  refine f_callV (pc := 4) hX k_Sp_isMissing ki_Sp_isMissing kv_Sp_isMissing ml_LJ_118 (C_Sp_isMissing hJ) rfl rfl rfl rfl rfl (Nat.le_of_ble_eq_true rfl) (Nat.le_of_ble_eq_true rfl) (Nat.le_of_ble_eq_true rfl) d_LJ_hold_4 ?_
  refine f_ifeqB (pc := 7) (tgt := 13) hX d_LJ_hold_7 rfl (fun h7 => False.elim (by rw [decide_eq_true h0] at h7; cases h7)) (fun h7 => ?_)
  refine v_bipush (pc := 10) (v := (-3)) hX (by decide) d_LJ_hold_10 ?_
  exact f_iret (pc := 12) hX hR (rfl) (rfl) d_LJ_hold_12
theorem C_LJ_hold_bad {M : MM} {n : Nat} {J : JT} (hJ : CJ M n J) {x u : Int32} (h0 : ¬ n = 0) (hb : (rg x 1 ((2 ^ n : Nat) - 1) && rg u 0 9) = false) : AF y_LJ_hold c_LJ_hold 3 (some .int) 4 [vR 2, vI x, vI u] (M) (some (vI (-2))) (M) := by
  refine AF.of k_LJ_hold (lo := [some (vR 2), some (vI x), some (vI u)]) rfl (Nat.le_of_ble_eq_true rfl) (fun X hX hR => ?_)
  refine v_aload_n (pc := 0) hX rfl d_LJ_hold_0 ?_
  refine g_getR (pc := 1) hX fl_LJ_12 rfl rfl nf_2_0 d_LJ_hold_1 ?_
  refine f_callV (pc := 4) hX k_Sp_isMissing ki_Sp_isMissing kv_Sp_isMissing ml_LJ_118 (C_Sp_isMissing hJ) rfl rfl rfl rfl rfl (Nat.le_of_ble_eq_true rfl) (Nat.le_of_ble_eq_true rfl) (Nat.le_of_ble_eq_true rfl) d_LJ_hold_4 ?_
  refine f_ifeqB (pc := 7) (tgt := 13) hX d_LJ_hold_7 rfl (fun h7 => ?_) (fun h7 => False.elim (by rw [decide_eq_false h0] at h7; cases h7))
  refine v_aload_n (pc := 13) hX rfl d_LJ_hold_13 ?_
  refine g_getR (pc := 14) hX fl_LJ_12 rfl rfl nf_2_0 d_LJ_hold_14 ?_
  refine v_iload_n (pc := 17) hX rfl d_LJ_hold_17 ?_
  refine f_callV (pc := 18) hX k_Sp_isBlend ki_Sp_isBlend kv_Sp_isBlend ml_LJ_122 (C_Sp_isBlend hJ) rfl rfl rfl rfl rfl (Nat.le_of_ble_eq_true rfl) (Nat.le_of_ble_eq_true rfl) (Nat.le_of_ble_eq_true rfl) d_LJ_hold_18 ?_
  refine f_ifeqB (pc := 21) (tgt := 33) hX d_LJ_hold_21 rfl (fun h21 => ?_) (fun h21 => ?_)
  · refine v_bipush (pc := 33) (v := (-2)) hX (by decide) d_LJ_hold_33 ?_
    exact f_iret (pc := 35) hX hR (rfl) (rfl) d_LJ_hold_35
  · refine v_iload_n (pc := 24) hX rfl d_LJ_hold_24 ?_
    refine v_bipush (pc := 25) (v := 10) hX (by decide) d_LJ_hold_25 ?_
    refine f_callS (pc := 27) hX k_LJ_isBelow ks_LJ_isBelow ml_LJ_65 (C_LJ_isBelow) rfl rfl rfl (Nat.le_of_ble_eq_true rfl) (Nat.le_of_ble_eq_true rfl) (Nat.le_of_ble_eq_true rfl) d_LJ_hold_27 ?_
    rw [show (10 : Int32).toInt - 1 = 9 from rfl]
    refine f_ifneB (pc := 30) (tgt := 36) hX d_LJ_hold_30 rfl (fun h30 => False.elim (by rw [h21, h30] at hb; cases hb)) (fun h30 => ?_)
    refine v_bipush (pc := 33) (v := (-2)) hX (by decide) d_LJ_hold_33 ?_
    exact f_iret (pc := 35) hX hR (rfl) (rfl) d_LJ_hold_35
theorem C_LJ_hold_ok {M : MM} {n : Nat} {J : JT} (hJ : CJ M n J) {s : Nat} {u : Int32} (h0 : ¬ n = 0) (hs0 : 0 < s) (hs : s < 2 ^ n) (hu : rg u 0 9 = true) : AF y_LJ_hold c_LJ_hold 3 (some .int) 4 [vR 2, vI (i3 s), vI u] (M) (some (vI (hmost (fun t => blN J n s (i3 t)) u 10))) (M) := by
  have hp := pow6 hJ.1
  have hs64 : s < 64 := by omega
  have hrg : rg (i3 s) 1 ((2 ^ n : Nat) - 1) = true := rg_true.mpr (by rw [i3_int (by omega)]; omega)
  refine AF.of k_LJ_hold (lo := [some (vR 2), some (vI (i3 s)), some (vI u)]) rfl (Nat.le_of_ble_eq_true rfl) (fun X hX hR => ?_)
  refine v_aload_n (pc := 0) hX rfl d_LJ_hold_0 ?_
  refine g_getR (pc := 1) hX fl_LJ_12 rfl rfl nf_2_0 d_LJ_hold_1 ?_
  refine f_callV (pc := 4) hX k_Sp_isMissing ki_Sp_isMissing kv_Sp_isMissing ml_LJ_118 (C_Sp_isMissing hJ) rfl rfl rfl rfl rfl (Nat.le_of_ble_eq_true rfl) (Nat.le_of_ble_eq_true rfl) (Nat.le_of_ble_eq_true rfl) d_LJ_hold_4 ?_
  refine f_ifeqB (pc := 7) (tgt := 13) hX d_LJ_hold_7 rfl (fun h7 => ?_) (fun h7 => False.elim (by rw [decide_eq_false h0] at h7; cases h7))
  refine v_aload_n (pc := 13) hX rfl d_LJ_hold_13 ?_
  refine g_getR (pc := 14) hX fl_LJ_12 rfl rfl nf_2_0 d_LJ_hold_14 ?_
  refine v_iload_n (pc := 17) hX rfl d_LJ_hold_17 ?_
  refine f_callV (pc := 18) hX k_Sp_isBlend ki_Sp_isBlend kv_Sp_isBlend ml_LJ_122 (C_Sp_isBlend hJ) rfl rfl rfl rfl rfl (Nat.le_of_ble_eq_true rfl) (Nat.le_of_ble_eq_true rfl) (Nat.le_of_ble_eq_true rfl) d_LJ_hold_18 ?_
  refine f_ifeqB (pc := 21) (tgt := 33) hX d_LJ_hold_21 rfl (fun h21 => False.elim (by rw [hrg] at h21; cases h21)) (fun h21 => ?_)
  refine v_iload_n (pc := 24) hX rfl d_LJ_hold_24 ?_
  refine v_bipush (pc := 25) (v := 10) hX (by decide) d_LJ_hold_25 ?_
  refine f_callS (pc := 27) hX k_LJ_isBelow ks_LJ_isBelow ml_LJ_65 (C_LJ_isBelow) rfl rfl rfl (Nat.le_of_ble_eq_true rfl) (Nat.le_of_ble_eq_true rfl) (Nat.le_of_ble_eq_true rfl) d_LJ_hold_27 ?_
  rw [show (10 : Int32).toInt - 1 = 9 from rfl]
  refine f_ifneB (pc := 30) (tgt := 36) hX d_LJ_hold_30 rfl (fun h30 => ?_) (fun h30 => False.elim (by rw [hu] at h30; cases h30))
  refine v_aload_n (pc := 36) hX rfl d_LJ_hold_36 ?_
  refine g_getR (pc := 37) hX fl_LJ_12 rfl rfl nf_2_0 d_LJ_hold_37 ?_
  refine v_iload_n (pc := 40) hX rfl d_LJ_hold_40 ?_
  refine v_iload_n (pc := 41) hX rfl d_LJ_hold_41 ?_
  refine f_callS (pc := 42) hX k_Bl_longest ks_Bl_longest ml_LJ_130 (C_Bl_longest hJ (by assumption)) rfl rfl rfl (Nat.le_of_ble_eq_true rfl) (Nat.le_of_ble_eq_true rfl) (Nat.le_of_ble_eq_true rfl) d_LJ_hold_42 ?_
  exact f_iret (pc := 45) hX hR (rfl) (rfl) d_LJ_hold_45
theorem d_LJ_sell_0 : decode c_LJ_sell 0 = .ok (.aload_n 0, 1) := by decide +kernel
theorem d_LJ_sell_1 : decode c_LJ_sell 1 = .ok (.getfield 12, 3) := by decide +kernel
theorem d_LJ_sell_4 : decode c_LJ_sell 4 = .ok (.iload_n 1, 1) := by decide +kernel
theorem d_LJ_sell_5 : decode c_LJ_sell 5 = .ok (.invokevirtual 101, 3) := by decide +kernel
theorem d_LJ_sell_8 : decode c_LJ_sell 8 = .ok (.astore_n 3, 1) := by decide +kernel
theorem d_LJ_sell_9 : decode c_LJ_sell 9 = .ok (.aload_n 0, 1) := by decide +kernel
theorem d_LJ_sell_10 : decode c_LJ_sell 10 = .ok (.getfield 12, 3) := by decide +kernel
theorem d_LJ_sell_13 : decode c_LJ_sell 13 = .ok (.iload_n 2, 1) := by decide +kernel
theorem d_LJ_sell_14 : decode c_LJ_sell 14 = .ok (.invokevirtual 92, 3) := by decide +kernel
theorem d_LJ_sell_17 : decode c_LJ_sell 17 = .ok (.astore 4, 2) := by decide +kernel
theorem d_LJ_sell_19 : decode c_LJ_sell 19 = .ok (.aload_n 3, 1) := by decide +kernel
theorem d_LJ_sell_20 : decode c_LJ_sell 20 = .ok (.ifnull 8, 3) := by decide +kernel
theorem d_LJ_sell_23 : decode c_LJ_sell 23 = .ok (.aload 4, 2) := by decide +kernel
theorem d_LJ_sell_25 : decode c_LJ_sell 25 = .ok (.ifnonnull 5, 3) := by decide +kernel
theorem d_LJ_sell_28 : decode c_LJ_sell 28 = .ok (.iconst (-1), 1) := by decide +kernel
theorem d_LJ_sell_29 : decode c_LJ_sell 29 = .ok (.ireturn, 1) := by decide +kernel
theorem d_LJ_sell_30 : decode c_LJ_sell 30 = .ok (.aload 4, 2) := by decide +kernel
theorem d_LJ_sell_32 : decode c_LJ_sell 32 = .ok (.getfield 136, 3) := by decide +kernel
theorem d_LJ_sell_35 : decode c_LJ_sell 35 = .ok (.iconst 1, 1) := by decide +kernel
theorem d_LJ_sell_36 : decode c_LJ_sell 36 = .ok (.if_icmp .lt 15, 3) := by decide +kernel
theorem d_LJ_sell_39 : decode c_LJ_sell 39 = .ok (.aload 4, 2) := by decide +kernel
theorem d_LJ_sell_41 : decode c_LJ_sell 41 = .ok (.getfield 139, 3) := by decide +kernel
theorem d_LJ_sell_44 : decode c_LJ_sell 44 = .ok (.aload_n 3, 1) := by decide +kernel
theorem d_LJ_sell_45 : decode c_LJ_sell 45 = .ok (.getfield 142, 3) := by decide +kernel
theorem d_LJ_sell_48 : decode c_LJ_sell 48 = .ok (.if_icmp .le 6, 3) := by decide +kernel
theorem d_LJ_sell_51 : decode c_LJ_sell 51 = .ok (.bipush (-3), 2) := by decide +kernel
theorem d_LJ_sell_53 : decode c_LJ_sell 53 = .ok (.ireturn, 1) := by decide +kernel
theorem d_LJ_sell_54 : decode c_LJ_sell 54 = .ok (.aload 4, 2) := by decide +kernel
theorem d_LJ_sell_56 : decode c_LJ_sell 56 = .ok (.dup, 1) := by decide +kernel
theorem d_LJ_sell_57 : decode c_LJ_sell 57 = .ok (.getfield 136, 3) := by decide +kernel
theorem d_LJ_sell_60 : decode c_LJ_sell 60 = .ok (.iconst 1, 1) := by decide +kernel
theorem d_LJ_sell_61 : decode c_LJ_sell 61 = .ok (.isub, 1) := by decide +kernel
theorem d_LJ_sell_62 : decode c_LJ_sell 62 = .ok (.putfield 136, 3) := by decide +kernel
theorem d_LJ_sell_65 : decode c_LJ_sell 65 = .ok (.aload_n 3, 1) := by decide +kernel
theorem d_LJ_sell_66 : decode c_LJ_sell 66 = .ok (.dup, 1) := by decide +kernel
theorem d_LJ_sell_67 : decode c_LJ_sell 67 = .ok (.getfield 142, 3) := by decide +kernel
theorem d_LJ_sell_70 : decode c_LJ_sell 70 = .ok (.aload 4, 2) := by decide +kernel
theorem d_LJ_sell_72 : decode c_LJ_sell 72 = .ok (.getfield 139, 3) := by decide +kernel
theorem d_LJ_sell_75 : decode c_LJ_sell 75 = .ok (.isub, 1) := by decide +kernel
theorem d_LJ_sell_76 : decode c_LJ_sell 76 = .ok (.putfield 142, 3) := by decide +kernel
theorem d_LJ_sell_79 : decode c_LJ_sell 79 = .ok (.aload_n 3, 1) := by decide +kernel
theorem d_LJ_sell_80 : decode c_LJ_sell 80 = .ok (.aload 4, 2) := by decide +kernel
theorem d_LJ_sell_82 : decode c_LJ_sell 82 = .ok (.invokevirtual 145, 3) := by decide +kernel
theorem d_LJ_sell_85 : decode c_LJ_sell 85 = .ok (.ifCond .ne 5, 3) := by decide +kernel
theorem d_LJ_sell_88 : decode c_LJ_sell 88 = .ok (.iconst 0, 1) := by decide +kernel
theorem d_LJ_sell_89 : decode c_LJ_sell 89 = .ok (.ireturn, 1) := by decide +kernel
theorem d_LJ_sell_90 : decode c_LJ_sell 90 = .ok (.aload_n 3, 1) := by decide +kernel
theorem d_LJ_sell_91 : decode c_LJ_sell 91 = .ok (.dup, 1) := by decide +kernel
theorem d_LJ_sell_92 : decode c_LJ_sell 92 = .ok (.getfield 149, 3) := by decide +kernel
theorem d_LJ_sell_95 : decode c_LJ_sell 95 = .ok (.iconst 1, 1) := by decide +kernel
theorem d_LJ_sell_96 : decode c_LJ_sell 96 = .ok (.iadd, 1) := by decide +kernel
theorem d_LJ_sell_97 : decode c_LJ_sell 97 = .ok (.putfield 149, 3) := by decide +kernel
theorem d_LJ_sell_100 : decode c_LJ_sell 100 = .ok (.iconst 1, 1) := by decide +kernel
theorem d_LJ_sell_101 : decode c_LJ_sell 101 = .ok (.ireturn, 1) := by decide +kernel
theorem C_LJ_sell_o1 {M : MM} {n nd : Nat} {J B : JT} (hJ : CJ M n J) (hB : CB M nd B) {x y : Int32} (hx : rg x 0 ((nd : Int) - 1) = false) : AF y_LJ_sell c_LJ_sell 5 (some .int) 3 [vR 2, vI x, vI y] (M) (some (vI (-1))) (M) := by
  refine AF.of k_LJ_sell (lo := [some (vR 2), some (vI x), some (vI y), none, none]) rfl (Nat.le_of_ble_eq_true rfl) (fun X hX hR => ?_)
  refine v_aload_n (pc := 0) hX rfl d_LJ_sell_0 ?_
  refine g_getR (pc := 1) hX fl_LJ_12 rfl rfl nf_2_0 d_LJ_sell_1 ?_
  refine v_iload_n (pc := 4) hX rfl d_LJ_sell_4 ?_
  refine f_callV (pc := 5) hX k_Sp_deciderAt ki_Sp_deciderAt kv_Sp_deciderAt ml_LJ_101 (C_Sp_deciderAt_out hB.1 hB.2.1 hx) rfl rfl rfl rfl rfl (Nat.le_of_ble_eq_true rfl) (Nat.le_of_ble_eq_true rfl) (Nat.le_of_ble_eq_true rfl) d_LJ_sell_5 ?_
  refine v_astore_n (pc := 8) (lo' := [some (vR _), some (vI _), some (vI _), some (vR _), none]) hX (Nat.le_of_ble_eq_true rfl) rfl d_LJ_sell_8 ?_
  refine v_aload_n (pc := 9) hX rfl d_LJ_sell_9 ?_
  refine g_getR (pc := 10) hX fl_LJ_12 rfl rfl nf_2_0 d_LJ_sell_10 ?_
  refine v_iload_n (pc := 13) hX rfl d_LJ_sell_13 ?_
  refine f_callV (pc := 14) hX k_Sp_jarAt ki_Sp_jarAt kv_Sp_jarAt ml_LJ_92 (C_Sp_jarAt_any hJ.1 hJ.2.1) rfl rfl rfl rfl rfl (Nat.le_of_ble_eq_true rfl) (Nat.le_of_ble_eq_true rfl) (Nat.le_of_ble_eq_true rfl) d_LJ_sell_14 ?_
  refine v_astore (pc := 17) (lo' := [some (vR _), some (vI _), some (vI _), some (vR _), some (vR _)]) hX (Nat.le_of_ble_eq_true rfl) rfl d_LJ_sell_17 ?_
  refine v_aload_n (pc := 19) hX rfl d_LJ_sell_19 ?_
  refine v_ifnull (pc := 20) (tgt := 28) hX d_LJ_sell_20 rfl (fun h20 => ?_) (fun h20 => False.elim (by revert h20; decide))
  refine v_iconst (pc := 28) (v := (-1)) hX (by decide) d_LJ_sell_28 ?_
  exact f_iret (pc := 29) hX hR (rfl) (rfl) d_LJ_sell_29
theorem C_LJ_sell_o2 {M : MM} {n nd : Nat} {J B : JT} (hJ : CJ M n J) (hB : CB M nd B) {b : Nat} {y : Int32} (hb : b < nd) (hy : rg y 0 ((n : Int) - 1) = false) : AF y_LJ_sell c_LJ_sell 5 (some .int) 3 [vR 2, vI (i3 b), vI y] (M) (some (vI (-1))) (M) := by
  have h4 := hB.1
  have hsd := sh_dec b (by omega)
  refine AF.of k_LJ_sell (lo := [some (vR 2), some (vI (i3 b)), some (vI y), none, none]) rfl (Nat.le_of_ble_eq_true rfl) (fun X hX hR => ?_)
  refine v_aload_n (pc := 0) hX rfl d_LJ_sell_0 ?_
  refine g_getR (pc := 1) hX fl_LJ_12 rfl rfl nf_2_0 d_LJ_sell_1 ?_
  refine v_iload_n (pc := 4) hX rfl d_LJ_sell_4 ?_
  refine f_callV (pc := 5) hX k_Sp_deciderAt ki_Sp_deciderAt kv_Sp_deciderAt ml_LJ_101 (C_Sp_deciderAt_in hB.1 hB.2.1 hb) rfl rfl rfl rfl rfl (Nat.le_of_ble_eq_true rfl) (Nat.le_of_ble_eq_true rfl) (Nat.le_of_ble_eq_true rfl) d_LJ_sell_5 ?_
  refine v_astore_n (pc := 8) (lo' := [some (vR _), some (vI _), some (vI _), some (vR _), none]) hX (Nat.le_of_ble_eq_true rfl) rfl d_LJ_sell_8 ?_
  refine v_aload_n (pc := 9) hX rfl d_LJ_sell_9 ?_
  refine g_getR (pc := 10) hX fl_LJ_12 rfl rfl nf_2_0 d_LJ_sell_10 ?_
  refine v_iload_n (pc := 13) hX rfl d_LJ_sell_13 ?_
  refine f_callV (pc := 14) hX k_Sp_jarAt ki_Sp_jarAt kv_Sp_jarAt ml_LJ_92 (C_Sp_jarAt_out hJ.1 hJ.2.1 hy) rfl rfl rfl rfl rfl (Nat.le_of_ble_eq_true rfl) (Nat.le_of_ble_eq_true rfl) (Nat.le_of_ble_eq_true rfl) d_LJ_sell_14 ?_
  refine v_astore (pc := 17) (lo' := [some (vR _), some (vI _), some (vI _), some (vR _), some (vR _)]) hX (Nat.le_of_ble_eq_true rfl) rfl d_LJ_sell_17 ?_
  refine v_aload_n (pc := 19) hX rfl d_LJ_sell_19 ?_
  refine v_ifnull (pc := 20) (tgt := 28) hX d_LJ_sell_20 rfl (fun h20 => False.elim (by have := sh_two (by assumption); omega)) (fun h20 => ?_)
  refine v_aload (pc := 23) hX rfl d_LJ_sell_23 ?_
  refine v_ifnonnull (pc := 25) (tgt := 30) hX d_LJ_sell_25 rfl (fun h25 => False.elim (by revert h25; decide)) (fun h25 => ?_)
  refine v_iconst (pc := 28) (v := (-1)) hX (by decide) d_LJ_sell_28 ?_
  exact f_iret (pc := 29) hX hR (rfl) (rfl) d_LJ_sell_29
theorem C_LJ_sell_st {M : MM} {n nd : Nat} {J B : JT} (hJ : CJ M n J) (hB : CB M nd B) {b j : Nat} (hb : b < nd) (hj : j < n) (hc : ¬ (0 < J j 3 ∧ J j 4 ≤ B b 2)) : AF y_LJ_sell c_LJ_sell 5 (some .int) 3 [vR 2, vI (i3 b), vI (i3 j)] (M) (some (vI (-3))) (M) := by
  have h4 := hB.1
  have h6 := hJ.1
  have hsd := sh_dec b (by omega)
  have hsj := sh_jar j (by omega)
  refine AF.of k_LJ_sell (lo := [some (vR 2), some (vI (i3 b)), some (vI (i3 j)), none, none]) rfl (Nat.le_of_ble_eq_true rfl) (fun X hX hR => ?_)
  refine v_aload_n (pc := 0) hX rfl d_LJ_sell_0 ?_
  refine g_getR (pc := 1) hX fl_LJ_12 rfl rfl nf_2_0 d_LJ_sell_1 ?_
  refine v_iload_n (pc := 4) hX rfl d_LJ_sell_4 ?_
  refine f_callV (pc := 5) hX k_Sp_deciderAt ki_Sp_deciderAt kv_Sp_deciderAt ml_LJ_101 (C_Sp_deciderAt_in hB.1 hB.2.1 hb) rfl rfl rfl rfl rfl (Nat.le_of_ble_eq_true rfl) (Nat.le_of_ble_eq_true rfl) (Nat.le_of_ble_eq_true rfl) d_LJ_sell_5 ?_
  refine v_astore_n (pc := 8) (lo' := [some (vR _), some (vI _), some (vI _), some (vR _), none]) hX (Nat.le_of_ble_eq_true rfl) rfl d_LJ_sell_8 ?_
  refine v_aload_n (pc := 9) hX rfl d_LJ_sell_9 ?_
  refine g_getR (pc := 10) hX fl_LJ_12 rfl rfl nf_2_0 d_LJ_sell_10 ?_
  refine v_iload_n (pc := 13) hX rfl d_LJ_sell_13 ?_
  refine f_callV (pc := 14) hX k_Sp_jarAt ki_Sp_jarAt kv_Sp_jarAt ml_LJ_92 (C_Sp_jarAt_in hJ.1 hJ.2.1 hj) rfl rfl rfl rfl rfl (Nat.le_of_ble_eq_true rfl) (Nat.le_of_ble_eq_true rfl) (Nat.le_of_ble_eq_true rfl) d_LJ_sell_14 ?_
  refine v_astore (pc := 17) (lo' := [some (vR _), some (vI _), some (vI _), some (vR _), some (vR _)]) hX (Nat.le_of_ble_eq_true rfl) rfl d_LJ_sell_17 ?_
  refine v_aload_n (pc := 19) hX rfl d_LJ_sell_19 ?_
  refine v_ifnull (pc := 20) (tgt := 28) hX d_LJ_sell_20 rfl (fun h20 => False.elim (by have := sh_two (by assumption); omega)) (fun h20 => ?_)
  refine v_aload (pc := 23) hX rfl d_LJ_sell_23 ?_
  refine v_ifnonnull (pc := 25) (tgt := 30) hX d_LJ_sell_25 rfl (fun h25 => ?_) (fun h25 => False.elim (by have := sh_two (by assumption); omega))
  refine v_aload (pc := 30) hX rfl d_LJ_sell_30 ?_
  refine g_getI (pc := 32) hX fl_LJ_136 rfl (by assumption) d_LJ_sell_32 ?_
  rw [hJ.2.2 j hj 3 (by decide)]
  refine v_iconst (pc := 35) (v := 1) hX (by decide) d_LJ_sell_35 ?_
  refine v_icmp_lt (pc := 36) (tgt := 51) hX d_LJ_sell_36 rfl (fun h36 => ?_) (fun h36 => ?_)
  · refine v_bipush (pc := 51) (v := (-3)) hX (by decide) d_LJ_sell_51 ?_
    exact f_iret (pc := 53) hX hR (rfl) (rfl) d_LJ_sell_53
  · refine v_aload (pc := 39) hX rfl d_LJ_sell_39 ?_
    refine g_getI (pc := 41) hX fl_LJ_139 rfl (by assumption) d_LJ_sell_41 ?_
    rw [hJ.2.2 j hj 4 (by decide)]
    refine v_aload_n (pc := 44) hX rfl d_LJ_sell_44 ?_
    refine g_getI (pc := 45) hX fl_LJ_142 rfl (by assumption) d_LJ_sell_45 ?_
    rw [hB.2.2 b hb 2 (by decide)]
    refine v_icmp_le (pc := 48) (tgt := 54) hX d_LJ_sell_48 rfl (fun h48 => False.elim (hc ⟨by simp only [lt32, q_0, q_1] at h36 ⊢; omega, h48⟩)) (fun h48 => ?_)
    refine v_bipush (pc := 51) (v := (-3)) hX (by decide) d_LJ_sell_51 ?_
    exact f_iret (pc := 53) hX hR (rfl) (rfl) d_LJ_sell_53
theorem C_LJ_sell_n {M : MM} {n nd : Nat} {J B : JT} (hJ : CJ M n J) (hB : CB M nd B) {b j : Nat} (hb : b < nd) (hj : j < n) (hc : 0 < J j 3 ∧ J j 4 ≤ B b 2) (hd : dkB J B j b = false) : AF y_LJ_sell c_LJ_sell 5 (some .int) 3 [vR 2, vI (i3 b), vI (i3 j)] (M) (some (vI 0)) (upM (upM M (6 + j) 3 (J j 3 - 1)) (12 + b) 2 (B b 2 - J j 4)) := by
  have h4 := hB.1
  have h6 := hJ.1
  have hsd := sh_dec b (by omega)
  have hsj := sh_jar j (by omega)
  refine AF.of k_LJ_sell (lo := [some (vR 2), some (vI (i3 b)), some (vI (i3 j)), none, none]) rfl (Nat.le_of_ble_eq_true rfl) (fun X hX hR => ?_)
  refine v_aload_n (pc := 0) hX rfl d_LJ_sell_0 ?_
  refine g_getR (pc := 1) hX fl_LJ_12 rfl rfl nf_2_0 d_LJ_sell_1 ?_
  refine v_iload_n (pc := 4) hX rfl d_LJ_sell_4 ?_
  refine f_callV (pc := 5) hX k_Sp_deciderAt ki_Sp_deciderAt kv_Sp_deciderAt ml_LJ_101 (C_Sp_deciderAt_in hB.1 hB.2.1 hb) rfl rfl rfl rfl rfl (Nat.le_of_ble_eq_true rfl) (Nat.le_of_ble_eq_true rfl) (Nat.le_of_ble_eq_true rfl) d_LJ_sell_5 ?_
  refine v_astore_n (pc := 8) (lo' := [some (vR _), some (vI _), some (vI _), some (vR _), none]) hX (Nat.le_of_ble_eq_true rfl) rfl d_LJ_sell_8 ?_
  refine v_aload_n (pc := 9) hX rfl d_LJ_sell_9 ?_
  refine g_getR (pc := 10) hX fl_LJ_12 rfl rfl nf_2_0 d_LJ_sell_10 ?_
  refine v_iload_n (pc := 13) hX rfl d_LJ_sell_13 ?_
  refine f_callV (pc := 14) hX k_Sp_jarAt ki_Sp_jarAt kv_Sp_jarAt ml_LJ_92 (C_Sp_jarAt_in hJ.1 hJ.2.1 hj) rfl rfl rfl rfl rfl (Nat.le_of_ble_eq_true rfl) (Nat.le_of_ble_eq_true rfl) (Nat.le_of_ble_eq_true rfl) d_LJ_sell_14 ?_
  refine v_astore (pc := 17) (lo' := [some (vR _), some (vI _), some (vI _), some (vR _), some (vR _)]) hX (Nat.le_of_ble_eq_true rfl) rfl d_LJ_sell_17 ?_
  refine v_aload_n (pc := 19) hX rfl d_LJ_sell_19 ?_
  refine v_ifnull (pc := 20) (tgt := 28) hX d_LJ_sell_20 rfl (fun h20 => False.elim (by have := sh_two (by assumption); omega)) (fun h20 => ?_)
  refine v_aload (pc := 23) hX rfl d_LJ_sell_23 ?_
  refine v_ifnonnull (pc := 25) (tgt := 30) hX d_LJ_sell_25 rfl (fun h25 => ?_) (fun h25 => False.elim (by have := sh_two (by assumption); omega))
  refine v_aload (pc := 30) hX rfl d_LJ_sell_30 ?_
  refine g_getI (pc := 32) hX fl_LJ_136 rfl (by assumption) d_LJ_sell_32 ?_
  rw [hJ.2.2 j hj 3 (by decide)]
  refine v_iconst (pc := 35) (v := 1) hX (by decide) d_LJ_sell_35 ?_
  refine v_icmp_lt (pc := 36) (tgt := 51) hX d_LJ_sell_36 rfl (fun h36 => False.elim (by have := hc.1; simp only [lt32, q_0, q_1] at h36 this; omega)) (fun h36 => ?_)
  refine v_aload (pc := 39) hX rfl d_LJ_sell_39 ?_
  refine g_getI (pc := 41) hX fl_LJ_139 rfl (by assumption) d_LJ_sell_41 ?_
  rw [hJ.2.2 j hj 4 (by decide)]
  refine v_aload_n (pc := 44) hX rfl d_LJ_sell_44 ?_
  refine g_getI (pc := 45) hX fl_LJ_142 rfl (by assumption) d_LJ_sell_45 ?_
  rw [hB.2.2 b hb 2 (by decide)]
  refine v_icmp_le (pc := 48) (tgt := 54) hX d_LJ_sell_48 rfl (fun h48 => ?_) (fun h48 => False.elim (h48 hc.2))
  refine v_aload (pc := 54) hX rfl d_LJ_sell_54 ?_
  refine v_dup (pc := 56) hX rfl d_LJ_sell_56 ?_
  refine g_getI (pc := 57) hX fl_LJ_136 rfl (by assumption) d_LJ_sell_57 ?_
  rw [hJ.2.2 j hj 3 (by decide)]
  refine v_iconst (pc := 60) (v := 1) hX (by decide) d_LJ_sell_60 ?_
  refine v_isub (pc := 61) hX d_LJ_sell_61 ?_
  refine g_putI (pc := 62) hX fl_LJ_136 rfl (finI rfl rfl) (by assumption) rfl rfl d_LJ_sell_62 ?_
  refine v_aload_n (pc := 65) hX rfl d_LJ_sell_65 ?_
  refine v_dup (pc := 66) hX rfl d_LJ_sell_66 ?_
  refine g_getI (pc := 67) hX fl_LJ_142 rfl (by assumption) d_LJ_sell_67 ?_
  rw [upM_ne (by omega), hB.2.2 b hb 2 (by decide)]
  refine v_aload (pc := 70) hX rfl d_LJ_sell_70 ?_
  refine g_getI (pc := 72) hX fl_LJ_139 rfl (by assumption) d_LJ_sell_72 ?_
  rw [upM_ne (by omega), hJ.2.2 j hj 4 (by decide)]
  refine v_isub (pc := 75) hX d_LJ_sell_75 ?_
  refine g_putI (pc := 76) hX fl_LJ_142 rfl (finI rfl rfl) (by assumption) rfl rfl d_LJ_sell_76 ?_
  refine v_aload_n (pc := 79) hX rfl d_LJ_sell_79 ?_
  refine v_aload (pc := 80) hX rfl d_LJ_sell_80 ?_
  refine f_callV (pc := 82) hX k_De_decidesBy ki_De_decidesBy kv_De_decidesBy ml_LJ_145 (C_De_decidesBy (by assumption) (by assumption)) (by assumption) rfl rfl rfl rfl (Nat.le_of_ble_eq_true rfl) (Nat.le_of_ble_eq_true rfl) (Nat.le_of_ble_eq_true rfl) d_LJ_sell_82 ?_
  rw [show mkM _ _ _ _ = mk J j (B b 1) from by rw [upM_ne (by omega), upM_ne (by omega), upM_ne (by omega), upM_ne (by omega), upM_ne (by omega), upM_ne (by omega), upM_ne (by omega), upM_ne (by omega), hJ.mk hj, hB.2.2 b hb 1 (by decide)], upM_ne (by omega), upM_ne (by omega), hB.2.2 b hb 0 (by decide)]
  refine f_ifneB (pc := 85) (tgt := 90) hX d_LJ_sell_85 rfl (fun h85 => False.elim (by rw [show decide (B b 0 ≤ mk J j (B b 1)) = false from hd] at h85; cases h85)) (fun h85 => ?_)
  refine v_iconst (pc := 88) (v := 0) hX (by decide) d_LJ_sell_88 ?_
  exact f_iret (pc := 89) hX hR (rfl) (rfl) d_LJ_sell_89
theorem C_LJ_sell_y {M : MM} {n nd : Nat} {J B : JT} (hJ : CJ M n J) (hB : CB M nd B) {b j : Nat} (hb : b < nd) (hj : j < n) (hc : 0 < J j 3 ∧ J j 4 ≤ B b 2) (hd : dkB J B j b = true) : AF y_LJ_sell c_LJ_sell 5 (some .int) 3 [vR 2, vI (i3 b), vI (i3 j)] (M) (some (vI 1)) (upM (upM (upM M (6 + j) 3 (J j 3 - 1)) (12 + b) 2 (B b 2 - J j 4)) (12 + b) 3 (B b 3 + 1)) := by
  have h4 := hB.1
  have h6 := hJ.1
  have hsd := sh_dec b (by omega)
  have hsj := sh_jar j (by omega)
  refine AF.of k_LJ_sell (lo := [some (vR 2), some (vI (i3 b)), some (vI (i3 j)), none, none]) rfl (Nat.le_of_ble_eq_true rfl) (fun X hX hR => ?_)
  refine v_aload_n (pc := 0) hX rfl d_LJ_sell_0 ?_
  refine g_getR (pc := 1) hX fl_LJ_12 rfl rfl nf_2_0 d_LJ_sell_1 ?_
  refine v_iload_n (pc := 4) hX rfl d_LJ_sell_4 ?_
  refine f_callV (pc := 5) hX k_Sp_deciderAt ki_Sp_deciderAt kv_Sp_deciderAt ml_LJ_101 (C_Sp_deciderAt_in hB.1 hB.2.1 hb) rfl rfl rfl rfl rfl (Nat.le_of_ble_eq_true rfl) (Nat.le_of_ble_eq_true rfl) (Nat.le_of_ble_eq_true rfl) d_LJ_sell_5 ?_
  refine v_astore_n (pc := 8) (lo' := [some (vR _), some (vI _), some (vI _), some (vR _), none]) hX (Nat.le_of_ble_eq_true rfl) rfl d_LJ_sell_8 ?_
  refine v_aload_n (pc := 9) hX rfl d_LJ_sell_9 ?_
  refine g_getR (pc := 10) hX fl_LJ_12 rfl rfl nf_2_0 d_LJ_sell_10 ?_
  refine v_iload_n (pc := 13) hX rfl d_LJ_sell_13 ?_
  refine f_callV (pc := 14) hX k_Sp_jarAt ki_Sp_jarAt kv_Sp_jarAt ml_LJ_92 (C_Sp_jarAt_in hJ.1 hJ.2.1 hj) rfl rfl rfl rfl rfl (Nat.le_of_ble_eq_true rfl) (Nat.le_of_ble_eq_true rfl) (Nat.le_of_ble_eq_true rfl) d_LJ_sell_14 ?_
  refine v_astore (pc := 17) (lo' := [some (vR _), some (vI _), some (vI _), some (vR _), some (vR _)]) hX (Nat.le_of_ble_eq_true rfl) rfl d_LJ_sell_17 ?_
  refine v_aload_n (pc := 19) hX rfl d_LJ_sell_19 ?_
  refine v_ifnull (pc := 20) (tgt := 28) hX d_LJ_sell_20 rfl (fun h20 => False.elim (by have := sh_two (by assumption); omega)) (fun h20 => ?_)
  refine v_aload (pc := 23) hX rfl d_LJ_sell_23 ?_
  refine v_ifnonnull (pc := 25) (tgt := 30) hX d_LJ_sell_25 rfl (fun h25 => ?_) (fun h25 => False.elim (by have := sh_two (by assumption); omega))
  refine v_aload (pc := 30) hX rfl d_LJ_sell_30 ?_
  refine g_getI (pc := 32) hX fl_LJ_136 rfl (by assumption) d_LJ_sell_32 ?_
  rw [hJ.2.2 j hj 3 (by decide)]
  refine v_iconst (pc := 35) (v := 1) hX (by decide) d_LJ_sell_35 ?_
  refine v_icmp_lt (pc := 36) (tgt := 51) hX d_LJ_sell_36 rfl (fun h36 => False.elim (by have := hc.1; simp only [lt32, q_0, q_1] at h36 this; omega)) (fun h36 => ?_)
  refine v_aload (pc := 39) hX rfl d_LJ_sell_39 ?_
  refine g_getI (pc := 41) hX fl_LJ_139 rfl (by assumption) d_LJ_sell_41 ?_
  rw [hJ.2.2 j hj 4 (by decide)]
  refine v_aload_n (pc := 44) hX rfl d_LJ_sell_44 ?_
  refine g_getI (pc := 45) hX fl_LJ_142 rfl (by assumption) d_LJ_sell_45 ?_
  rw [hB.2.2 b hb 2 (by decide)]
  refine v_icmp_le (pc := 48) (tgt := 54) hX d_LJ_sell_48 rfl (fun h48 => ?_) (fun h48 => False.elim (h48 hc.2))
  refine v_aload (pc := 54) hX rfl d_LJ_sell_54 ?_
  refine v_dup (pc := 56) hX rfl d_LJ_sell_56 ?_
  refine g_getI (pc := 57) hX fl_LJ_136 rfl (by assumption) d_LJ_sell_57 ?_
  rw [hJ.2.2 j hj 3 (by decide)]
  refine v_iconst (pc := 60) (v := 1) hX (by decide) d_LJ_sell_60 ?_
  refine v_isub (pc := 61) hX d_LJ_sell_61 ?_
  refine g_putI (pc := 62) hX fl_LJ_136 rfl (finI rfl rfl) (by assumption) rfl rfl d_LJ_sell_62 ?_
  refine v_aload_n (pc := 65) hX rfl d_LJ_sell_65 ?_
  refine v_dup (pc := 66) hX rfl d_LJ_sell_66 ?_
  refine g_getI (pc := 67) hX fl_LJ_142 rfl (by assumption) d_LJ_sell_67 ?_
  rw [upM_ne (by omega), hB.2.2 b hb 2 (by decide)]
  refine v_aload (pc := 70) hX rfl d_LJ_sell_70 ?_
  refine g_getI (pc := 72) hX fl_LJ_139 rfl (by assumption) d_LJ_sell_72 ?_
  rw [upM_ne (by omega), hJ.2.2 j hj 4 (by decide)]
  refine v_isub (pc := 75) hX d_LJ_sell_75 ?_
  refine g_putI (pc := 76) hX fl_LJ_142 rfl (finI rfl rfl) (by assumption) rfl rfl d_LJ_sell_76 ?_
  refine v_aload_n (pc := 79) hX rfl d_LJ_sell_79 ?_
  refine v_aload (pc := 80) hX rfl d_LJ_sell_80 ?_
  refine f_callV (pc := 82) hX k_De_decidesBy ki_De_decidesBy kv_De_decidesBy ml_LJ_145 (C_De_decidesBy (by assumption) (by assumption)) (by assumption) rfl rfl rfl rfl (Nat.le_of_ble_eq_true rfl) (Nat.le_of_ble_eq_true rfl) (Nat.le_of_ble_eq_true rfl) d_LJ_sell_82 ?_
  rw [show mkM _ _ _ _ = mk J j (B b 1) from by rw [upM_ne (by omega), upM_ne (by omega), upM_ne (by omega), upM_ne (by omega), upM_ne (by omega), upM_ne (by omega), upM_ne (by omega), upM_ne (by omega), hJ.mk hj, hB.2.2 b hb 1 (by decide)], upM_ne (by omega), upM_ne (by omega), hB.2.2 b hb 0 (by decide)]
  refine f_ifneB (pc := 85) (tgt := 90) hX d_LJ_sell_85 rfl (fun h85 => ?_) (fun h85 => False.elim (by rw [show decide (B b 0 ≤ mk J j (B b 1)) = true from hd] at h85; cases h85))
  refine v_aload_n (pc := 90) hX rfl d_LJ_sell_90 ?_
  refine v_dup (pc := 91) hX rfl d_LJ_sell_91 ?_
  refine g_getI (pc := 92) hX fl_LJ_149 rfl (by assumption) d_LJ_sell_92 ?_
  rw [upM_ne (by omega), upM_ne (by omega), hB.2.2 b hb 3 (by decide)]
  refine v_iconst (pc := 95) (v := 1) hX (by decide) d_LJ_sell_95 ?_
  refine v_iadd (pc := 96) hX d_LJ_sell_96 ?_
  refine g_putI (pc := 97) hX fl_LJ_149 rfl (finI rfl rfl) (by assumption) rfl rfl d_LJ_sell_97 ?_
  refine v_iconst (pc := 100) (v := 1) hX (by decide) d_LJ_sell_100 ?_
  exact f_iret (pc := 101) hX hR (rfl) (rfl) d_LJ_sell_101
theorem d_LJ_mix_0 : decode c_LJ_mix 0 = .ok (.aload_n 0, 1) := by decide +kernel
theorem d_LJ_mix_1 : decode c_LJ_mix 1 = .ok (.getfield 12, 3) := by decide +kernel
theorem d_LJ_mix_4 : decode c_LJ_mix 4 = .ok (.iload_n 1, 1) := by decide +kernel
theorem d_LJ_mix_5 : decode c_LJ_mix 5 = .ok (.invokevirtual 101, 3) := by decide +kernel
theorem d_LJ_mix_8 : decode c_LJ_mix 8 = .ok (.astore_n 3, 1) := by decide +kernel
theorem d_LJ_mix_9 : decode c_LJ_mix 9 = .ok (.aload_n 3, 1) := by decide +kernel
theorem d_LJ_mix_10 : decode c_LJ_mix 10 = .ok (.ifnonnull 5, 3) := by decide +kernel
theorem d_LJ_mix_13 : decode c_LJ_mix 13 = .ok (.iconst (-1), 1) := by decide +kernel
theorem d_LJ_mix_14 : decode c_LJ_mix 14 = .ok (.ireturn, 1) := by decide +kernel
theorem d_LJ_mix_15 : decode c_LJ_mix 15 = .ok (.iload_n 2, 1) := by decide +kernel
theorem d_LJ_mix_16 : decode c_LJ_mix 16 = .ok (.iconst 2, 1) := by decide +kernel
theorem d_LJ_mix_17 : decode c_LJ_mix 17 = .ok (.invokestatic 65, 3) := by decide +kernel
theorem d_LJ_mix_20 : decode c_LJ_mix 20 = .ok (.ifCond .ne 6, 3) := by decide +kernel
theorem d_LJ_mix_23 : decode c_LJ_mix 23 = .ok (.bipush (-2), 2) := by decide +kernel
theorem d_LJ_mix_25 : decode c_LJ_mix 25 = .ok (.ireturn, 1) := by decide +kernel
theorem d_LJ_mix_26 : decode c_LJ_mix 26 = .ok (.aload_n 0, 1) := by decide +kernel
theorem d_LJ_mix_27 : decode c_LJ_mix 27 = .ok (.getfield 12, 3) := by decide +kernel
theorem d_LJ_mix_30 : decode c_LJ_mix 30 = .ok (.aload_n 3, 1) := by decide +kernel
theorem d_LJ_mix_31 : decode c_LJ_mix 31 = .ok (.invokestatic 167, 3) := by decide +kernel
theorem d_LJ_mix_34 : decode c_LJ_mix 34 = .ok (.istore 4, 2) := by decide +kernel
theorem d_LJ_mix_36 : decode c_LJ_mix 36 = .ok (.iload 4, 2) := by decide +kernel
theorem d_LJ_mix_38 : decode c_LJ_mix 38 = .ok (.bipush (-9), 2) := by decide +kernel
theorem d_LJ_mix_40 : decode c_LJ_mix 40 = .ok (.if_icmp .eq 8, 3) := by decide +kernel
theorem d_LJ_mix_43 : decode c_LJ_mix 43 = .ok (.iload_n 2, 1) := by decide +kernel
theorem d_LJ_mix_44 : decode c_LJ_mix 44 = .ok (.iconst 1, 1) := by decide +kernel
theorem d_LJ_mix_45 : decode c_LJ_mix 45 = .ok (.if_icmp .ne 8, 3) := by decide +kernel
theorem d_LJ_mix_48 : decode c_LJ_mix 48 = .ok (.iload 4, 2) := by decide +kernel
theorem d_LJ_mix_50 : decode c_LJ_mix 50 = .ok (.goto 12, 3) := by decide +kernel
theorem d_LJ_mix_53 : decode c_LJ_mix 53 = .ok (.aload_n 0, 1) := by decide +kernel
theorem d_LJ_mix_54 : decode c_LJ_mix 54 = .ok (.getfield 12, 3) := by decide +kernel
theorem d_LJ_mix_57 : decode c_LJ_mix 57 = .ok (.iload 4, 2) := by decide +kernel
theorem d_LJ_mix_59 : decode c_LJ_mix 59 = .ok (.invokevirtual 171, 3) := by decide +kernel
theorem d_LJ_mix_62 : decode c_LJ_mix 62 = .ok (.ireturn, 1) := by decide +kernel
theorem C_LJ_mix_out {M : MM} {n : Nat} {B : JT} {x : Int32} (hB : CB M n B) (hx : rg x 0 ((n : Int) - 1) = false) {u : Int32} : AF y_LJ_mix c_LJ_mix 5 (some .int) 5 [vR 2, vI x, vI u] (M) (some (vI (-1))) (M) := by
  refine AF.of k_LJ_mix (lo := [some (vR 2), some (vI x), some (vI u), none, none]) rfl (Nat.le_of_ble_eq_true rfl) (fun X hX hR => ?_)
  refine v_aload_n (pc := 0) hX rfl d_LJ_mix_0 ?_
  refine g_getR (pc := 1) hX fl_LJ_12 rfl rfl nf_2_0 d_LJ_mix_1 ?_
  refine v_iload_n (pc := 4) hX rfl d_LJ_mix_4 ?_
  refine f_callV (pc := 5) hX k_Sp_deciderAt ki_Sp_deciderAt kv_Sp_deciderAt ml_LJ_101 (C_Sp_deciderAt_out hB.1 hB.2.1 hx) rfl rfl rfl rfl rfl (Nat.le_of_ble_eq_true rfl) (Nat.le_of_ble_eq_true rfl) (Nat.le_of_ble_eq_true rfl) d_LJ_mix_5 ?_
  refine v_astore_n (pc := 8) (lo' := [some (vR _), some (vI _), some (vI _), some (vR _), none]) hX (Nat.le_of_ble_eq_true rfl) rfl d_LJ_mix_8 ?_
  refine v_aload_n (pc := 9) hX rfl d_LJ_mix_9 ?_
  refine v_ifnonnull (pc := 10) (tgt := 15) hX d_LJ_mix_10 rfl (fun h10 => False.elim (by revert h10; decide)) (fun h10 => ?_)
  refine v_iconst (pc := 13) (v := (-1)) hX (by decide) d_LJ_mix_13 ?_
  exact f_iret (pc := 14) hX hR (rfl) (rfl) d_LJ_mix_14
theorem C_LJ_mix_bad {M : MM} {n nd b : Nat} {J B : JT} {u : Int32} (hJ : CJ M n J) (hB : CB M nd B) (hb : b < nd) (hu : rg u 0 1 = false) : AF y_LJ_mix c_LJ_mix 5 (some .int) 5 [vR 2, vI (i3 b), vI u] (M) (some (vI (-2))) (M) := by
  have h4 := hB.1
  have hp := pow6 hJ.1
  have hsd := sh_dec b (by omega)
  refine AF.of k_LJ_mix (lo := [some (vR 2), some (vI (i3 b)), some (vI u), none, none]) rfl (Nat.le_of_ble_eq_true rfl) (fun X hX hR => ?_)
  refine v_aload_n (pc := 0) hX rfl d_LJ_mix_0 ?_
  refine g_getR (pc := 1) hX fl_LJ_12 rfl rfl nf_2_0 d_LJ_mix_1 ?_
  refine v_iload_n (pc := 4) hX rfl d_LJ_mix_4 ?_
  refine f_callV (pc := 5) hX k_Sp_deciderAt ki_Sp_deciderAt kv_Sp_deciderAt ml_LJ_101 (C_Sp_deciderAt_in hB.1 hB.2.1 hb) rfl rfl rfl rfl rfl (Nat.le_of_ble_eq_true rfl) (Nat.le_of_ble_eq_true rfl) (Nat.le_of_ble_eq_true rfl) d_LJ_mix_5 ?_
  refine v_astore_n (pc := 8) (lo' := [some (vR _), some (vI _), some (vI _), some (vR _), none]) hX (Nat.le_of_ble_eq_true rfl) rfl d_LJ_mix_8 ?_
  refine v_aload_n (pc := 9) hX rfl d_LJ_mix_9 ?_
  refine v_ifnonnull (pc := 10) (tgt := 15) hX d_LJ_mix_10 rfl (fun h10 => ?_) (fun h10 => False.elim (by have := sh_two (by assumption); omega))
  refine v_iload_n (pc := 15) hX rfl d_LJ_mix_15 ?_
  refine v_iconst (pc := 16) (v := 2) hX (by decide) d_LJ_mix_16 ?_
  refine f_callS (pc := 17) hX k_LJ_isBelow ks_LJ_isBelow ml_LJ_65 (C_LJ_isBelow) rfl rfl rfl (Nat.le_of_ble_eq_true rfl) (Nat.le_of_ble_eq_true rfl) (Nat.le_of_ble_eq_true rfl) d_LJ_mix_17 ?_
  rw [show (2 : Int32).toInt - 1 = 1 from rfl]
  refine f_ifneB (pc := 20) (tgt := 26) hX d_LJ_mix_20 rfl (fun h20 => False.elim (by rw [hu] at h20; cases h20)) (fun h20 => ?_)
  refine v_bipush (pc := 23) (v := (-2)) hX (by decide) d_LJ_mix_23 ?_
  exact f_iret (pc := 25) hX hR (rfl) (rfl) d_LJ_mix_25
theorem C_LJ_mix_ok {M : MM} {n nd b : Nat} {J B : JT} {u : Int32} (hJ : CJ M n J) (hB : CB M nd B) (hb : b < nd) (hu : rg u 0 1 = true) : AF y_LJ_mix c_LJ_mix 5 (some .int) 5 [vR 2, vI (i3 b), vI u] (M) (some (vI (if (ch J (B b 0) (B b 1) (B b 2) n (stN J n) (2 ^ n - 1)) = 0 then -9 else if u = 0 then pcB J (ch J (B b 0) (B b 1) (B b 2) n (stN J n) (2 ^ n - 1)) n else i3 (ch J (B b 0) (B b 1) (B b 2) n (stN J n) (2 ^ n - 1))))) (M) := by
  have h4 := hB.1
  have hp := pow6 hJ.1
  have hsd := sh_dec b (by omega)
  have hl := ch_le J (B b 0) (B b 1) (B b 2) n (stN J n) (2 ^ n - 1)
  have h64 : (ch J (B b 0) (B b 1) (B b 2) n (stN J n) (2 ^ n - 1)) < 64 := by omega
  have hu2 := rg_true.mp hu
  refine AF.of k_LJ_mix (lo := [some (vR 2), some (vI (i3 b)), some (vI u), none, none]) rfl (Nat.le_of_ble_eq_true rfl) (fun X hX hR => ?_)
  refine v_aload_n (pc := 0) hX rfl d_LJ_mix_0 ?_
  refine g_getR (pc := 1) hX fl_LJ_12 rfl rfl nf_2_0 d_LJ_mix_1 ?_
  refine v_iload_n (pc := 4) hX rfl d_LJ_mix_4 ?_
  refine f_callV (pc := 5) hX k_Sp_deciderAt ki_Sp_deciderAt kv_Sp_deciderAt ml_LJ_101 (C_Sp_deciderAt_in hB.1 hB.2.1 hb) rfl rfl rfl rfl rfl (Nat.le_of_ble_eq_true rfl) (Nat.le_of_ble_eq_true rfl) (Nat.le_of_ble_eq_true rfl) d_LJ_mix_5 ?_
  refine v_astore_n (pc := 8) (lo' := [some (vR _), some (vI _), some (vI _), some (vR _), none]) hX (Nat.le_of_ble_eq_true rfl) rfl d_LJ_mix_8 ?_
  refine v_aload_n (pc := 9) hX rfl d_LJ_mix_9 ?_
  refine v_ifnonnull (pc := 10) (tgt := 15) hX d_LJ_mix_10 rfl (fun h10 => ?_) (fun h10 => False.elim (by have := sh_two (by assumption); omega))
  refine v_iload_n (pc := 15) hX rfl d_LJ_mix_15 ?_
  refine v_iconst (pc := 16) (v := 2) hX (by decide) d_LJ_mix_16 ?_
  refine f_callS (pc := 17) hX k_LJ_isBelow ks_LJ_isBelow ml_LJ_65 (C_LJ_isBelow) rfl rfl rfl (Nat.le_of_ble_eq_true rfl) (Nat.le_of_ble_eq_true rfl) (Nat.le_of_ble_eq_true rfl) d_LJ_mix_17 ?_
  rw [show (2 : Int32).toInt - 1 = 1 from rfl]
  refine f_ifneB (pc := 20) (tgt := 26) hX d_LJ_mix_20 rfl (fun h20 => ?_) (fun h20 => False.elim (by rw [hu] at h20; cases h20))
  refine v_aload_n (pc := 26) hX rfl d_LJ_mix_26 ?_
  refine g_getR (pc := 27) hX fl_LJ_12 rfl rfl nf_2_0 d_LJ_mix_27 ?_
  refine v_aload_n (pc := 30) hX rfl d_LJ_mix_30 ?_
  refine f_callS (pc := 31) hX k_Bl_cheapest ks_Bl_cheapest ml_LJ_167 (C_Bl_cheapest hJ (by assumption)) rfl rfl rfl (Nat.le_of_ble_eq_true rfl) (Nat.le_of_ble_eq_true rfl) (Nat.le_of_ble_eq_true rfl) d_LJ_mix_31 ?_
  rw [hB.2.2 b hb 0 (by decide), hB.2.2 b hb 1 (by decide), hB.2.2 b hb 2 (by decide)]
  refine v_istore (pc := 34) (lo' := [some (vR _), some (vI _), some (vI _), some (vR _), some (vI _)]) hX (Nat.le_of_ble_eq_true rfl) rfl d_LJ_mix_34 ?_
  refine v_iload (pc := 36) hX rfl d_LJ_mix_36 ?_
  refine v_bipush (pc := 38) (v := (-9)) hX (by decide) d_LJ_mix_38 ?_
  refine v_icmp_eq (pc := 40) (tgt := 48) hX d_LJ_mix_40 rfl (fun h40 => ?_) (fun h40 => ?_)
  · have e0 := (en_none h64).mp h40
    refine v_iload (pc := 48) hX rfl d_LJ_mix_48 ?_
    refine v_goto (pc := 50) (tgt := 62) hX d_LJ_mix_50 rfl ?_
    exact f_iret (pc := 62) hX hR (by first | (rw [if_pos e0, e0]; rfl) | (rw [if_neg e0, if_neg (by simp only [eq32, q_0, q_1] at *; omega), en_p e0]) | (rw [if_neg e0, if_pos (by simp only [eq32, q_0, q_1] at *; omega)])) (rfl) d_LJ_mix_62
  · have e0 : ¬ (ch J (B b 0) (B b 1) (B b 2) n (stN J n) (2 ^ n - 1)) = 0 := fun w => h40 ((en_none h64).mpr w)
    refine v_iload_n (pc := 43) hX rfl d_LJ_mix_43 ?_
    refine v_iconst (pc := 44) (v := 1) hX (by decide) d_LJ_mix_44 ?_
    refine v_icmp_ne (pc := 45) (tgt := 53) hX d_LJ_mix_45 rfl (fun h45 => ?_) (fun h45 => ?_)
    · refine v_aload_n (pc := 53) hX rfl d_LJ_mix_53 ?_
      refine g_getR (pc := 54) hX fl_LJ_12 rfl rfl nf_2_0 d_LJ_mix_54 ?_
      refine v_iload (pc := 57) hX rfl d_LJ_mix_57 ?_
      rw [en_p e0]
      refine f_callV (pc := 59) hX k_Sp_penceOf ki_Sp_penceOf kv_Sp_penceOf ml_LJ_171 (C_Sp_penceOf hJ h64) rfl rfl rfl rfl rfl (Nat.le_of_ble_eq_true rfl) (Nat.le_of_ble_eq_true rfl) (Nat.le_of_ble_eq_true rfl) d_LJ_mix_59 ?_
      exact f_iret (pc := 62) hX hR (by first | (rw [if_pos e0, e0]; rfl) | (rw [if_neg e0, if_neg (by simp only [eq32, q_0, q_1] at *; omega), en_p e0]) | (rw [if_neg e0, if_pos (by simp only [eq32, q_0, q_1] at *; omega)])) (rfl) d_LJ_mix_62
    · refine v_iload (pc := 48) hX rfl d_LJ_mix_48 ?_
      refine v_goto (pc := 50) (tgt := 62) hX d_LJ_mix_50 rfl ?_
      exact f_iret (pc := 62) hX hR (by first | (rw [if_pos e0, e0]; rfl) | (rw [if_neg e0, if_neg (by simp only [eq32, q_0, q_1] at *; omega), en_p e0]) | (rw [if_neg e0, if_pos (by simp only [eq32, q_0, q_1] at *; omega)])) (rfl) d_LJ_mix_62
theorem d_LJ_like_0 : decode c_LJ_like 0 = .ok (.aload_n 0, 1) := by decide +kernel
theorem d_LJ_like_1 : decode c_LJ_like 1 = .ok (.getfield 12, 3) := by decide +kernel
theorem d_LJ_like_4 : decode c_LJ_like 4 = .ok (.iload_n 1, 1) := by decide +kernel
theorem d_LJ_like_5 : decode c_LJ_like 5 = .ok (.invokevirtual 92, 3) := by decide +kernel
theorem d_LJ_like_8 : decode c_LJ_like 8 = .ok (.ifnonnull 5, 3) := by decide +kernel
theorem d_LJ_like_11 : decode c_LJ_like 11 = .ok (.iconst (-1), 1) := by decide +kernel
theorem d_LJ_like_12 : decode c_LJ_like 12 = .ok (.ireturn, 1) := by decide +kernel
theorem d_LJ_like_13 : decode c_LJ_like 13 = .ok (.aload_n 0, 1) := by decide +kernel
theorem d_LJ_like_14 : decode c_LJ_like 14 = .ok (.getfield 12, 3) := by decide +kernel
theorem d_LJ_like_17 : decode c_LJ_like 17 = .ok (.iload_n 1, 1) := by decide +kernel
theorem d_LJ_like_18 : decode c_LJ_like 18 = .ok (.invokestatic 174, 3) := by decide +kernel
theorem d_LJ_like_21 : decode c_LJ_like 21 = .ok (.ireturn, 1) := by decide +kernel
theorem C_LJ_like_out {M : MM} {n : Nat} {J : JT} {x : Int32} (hJ : CJ M n J) (hx : rg x 0 ((n : Int) - 1) = false) : AF y_LJ_like c_LJ_like 2 (some .int) 5 [vR 2, vI x] (M) (some (vI (-1))) (M) := by
  refine AF.of k_LJ_like (lo := [some (vR 2), some (vI x)]) rfl (Nat.le_of_ble_eq_true rfl) (fun X hX hR => ?_)
  refine v_aload_n (pc := 0) hX rfl d_LJ_like_0 ?_
  refine g_getR (pc := 1) hX fl_LJ_12 rfl rfl nf_2_0 d_LJ_like_1 ?_
  refine v_iload_n (pc := 4) hX rfl d_LJ_like_4 ?_
  refine f_callV (pc := 5) hX k_Sp_jarAt ki_Sp_jarAt kv_Sp_jarAt ml_LJ_92 (C_Sp_jarAt_out hJ.1 hJ.2.1 hx) rfl rfl rfl rfl rfl (Nat.le_of_ble_eq_true rfl) (Nat.le_of_ble_eq_true rfl) (Nat.le_of_ble_eq_true rfl) d_LJ_like_5 ?_
  refine v_ifnonnull (pc := 8) (tgt := 13) hX d_LJ_like_8 rfl (fun h8 => False.elim (by revert h8; decide)) (fun h8 => ?_)
  refine v_iconst (pc := 11) (v := (-1)) hX (by decide) d_LJ_like_11 ?_
  exact f_iret (pc := 12) hX hR (rfl) (rfl) d_LJ_like_12
theorem C_LJ_like_in {M : MM} {n j : Nat} {J : JT} (hJ : CJ M n J) (hj : j < n) : AF y_LJ_like c_LJ_like 2 (some .int) 5 [vR 2, vI (i3 j)] (M) (some (vI (en (al J n j (2 ^ n - 1))))) (M) := by
  have h6 := hJ.1
  have hsj := sh_jar j (by omega)
  refine AF.of k_LJ_like (lo := [some (vR 2), some (vI (i3 j))]) rfl (Nat.le_of_ble_eq_true rfl) (fun X hX hR => ?_)
  refine v_aload_n (pc := 0) hX rfl d_LJ_like_0 ?_
  refine g_getR (pc := 1) hX fl_LJ_12 rfl rfl nf_2_0 d_LJ_like_1 ?_
  refine v_iload_n (pc := 4) hX rfl d_LJ_like_4 ?_
  refine f_callV (pc := 5) hX k_Sp_jarAt ki_Sp_jarAt kv_Sp_jarAt ml_LJ_92 (C_Sp_jarAt_in hJ.1 hJ.2.1 hj) rfl rfl rfl rfl rfl (Nat.le_of_ble_eq_true rfl) (Nat.le_of_ble_eq_true rfl) (Nat.le_of_ble_eq_true rfl) d_LJ_like_5 ?_
  refine v_ifnonnull (pc := 8) (tgt := 13) hX d_LJ_like_8 rfl (fun h8 => ?_) (fun h8 => False.elim (by have := sh_two (by assumption); omega))
  refine v_aload_n (pc := 13) hX rfl d_LJ_like_13 ?_
  refine g_getR (pc := 14) hX fl_LJ_12 rfl rfl nf_2_0 d_LJ_like_14 ?_
  refine v_iload_n (pc := 17) hX rfl d_LJ_like_17 ?_
  refine f_callS (pc := 18) hX k_Bl_alike ks_Bl_alike ml_LJ_174 (C_Bl_alike hJ (by assumption)) rfl rfl rfl (Nat.le_of_ble_eq_true rfl) (Nat.le_of_ble_eq_true rfl) (Nat.le_of_ble_eq_true rfl) d_LJ_like_18 ?_
  exact f_iret (pc := 21) hX hR (rfl) (rfl) d_LJ_like_21
theorem d_LJ_serve_0 : decode c_LJ_serve 0 = .ok (.iload_n 1, 1) := by decide +kernel
theorem d_LJ_serve_1 : decode c_LJ_serve 1 = .ok (.iconst (-1), 1) := by decide +kernel
theorem d_LJ_serve_2 : decode c_LJ_serve 2 = .ok (.if_icmp .lt 8, 3) := by decide +kernel
theorem d_LJ_serve_5 : decode c_LJ_serve 5 = .ok (.iload_n 1, 1) := by decide +kernel
theorem d_LJ_serve_6 : decode c_LJ_serve 6 = .ok (.iconst 4, 1) := by decide +kernel
theorem d_LJ_serve_7 : decode c_LJ_serve 7 = .ok (.if_icmp .lt 6, 3) := by decide +kernel
theorem d_LJ_serve_10 : decode c_LJ_serve 10 = .ok (.bipush (-2), 2) := by decide +kernel
theorem d_LJ_serve_12 : decode c_LJ_serve 12 = .ok (.ireturn, 1) := by decide +kernel
theorem d_LJ_serve_13 : decode c_LJ_serve 13 = .ok (.aload_n 0, 1) := by decide +kernel
theorem d_LJ_serve_14 : decode c_LJ_serve 14 = .ok (.getfield 12, 3) := by decide +kernel
theorem d_LJ_serve_17 : decode c_LJ_serve 17 = .ok (.invokevirtual 118, 3) := by decide +kernel
theorem d_LJ_serve_20 : decode c_LJ_serve 20 = .ok (.ifCond .eq 6, 3) := by decide +kernel
theorem d_LJ_serve_23 : decode c_LJ_serve 23 = .ok (.bipush (-3), 2) := by decide +kernel
theorem d_LJ_serve_25 : decode c_LJ_serve 25 = .ok (.ireturn, 1) := by decide +kernel
theorem d_LJ_serve_26 : decode c_LJ_serve 26 = .ok (.iload_n 1, 1) := by decide +kernel
theorem d_LJ_serve_27 : decode c_LJ_serve 27 = .ok (.iconst (-1), 1) := by decide +kernel
theorem d_LJ_serve_28 : decode c_LJ_serve 28 = .ok (.if_icmp .ne 15, 3) := by decide +kernel
theorem d_LJ_serve_31 : decode c_LJ_serve 31 = .ok (.aload_n 0, 1) := by decide +kernel
theorem d_LJ_serve_32 : decode c_LJ_serve 32 = .ok (.getfield 28, 3) := by decide +kernel
theorem d_LJ_serve_35 : decode c_LJ_serve 35 = .ok (.aload_n 0, 1) := by decide +kernel
theorem d_LJ_serve_36 : decode c_LJ_serve 36 = .ok (.getfield 12, 3) := by decide +kernel
theorem d_LJ_serve_39 : decode c_LJ_serve 39 = .ok (.invokevirtual 189, 3) := by decide +kernel
theorem d_LJ_serve_42 : decode c_LJ_serve 42 = .ok (.ireturn, 1) := by decide +kernel
theorem d_LJ_serve_43 : decode c_LJ_serve 43 = .ok (.aload_n 0, 1) := by decide +kernel
theorem d_LJ_serve_44 : decode c_LJ_serve 44 = .ok (.getfield 28, 3) := by decide +kernel
theorem d_LJ_serve_47 : decode c_LJ_serve 47 = .ok (.aload_n 0, 1) := by decide +kernel
theorem d_LJ_serve_48 : decode c_LJ_serve 48 = .ok (.getfield 12, 3) := by decide +kernel
theorem d_LJ_serve_51 : decode c_LJ_serve 51 = .ok (.invokevirtual 193, 3) := by decide +kernel
theorem d_LJ_serve_54 : decode c_LJ_serve 54 = .ok (.aload_n 0, 1) := by decide +kernel
theorem d_LJ_serve_55 : decode c_LJ_serve 55 = .ok (.getfield 28, 3) := by decide +kernel
theorem d_LJ_serve_58 : decode c_LJ_serve 58 = .ok (.aload_n 0, 1) := by decide +kernel
theorem d_LJ_serve_59 : decode c_LJ_serve 59 = .ok (.getfield 12, 3) := by decide +kernel
theorem d_LJ_serve_62 : decode c_LJ_serve 62 = .ok (.iload_n 1, 1) := by decide +kernel
theorem d_LJ_serve_63 : decode c_LJ_serve 63 = .ok (.invokevirtual 197, 3) := by decide +kernel
theorem d_LJ_serve_66 : decode c_LJ_serve 66 = .ok (.ireturn, 1) := by decide +kernel
theorem C_LJ_serve_bad {M : MM} {x : Int32} (hx : rg x (-1) 3 = false) : AF y_LJ_serve c_LJ_serve 2 (some .int) 15 [vR 2, vI x] (M) (some (vI (-2))) (M) := by
  refine AF.of k_LJ_serve (lo := [some (vR 2), some (vI x)]) rfl (Nat.le_of_ble_eq_true rfl) (fun X hX hR => ?_)
  refine v_iload_n (pc := 0) hX rfl d_LJ_serve_0 ?_
  refine v_iconst (pc := 1) (v := (-1)) hX (by decide) d_LJ_serve_1 ?_
  refine v_icmp_lt (pc := 2) (tgt := 10) hX d_LJ_serve_2 rfl (fun h2 => ?_) (fun h2 => ?_)
  · refine v_bipush (pc := 10) (v := (-2)) hX (by decide) d_LJ_serve_10 ?_
    exact f_iret (pc := 12) hX hR (rfl) (rfl) d_LJ_serve_12
  · refine v_iload_n (pc := 5) hX rfl d_LJ_serve_5 ?_
    refine v_iconst (pc := 6) (v := 4) hX (by decide) d_LJ_serve_6 ?_
    refine v_icmp_lt (pc := 7) (tgt := 13) hX d_LJ_serve_7 rfl (fun h7 => False.elim (absurd (rg_true.mpr (show (-1 : Int) ≤ x.toInt ∧ x.toInt ≤ 3 by simp only [lt32, q_m1, q_4] at *; omega)) (by rw [hx]; decide))) (fun h7 => ?_)
    refine v_bipush (pc := 10) (v := (-2)) hX (by decide) d_LJ_serve_10 ?_
    exact f_iret (pc := 12) hX hR (rfl) (rfl) d_LJ_serve_12
theorem C_LJ_serve_no {M : MM} {n : Nat} {J : JT} (hJ : CJ M n J) {x : Int32} (hx : rg x (-1) 3 = true) (h0 : n = 0) : AF y_LJ_serve c_LJ_serve 2 (some .int) 15 [vR 2, vI x] (M) (some (vI (-3))) (M) := by
  have hx2 := rg_true.mp hx
  refine AF.of k_LJ_serve (lo := [some (vR 2), some (vI x)]) rfl (Nat.le_of_ble_eq_true rfl) (fun X hX hR => ?_)
  refine v_iload_n (pc := 0) hX rfl d_LJ_serve_0 ?_
  refine v_iconst (pc := 1) (v := (-1)) hX (by decide) d_LJ_serve_1 ?_
  refine v_icmp_lt (pc := 2) (tgt := 10) hX d_LJ_serve_2 rfl (fun h2 => False.elim (by simp only [lt32, q_m1] at h2; omega)) (fun h2 => ?_)
  refine v_iload_n (pc := 5) hX rfl d_LJ_serve_5 ?_
  refine v_iconst (pc := 6) (v := 4) hX (by decide) d_LJ_serve_6 ?_
  refine v_icmp_lt (pc := 7) (tgt := 13) hX d_LJ_serve_7 rfl (fun h7 => ?_) (fun h7 => False.elim (h7 (by simp only [lt32, q_4]; omega)))
  refine v_aload_n (pc := 13) hX rfl d_LJ_serve_13 ?_
  refine g_getR (pc := 14) hX fl_LJ_12 rfl rfl nf_2_0 d_LJ_serve_14 ?_
  refine f_callV (pc := 17) hX k_Sp_isMissing ki_Sp_isMissing kv_Sp_isMissing ml_LJ_118 (C_Sp_isMissing hJ) rfl rfl rfl rfl rfl (Nat.le_of_ble_eq_true rfl) (Nat.le_of_ble_eq_true rfl) (Nat.le_of_ble_eq_true rfl) d_LJ_serve_17 ?_
  refine f_ifeqB (pc := 20) (tgt := 26) hX d_LJ_serve_20 rfl (fun h20 => False.elim (by rw [decide_eq_true h0] at h20; cases h20)) (fun h20 => ?_)
  refine v_bipush (pc := 23) (v := (-3)) hX (by decide) d_LJ_serve_23 ?_
  exact f_iret (pc := 25) hX hR (rfl) (rfl) d_LJ_serve_25
theorem C_LJ_serve_all {M : MM} {n nd : Nat} {J B : JT} {hv : Nat → Nat} (hJ : CJ M n J) (hB : CB M nd B) (hH : HV n J hv) (h0 : ¬ n = 0) : AF y_LJ_serve c_LJ_serve 2 (some .int) 15 [vR 2, vI (-1)] (M) (some (vI (i3 (mostN (okB J B) n nd nd hv)))) (bgM M 6) := by
  refine AF.of k_LJ_serve (lo := [some (vR 2), some (vI (-1))]) rfl (Nat.le_of_ble_eq_true rfl) (fun X hX hR => ?_)
  refine v_iload_n (pc := 0) hX rfl d_LJ_serve_0 ?_
  refine v_iconst (pc := 1) (v := (-1)) hX (by decide) d_LJ_serve_1 ?_
  refine v_icmp_lt (pc := 2) (tgt := 10) hX d_LJ_serve_2 rfl (fun h2 => False.elim (by revert h2; decide)) (fun h2 => ?_)
  refine v_iload_n (pc := 5) hX rfl d_LJ_serve_5 ?_
  refine v_iconst (pc := 6) (v := 4) hX (by decide) d_LJ_serve_6 ?_
  refine v_icmp_lt (pc := 7) (tgt := 13) hX d_LJ_serve_7 rfl (fun h7 => ?_) (fun h7 => False.elim (by revert h7; decide))
  refine v_aload_n (pc := 13) hX rfl d_LJ_serve_13 ?_
  refine g_getR (pc := 14) hX fl_LJ_12 rfl rfl nf_2_0 d_LJ_serve_14 ?_
  refine f_callV (pc := 17) hX k_Sp_isMissing ki_Sp_isMissing kv_Sp_isMissing ml_LJ_118 (C_Sp_isMissing hJ) rfl rfl rfl rfl rfl (Nat.le_of_ble_eq_true rfl) (Nat.le_of_ble_eq_true rfl) (Nat.le_of_ble_eq_true rfl) d_LJ_serve_17 ?_
  refine f_ifeqB (pc := 20) (tgt := 26) hX d_LJ_serve_20 rfl (fun h20 => ?_) (fun h20 => False.elim (by rw [decide_eq_false h0] at h20; cases h20))
  refine v_iload_n (pc := 26) hX rfl d_LJ_serve_26 ?_
  refine v_iconst (pc := 27) (v := (-1)) hX (by decide) d_LJ_serve_27 ?_
  refine v_icmp_ne (pc := 28) (tgt := 43) hX d_LJ_serve_28 rfl (fun h28 => False.elim (by revert h28; decide)) (fun h28 => ?_)
  refine v_aload_n (pc := 31) hX rfl d_LJ_serve_31 ?_
  refine g_getR (pc := 32) hX fl_LJ_28 rfl rfl nf_2_2 d_LJ_serve_32 ?_
  refine v_aload_n (pc := 35) hX rfl d_LJ_serve_35 ?_
  refine g_getR (pc := 36) hX fl_LJ_12 rfl rfl nf_2_0 d_LJ_serve_36 ?_
  refine f_callV (pc := 39) hX k_Se_howMany ki_Se_howMany kv_Se_howMany ml_LJ_189 (C_Se_howMany hJ hB hH) rfl rfl rfl rfl rfl (Nat.le_of_ble_eq_true rfl) (Nat.le_of_ble_eq_true rfl) (Nat.le_of_ble_eq_true rfl) d_LJ_serve_39 ?_
  exact f_iret (pc := 42) hX hR (rfl) (rfl) d_LJ_serve_42
theorem C_LJ_serve_in {M : MM} {n nd : Nat} {J B : JT} {hv : Nat → Nat} (hJ : CJ M n J) (hB : CB M nd B) (hH : HV n J hv) {k : Nat} (h0 : ¬ n = 0) (hk : k < nd) (hk4 : k < 4) : AF y_LJ_serve c_LJ_serve 2 (some .int) 15 [vR 2, vI (i3 k)] (M) (some (vI (ec n (cho J B n nd hv k)))) (KM J B n nd hv M nd) := by
  have hx2 := i3_int (k := k) (by omega)
  refine AF.of k_LJ_serve (lo := [some (vR 2), some (vI (i3 k))]) rfl (Nat.le_of_ble_eq_true rfl) (fun X hX hR => ?_)
  refine v_iload_n (pc := 0) hX rfl d_LJ_serve_0 ?_
  refine v_iconst (pc := 1) (v := (-1)) hX (by decide) d_LJ_serve_1 ?_
  refine v_icmp_lt (pc := 2) (tgt := 10) hX d_LJ_serve_2 rfl (fun h2 => False.elim (by simp only [lt32, q_m1, hx2] at h2; omega)) (fun h2 => ?_)
  refine v_iload_n (pc := 5) hX rfl d_LJ_serve_5 ?_
  refine v_iconst (pc := 6) (v := 4) hX (by decide) d_LJ_serve_6 ?_
  refine v_icmp_lt (pc := 7) (tgt := 13) hX d_LJ_serve_7 rfl (fun h7 => ?_) (fun h7 => False.elim (h7 (by simp only [lt32, q_4, hx2]; omega)))
  refine v_aload_n (pc := 13) hX rfl d_LJ_serve_13 ?_
  refine g_getR (pc := 14) hX fl_LJ_12 rfl rfl nf_2_0 d_LJ_serve_14 ?_
  refine f_callV (pc := 17) hX k_Sp_isMissing ki_Sp_isMissing kv_Sp_isMissing ml_LJ_118 (C_Sp_isMissing hJ) rfl rfl rfl rfl rfl (Nat.le_of_ble_eq_true rfl) (Nat.le_of_ble_eq_true rfl) (Nat.le_of_ble_eq_true rfl) d_LJ_serve_17 ?_
  refine f_ifeqB (pc := 20) (tgt := 26) hX d_LJ_serve_20 rfl (fun h20 => ?_) (fun h20 => False.elim (by rw [decide_eq_false h0] at h20; cases h20))
  refine v_iload_n (pc := 26) hX rfl d_LJ_serve_26 ?_
  refine v_iconst (pc := 27) (v := (-1)) hX (by decide) d_LJ_serve_27 ?_
  refine v_icmp_ne (pc := 28) (tgt := 43) hX d_LJ_serve_28 rfl (fun h28 => ?_) (fun h28 => False.elim (by simp only [eq32, q_m1, hx2] at h28; omega))
  refine v_aload_n (pc := 43) hX rfl d_LJ_serve_43 ?_
  refine g_getR (pc := 44) hX fl_LJ_28 rfl rfl nf_2_2 d_LJ_serve_44 ?_
  refine v_aload_n (pc := 47) hX rfl d_LJ_serve_47 ?_
  refine g_getR (pc := 48) hX fl_LJ_12 rfl rfl nf_2_0 d_LJ_serve_48 ?_
  refine f_callV0 (pc := 51) hX k_Se_choose ki_Se_choose kv_Se_choose ml_LJ_193 (C_Se_choose hJ hB hH) rfl rfl rfl rfl rfl (Nat.le_of_ble_eq_true rfl) (Nat.le_of_ble_eq_true rfl) (Nat.le_of_ble_eq_true rfl) d_LJ_serve_51 ?_
  refine v_aload_n (pc := 54) hX rfl d_LJ_serve_54 ?_
  refine g_getR (pc := 55) hX fl_LJ_28 rfl rfl nf_2_2 d_LJ_serve_55 ?_
  refine v_aload_n (pc := 58) hX rfl d_LJ_serve_58 ?_
  refine g_getR (pc := 59) hX fl_LJ_12 rfl rfl nf_2_0 d_LJ_serve_59 ?_
  refine v_iload_n (pc := 62) hX rfl d_LJ_serve_62 ?_
  refine f_callV (pc := 63) hX k_Se_jarFor ki_Se_jarFor kv_Se_jarFor ml_LJ_197 (C_Se_jarFor_in (nd := nd) (by rw [KM_ne (by decide) (by decide)]; exact hB.2.1) hB.1 hk) rfl rfl rfl rfl rfl (Nat.le_of_ble_eq_true rfl) (Nat.le_of_ble_eq_true rfl) (Nat.le_of_ble_eq_true rfl) d_LJ_serve_63 ?_
  exact f_iret (pc := 66) hX hR (by unfold KM; rw [if_neg (by omega), if_pos ⟨rfl, hk⟩]) (rfl) d_LJ_serve_66
theorem C_LJ_serve_out {M : MM} {n nd : Nat} {J B : JT} {hv : Nat → Nat} (hJ : CJ M n J) (hB : CB M nd B) (hH : HV n J hv) {k : Nat} (h0 : ¬ n = 0) (hk : nd ≤ k) (hk4 : k < 4) : AF y_LJ_serve c_LJ_serve 2 (some .int) 15 [vR 2, vI (i3 k)] (M) (some (vI (-9))) (KM J B n nd hv M nd) := by
  have hx2 := i3_int (k := k) (by omega)
  refine AF.of k_LJ_serve (lo := [some (vR 2), some (vI (i3 k))]) rfl (Nat.le_of_ble_eq_true rfl) (fun X hX hR => ?_)
  refine v_iload_n (pc := 0) hX rfl d_LJ_serve_0 ?_
  refine v_iconst (pc := 1) (v := (-1)) hX (by decide) d_LJ_serve_1 ?_
  refine v_icmp_lt (pc := 2) (tgt := 10) hX d_LJ_serve_2 rfl (fun h2 => False.elim (by simp only [lt32, q_m1, hx2] at h2; omega)) (fun h2 => ?_)
  refine v_iload_n (pc := 5) hX rfl d_LJ_serve_5 ?_
  refine v_iconst (pc := 6) (v := 4) hX (by decide) d_LJ_serve_6 ?_
  refine v_icmp_lt (pc := 7) (tgt := 13) hX d_LJ_serve_7 rfl (fun h7 => ?_) (fun h7 => False.elim (h7 (by simp only [lt32, q_4, hx2]; omega)))
  refine v_aload_n (pc := 13) hX rfl d_LJ_serve_13 ?_
  refine g_getR (pc := 14) hX fl_LJ_12 rfl rfl nf_2_0 d_LJ_serve_14 ?_
  refine f_callV (pc := 17) hX k_Sp_isMissing ki_Sp_isMissing kv_Sp_isMissing ml_LJ_118 (C_Sp_isMissing hJ) rfl rfl rfl rfl rfl (Nat.le_of_ble_eq_true rfl) (Nat.le_of_ble_eq_true rfl) (Nat.le_of_ble_eq_true rfl) d_LJ_serve_17 ?_
  refine f_ifeqB (pc := 20) (tgt := 26) hX d_LJ_serve_20 rfl (fun h20 => ?_) (fun h20 => False.elim (by rw [decide_eq_false h0] at h20; cases h20))
  refine v_iload_n (pc := 26) hX rfl d_LJ_serve_26 ?_
  refine v_iconst (pc := 27) (v := (-1)) hX (by decide) d_LJ_serve_27 ?_
  refine v_icmp_ne (pc := 28) (tgt := 43) hX d_LJ_serve_28 rfl (fun h28 => ?_) (fun h28 => False.elim (by simp only [eq32, q_m1, hx2] at h28; omega))
  refine v_aload_n (pc := 43) hX rfl d_LJ_serve_43 ?_
  refine g_getR (pc := 44) hX fl_LJ_28 rfl rfl nf_2_2 d_LJ_serve_44 ?_
  refine v_aload_n (pc := 47) hX rfl d_LJ_serve_47 ?_
  refine g_getR (pc := 48) hX fl_LJ_12 rfl rfl nf_2_0 d_LJ_serve_48 ?_
  refine f_callV0 (pc := 51) hX k_Se_choose ki_Se_choose kv_Se_choose ml_LJ_193 (C_Se_choose hJ hB hH) rfl rfl rfl rfl rfl (Nat.le_of_ble_eq_true rfl) (Nat.le_of_ble_eq_true rfl) (Nat.le_of_ble_eq_true rfl) d_LJ_serve_51 ?_
  refine v_aload_n (pc := 54) hX rfl d_LJ_serve_54 ?_
  refine g_getR (pc := 55) hX fl_LJ_28 rfl rfl nf_2_2 d_LJ_serve_55 ?_
  refine v_aload_n (pc := 58) hX rfl d_LJ_serve_58 ?_
  refine g_getR (pc := 59) hX fl_LJ_12 rfl rfl nf_2_0 d_LJ_serve_59 ?_
  refine v_iload_n (pc := 62) hX rfl d_LJ_serve_62 ?_
  refine f_callV (pc := 63) hX k_Se_jarFor ki_Se_jarFor kv_Se_jarFor ml_LJ_197 (C_Se_jarFor_out (nd := nd) (by rw [KM_ne (by decide) (by decide)]; exact hB.2.1) hB.1 hk (by omega)) rfl rfl rfl rfl rfl (Nat.le_of_ble_eq_true rfl) (Nat.le_of_ble_eq_true rfl) (Nat.le_of_ble_eq_true rfl) d_LJ_serve_63 ?_
  exact f_iret (pc := 66) hX hR (rfl) (rfl) d_LJ_serve_66
theorem d_LJ_dear_0 : decode c_LJ_dear 0 = .ok (.aload_n 0, 1) := by decide +kernel
theorem d_LJ_dear_1 : decode c_LJ_dear 1 = .ok (.getfield 12, 3) := by decide +kernel
theorem d_LJ_dear_4 : decode c_LJ_dear 4 = .ok (.iload_n 1, 1) := by decide +kernel
theorem d_LJ_dear_5 : decode c_LJ_dear 5 = .ok (.invokevirtual 92, 3) := by decide +kernel
theorem d_LJ_dear_8 : decode c_LJ_dear 8 = .ok (.astore_n 2, 1) := by decide +kernel
theorem d_LJ_dear_9 : decode c_LJ_dear 9 = .ok (.aload_n 2, 1) := by decide +kernel
theorem d_LJ_dear_10 : decode c_LJ_dear 10 = .ok (.ifnonnull 7, 3) := by decide +kernel
theorem d_LJ_dear_13 : decode c_LJ_dear 13 = .ok (.iconst (-1), 1) := by decide +kernel
theorem d_LJ_dear_14 : decode c_LJ_dear 14 = .ok (.goto 15, 3) := by decide +kernel
theorem d_LJ_dear_17 : decode c_LJ_dear 17 = .ok (.aload_n 0, 1) := by decide +kernel
theorem d_LJ_dear_18 : decode c_LJ_dear 18 = .ok (.getfield 28, 3) := by decide +kernel
theorem d_LJ_dear_21 : decode c_LJ_dear 21 = .ok (.aload_n 0, 1) := by decide +kernel
theorem d_LJ_dear_22 : decode c_LJ_dear 22 = .ok (.getfield 12, 3) := by decide +kernel
theorem d_LJ_dear_25 : decode c_LJ_dear 25 = .ok (.aload_n 2, 1) := by decide +kernel
theorem d_LJ_dear_26 : decode c_LJ_dear 26 = .ok (.invokevirtual 200, 3) := by decide +kernel
theorem d_LJ_dear_29 : decode c_LJ_dear 29 = .ok (.ireturn, 1) := by decide +kernel
theorem C_LJ_dear_out {M : MM} {n : Nat} {J : JT} {x : Int32} (hJ : CJ M n J) (hx : rg x 0 ((n : Int) - 1) = false) : AF y_LJ_dear c_LJ_dear 3 (some .int) 15 [vR 2, vI x] (M) (some (vI (-1))) (M) := by
  refine AF.of k_LJ_dear (lo := [some (vR 2), some (vI x), none]) rfl (Nat.le_of_ble_eq_true rfl) (fun X hX hR => ?_)
  refine v_aload_n (pc := 0) hX rfl d_LJ_dear_0 ?_
  refine g_getR (pc := 1) hX fl_LJ_12 rfl rfl nf_2_0 d_LJ_dear_1 ?_
  refine v_iload_n (pc := 4) hX rfl d_LJ_dear_4 ?_
  refine f_callV (pc := 5) hX k_Sp_jarAt ki_Sp_jarAt kv_Sp_jarAt ml_LJ_92 (C_Sp_jarAt_out hJ.1 hJ.2.1 hx) rfl rfl rfl rfl rfl (Nat.le_of_ble_eq_true rfl) (Nat.le_of_ble_eq_true rfl) (Nat.le_of_ble_eq_true rfl) d_LJ_dear_5 ?_
  refine v_astore_n (pc := 8) (lo' := [some (vR _), some (vI _), some (vR _)]) hX (Nat.le_of_ble_eq_true rfl) rfl d_LJ_dear_8 ?_
  refine v_aload_n (pc := 9) hX rfl d_LJ_dear_9 ?_
  refine v_ifnonnull (pc := 10) (tgt := 17) hX d_LJ_dear_10 rfl (fun h10 => False.elim (by revert h10; decide)) (fun h10 => ?_)
  refine v_iconst (pc := 13) (v := (-1)) hX (by decide) d_LJ_dear_13 ?_
  refine v_goto (pc := 14) (tgt := 29) hX d_LJ_dear_14 rfl ?_
  exact f_iret (pc := 29) hX hR (rfl) (rfl) d_LJ_dear_29
theorem C_LJ_dear_in {M : MM} {n nd : Nat} {J B : JT} {hv : Nat → Nat} (hJ : CJ M n J) (hB : CB M nd B) (hH : HV n J hv) {j p : Nat} (hj : j < n) (hp : J j 4 = i3 p) (hp9 : p ≤ 9) : AF y_LJ_dear c_LJ_dear 3 (some .int) 15 [vR 2, vI (i3 j)] (M) (some (vI (i3 (drN (fun v => decide (mostN (okB J B) n nd nd hv ≤ mvN J B n nd hv j v)) p 9)))) (bgM M 6) := by
  have h6 := hJ.1
  have hsj := sh_jar j (by omega)
  refine AF.of k_LJ_dear (lo := [some (vR 2), some (vI (i3 j)), none]) rfl (Nat.le_of_ble_eq_true rfl) (fun X hX hR => ?_)
  refine v_aload_n (pc := 0) hX rfl d_LJ_dear_0 ?_
  refine g_getR (pc := 1) hX fl_LJ_12 rfl rfl nf_2_0 d_LJ_dear_1 ?_
  refine v_iload_n (pc := 4) hX rfl d_LJ_dear_4 ?_
  refine f_callV (pc := 5) hX k_Sp_jarAt ki_Sp_jarAt kv_Sp_jarAt ml_LJ_92 (C_Sp_jarAt_in hJ.1 hJ.2.1 hj) rfl rfl rfl rfl rfl (Nat.le_of_ble_eq_true rfl) (Nat.le_of_ble_eq_true rfl) (Nat.le_of_ble_eq_true rfl) d_LJ_dear_5 ?_
  refine v_astore_n (pc := 8) (lo' := [some (vR _), some (vI _), some (vR _)]) hX (Nat.le_of_ble_eq_true rfl) rfl d_LJ_dear_8 ?_
  refine v_aload_n (pc := 9) hX rfl d_LJ_dear_9 ?_
  refine v_ifnonnull (pc := 10) (tgt := 17) hX d_LJ_dear_10 rfl (fun h10 => ?_) (fun h10 => False.elim (by have := sh_two (by assumption); omega))
  refine v_aload_n (pc := 17) hX rfl d_LJ_dear_17 ?_
  refine g_getR (pc := 18) hX fl_LJ_28 rfl rfl nf_2_2 d_LJ_dear_18 ?_
  refine v_aload_n (pc := 21) hX rfl d_LJ_dear_21 ?_
  refine g_getR (pc := 22) hX fl_LJ_12 rfl rfl nf_2_0 d_LJ_dear_22 ?_
  refine v_aload_n (pc := 25) hX rfl d_LJ_dear_25 ?_
  refine f_callV (pc := 26) hX k_Se_dearest ki_Se_dearest kv_Se_dearest ml_LJ_200 (C_Se_dearest hJ hB hH hj hp hp9) rfl rfl rfl rfl rfl (Nat.le_of_ble_eq_true rfl) (Nat.le_of_ble_eq_true rfl) (Nat.le_of_ble_eq_true rfl) d_LJ_dear_26 ?_
  exact f_iret (pc := 29) hX hR (rfl) (rfl) d_LJ_dear_29
