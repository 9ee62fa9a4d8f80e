/-! The calls of the class on sheets. -/
-- the sheets: how long (and one; 0: nothing), of which lane, the cells
def CZ (M : MM) (zs : Nat → Nat) (ln : Nat → Int32) (C : JT) : Prop := ∀ k, k < 4 → zs k ≤ 61 ∧ (zs k = 0 → M (28 + 2 * k) 1 = 0) ∧ (zs k ≠ 0 → M (28 + 2 * k) 1 = 1 ∧ M (28 + 2 * k) 2 = ln k ∧ M (28 + 2 * k) 3 = i3 (zs k - 1) ∧ ∀ i, i < zs k - 1 → M (29 + 2 * k) i = C k i)
def flt (z : Nat) (l lane i n : Int32) : Int32 := if z = 0 then 1 else if ¬ lane = l then 2 else if n < 0 then 4 else if hcB (i3 (z - 1)) i n = true then 0 else 3
theorem flt_eq {M : MM} {zs : Nat → Nat} {ln : Nat → Int32} {C : JT} {k : Nat} {lane i n : Int32} (hZ : CZ M zs ln C) (hk : k < 4) : fltM (M (28 + 2 * k)) lane i n = flt (zs k) (ln k) lane i n := by
  obtain ⟨h1, h2, h3⟩ := hZ k hk
  unfold fltM flt
  by_cases e : zs k = 0
  · rw [if_pos (h2 e), if_pos e]
  · obtain ⟨g1, g2, g3, -⟩ := h3 e
    rw [g1, g2, g3, if_neg (by decide), if_neg e]
theorem flt_own {M : MM} {zs : Nat → Nat} {ln : Nat → Int32} {C : JT} {k : Nat} {i n : Int32} (hZ : CZ M zs ln C) (hk : k < 4) : fltM (M (28 + 2 * k)) (M (28 + 2 * k) 2) i n = flt (zs k) (ln k) (ln k) i n := by
  rw [flt_eq hZ hk]
  obtain ⟨h1, h2, h3⟩ := hZ k hk
  by_cases e : zs k = 0
  · unfold flt; rw [if_pos e, if_pos e]
  · rw [(h3 e).2.1]
theorem hcB_i3 {z a m : Nat} (hz : z ≤ 60) (h : a + m ≤ z) : hcB (i3 z) (i3 a) (i3 m) = true := by
  unfold hcB
  rw [i3_subn (show a ≤ z by omega)]
  simp only [Bool.and_eq_true, decide_eq_true_eq]
  exact ⟨(i3_le (a := 0) (by decide) (by omega)).mpr (by omega), (i3_le (by omega) (by omega)).mpr (by omega), (i3_le (a := 0) (by decide) (by omega)).mpr (by omega), (i3_le (by omega) (by omega)).mpr (by omega)⟩
theorem flt_ok {z a m : Nat} {l : Int32} (hz : z ≠ 0) (hz6 : z ≤ 61) (h : a + m ≤ z - 1) : flt z l l (i3 a) (i3 m) = 0 := by
  unfold flt
  rw [if_neg hz, if_neg (fun w => w rfl), if_neg (by intro w; have := (i3_lt (b := 0) (by omega) (by decide)).mp w; omega), if_pos (hcB_i3 (by omega) h)]
theorem fc_lt (P : Nat → Bool) (q : Nat → Int32) (m p : Nat) : True := trivial
theorem ff_lt {q : Nat → Int32} {m f : Nat} (h : ffO q m = some f) : f < 100 := by
  unfold ffO ffD at h
  have a1 : nJ q m ≤ 6 := chs_le _ 6
  have a2 : nD q m (1 + 6 * nJ q m) ≤ 4 := chs_le _ 4
  have a3 := ftJ_le q m (1 + 6 * nJ q m)
  have a4 := ftD_le q m (1 + 6 * nJ q m + 5 * nD q m (1 + 6 * nJ q m))
  split at h
  · cases h; omega
  · split at h
    · cases h; omega
    · split at h
      · cases h; omega
      · split at h
        · cases h; omega
        · split at h
          · cases h; omega
          · cases h
theorem eo_s {f : Nat} (h : f < 100) : ¬ eo (some f) = -9 := fun w => by
  have w : i3 f = -9 := w
  rw [eq32, i3_int (by omega), q_m9] at w
  omega
theorem g_copy {X : CX} {own : String} {cc : ByteArray} {nL d pc : Nat} {lo : List (Option AV)} {st : List AV} {M : MM} (hX : CM X own cc nL d) {idx r a x y m : Nat} (hl : Cond.methodLink own idx arraycopyName ∈ GW) (hsr : SH[r]? = some (1, 60)) (hsa : SH[a]? = some (1, 60)) (hx : x + m ≤ 60) (hy : y + m ≤ 60) (hlo : lo.length = nL) (hrm : 1 ≤ d) (hst : (st.map catA).sum ≤ 8) (hd : decode cc pc = .ok (.invokestatic idx, 3))
    (k : VW X (pc + 3) lo st (gM (cpM M r a x y m))) : VW X pc lo (vI (i3 m) :: vI (i3 y) :: vR a :: vI (i3 x) :: vR r :: st) (gM M) := by
  have e1 := IX.of (k := x) (n := 1000) (by omega) (by decide)
  have e2 := IX.of (k := y) (n := 1000) (by omega) (by decide)
  have e3 := IX.of (k := m) (n := 1000) (by omega) (by decide)
  refine v_copy hX hl (sh_two' hsr (by decide)) hsr (sh_two' hsa (by decide)) hsa e1.2.1 e2.2.1 e3.2.1 (by rw [e1.1, e3.1]; exact hx) (by rw [e2.1, e3.1]; exact hy) hlo ⟨hrm, hst⟩ hd ?_
  rw [e1.1, e2.1, e3.1]
  exact k
theorem d_LJ_store_0 : decode c_LJ_store 0 = .ok (.aload_n 0, 1) := by decide +kernel
theorem d_LJ_store_1 : decode c_LJ_store 1 = .ok (.iload_n 1, 1) := by decide +kernel
theorem d_LJ_store_2 : decode c_LJ_store 2 = .ok (.invokevirtual 57, 3) := by decide +kernel
theorem d_LJ_store_5 : decode c_LJ_store 5 = .ok (.astore 5, 2) := by decide +kernel
theorem d_LJ_store_7 : decode c_LJ_store 7 = .ok (.aload 5, 2) := by decide +kernel
theorem d_LJ_store_9 : decode c_LJ_store 9 = .ok (.ifnonnull 9, 3) := by decide +kernel
theorem d_LJ_store_12 : decode c_LJ_store 12 = .ok (.aload_n 0, 1) := by decide +kernel
theorem d_LJ_store_13 : decode c_LJ_store 13 = .ok (.iconst (-1), 1) := by decide +kernel
theorem d_LJ_store_14 : decode c_LJ_store 14 = .ok (.invokevirtual 61, 3) := by decide +kernel
theorem d_LJ_store_17 : decode c_LJ_store 17 = .ok (.ireturn, 1) := by decide +kernel
theorem d_LJ_store_18 : decode c_LJ_store 18 = .ok (.iload_n 2, 1) := by decide +kernel
theorem d_LJ_store_19 : decode c_LJ_store 19 = .ok (.iconst 3, 1) := by decide +kernel
theorem d_LJ_store_20 : decode c_LJ_store 20 = .ok (.invokestatic 65, 3) := by decide +kernel
theorem d_LJ_store_23 : decode c_LJ_store 23 = .ok (.ifCond .ne 10, 3) := by decide +kernel
theorem d_LJ_store_26 : decode c_LJ_store 26 = .ok (.aload_n 0, 1) := by decide +kernel
theorem d_LJ_store_27 : decode c_LJ_store 27 = .ok (.bipush (-2), 2) := by decide +kernel
theorem d_LJ_store_29 : decode c_LJ_store 29 = .ok (.invokevirtual 61, 3) := by decide +kernel
theorem d_LJ_store_32 : decode c_LJ_store 32 = .ok (.ireturn, 1) := by decide +kernel
theorem d_LJ_store_33 : decode c_LJ_store 33 = .ok (.aload 5, 2) := by decide +kernel
theorem d_LJ_store_35 : decode c_LJ_store 35 = .ok (.iload_n 2, 1) := by decide +kernel
theorem d_LJ_store_36 : decode c_LJ_store 36 = .ok (.iload_n 3, 1) := by decide +kernel
theorem d_LJ_store_37 : decode c_LJ_store 37 = .ok (.iload 4, 2) := by decide +kernel
theorem d_LJ_store_39 : decode c_LJ_store 39 = .ok (.invokevirtual 69, 3) := by decide +kernel
theorem d_LJ_store_42 : decode c_LJ_store 42 = .ok (.istore 6, 2) := by decide +kernel
theorem d_LJ_store_44 : decode c_LJ_store 44 = .ok (.iload 6, 2) := by decide +kernel
theorem d_LJ_store_46 : decode c_LJ_store 46 = .ok (.ifCond .eq 10, 3) := by decide +kernel
theorem d_LJ_store_49 : decode c_LJ_store 49 = .ok (.aload_n 0, 1) := by decide +kernel
theorem d_LJ_store_50 : decode c_LJ_store 50 = .ok (.iload 6, 2) := by decide +kernel
theorem d_LJ_store_52 : decode c_LJ_store 52 = .ok (.invokevirtual 73, 3) := by decide +kernel
theorem d_LJ_store_55 : decode c_LJ_store 55 = .ok (.ireturn, 1) := by decide +kernel
theorem d_LJ_store_56 : decode c_LJ_store 56 = .ok (.aload_n 0, 1) := by decide +kernel
theorem d_LJ_store_57 : decode c_LJ_store 57 = .ok (.iconst 0, 1) := by decide +kernel
theorem d_LJ_store_58 : decode c_LJ_store 58 = .ok (.putfield 52, 3) := by decide +kernel
theorem d_LJ_store_61 : decode c_LJ_store 61 = .ok (.aload 5, 2) := by decide +kernel
theorem d_LJ_store_63 : decode c_LJ_store 63 = .ok (.iload_n 3, 1) := by decide +kernel
theorem d_LJ_store_64 : decode c_LJ_store 64 = .ok (.iload 4, 2) := by decide +kernel
theorem d_LJ_store_66 : decode c_LJ_store 66 = .ok (.invokestatic 76, 3) := by decide +kernel
theorem d_LJ_store_69 : decode c_LJ_store 69 = .ok (.istore 7, 2) := by decide +kernel
theorem d_LJ_store_71 : decode c_LJ_store 71 = .ok (.iload 7, 2) := by decide +kernel
theorem d_LJ_store_73 : decode c_LJ_store 73 = .ok (.bipush (-9), 2) := by decide +kernel
theorem d_LJ_store_75 : decode c_LJ_store 75 = .ok (.if_icmp .eq 9, 3) := by decide +kernel
theorem d_LJ_store_78 : decode c_LJ_store 78 = .ok (.bipush (-100), 2) := by decide +kernel
theorem d_LJ_store_80 : decode c_LJ_store 80 = .ok (.iload 7, 2) := by decide +kernel
theorem d_LJ_store_82 : decode c_LJ_store 82 = .ok (.isub, 1) := by decide +kernel
theorem d_LJ_store_83 : decode c_LJ_store 83 = .ok (.ireturn, 1) := by decide +kernel
theorem d_LJ_store_84 : decode c_LJ_store 84 = .ok (.aload 5, 2) := by decide +kernel
theorem d_LJ_store_86 : decode c_LJ_store 86 = .ok (.iload_n 3, 1) := by decide +kernel
theorem d_LJ_store_87 : decode c_LJ_store 87 = .ok (.iload 4, 2) := by decide +kernel
theorem d_LJ_store_89 : decode c_LJ_store 89 = .ok (.aload_n 0, 1) := by decide +kernel
theorem d_LJ_store_90 : decode c_LJ_store 90 = .ok (.getfield 12, 3) := by decide +kernel
theorem d_LJ_store_93 : decode c_LJ_store 93 = .ok (.invokestatic 82, 3) := by decide +kernel
theorem d_LJ_store_96 : decode c_LJ_store 96 = .ok (.aload_n 0, 1) := by decide +kernel
theorem d_LJ_store_97 : decode c_LJ_store 97 = .ok (.getfield 35, 3) := by decide +kernel
theorem d_LJ_store_100 : decode c_LJ_store 100 = .ok (.iconst 0, 1) := by decide +kernel
theorem d_LJ_store_101 : decode c_LJ_store 101 = .ok (.putfield 86, 3) := by decide +kernel
theorem d_LJ_store_104 : decode c_LJ_store 104 = .ok (.aload_n 0, 1) := by decide +kernel
theorem d_LJ_store_105 : decode c_LJ_store 105 = .ok (.getfield 12, 3) := by decide +kernel
theorem d_LJ_store_108 : decode c_LJ_store 108 = .ok (.getfield 89, 3) := by decide +kernel
theorem d_LJ_store_111 : decode c_LJ_store 111 = .ok (.ireturn, 1) := by decide +kernel
theorem C_LJ_store_out {M : MM} {x : Int32} (hx : rg x 0 3 = false) {u v w : Int32} : AF y_LJ_store c_LJ_store 8 (some .int) 5 [vR 2, vI x, vI u, vI v, vI w] (M) (some (vI (-1))) (upM M 2 6 0) := by
  refine AF.of k_LJ_store (lo := [some (vR 2), some (vI x), some (vI u), some (vI v), some (vI w), none, none, none]) rfl (Nat.le_of_ble_eq_true rfl) (fun X hX hR => ?_)
  refine v_aload_n (pc := 0) hX rfl d_LJ_store_0 ?_
  refine v_iload_n (pc := 1) hX rfl d_LJ_store_1 ?_
  refine f_callV (pc := 2) hX k_LJ_sheetAt ki_LJ_sheetAt kv_LJ_sheetAt ml_LJ_57 (C_LJ_sheetAt_out hx) rfl rfl rfl rfl rfl (Nat.le_of_ble_eq_true rfl) (Nat.le_of_ble_eq_true rfl) (Nat.le_of_ble_eq_true rfl) d_LJ_store_2 ?_
  refine v_astore (pc := 5) (lo' := [some (vR _), some (vI _), some (vI _), some (vI _), some (vI _), some (vR _), none, none]) hX (Nat.le_of_ble_eq_true rfl) rfl d_LJ_store_5 ?_
  refine v_aload (pc := 7) hX rfl d_LJ_store_7 ?_
  refine v_ifnonnull (pc := 9) (tgt := 18) hX d_LJ_store_9 rfl (fun h9 => False.elim (by revert h9; decide)) (fun h9 => ?_)
  refine v_aload_n (pc := 12) hX rfl d_LJ_store_12 ?_
  refine v_iconst (pc := 13) (v := (-1)) hX (by decide) d_LJ_store_13 ?_
  refine f_callV (pc := 14) hX k_LJ_refused ki_LJ_refused kv_LJ_refused ml_LJ_61 (C_LJ_refused) rfl rfl rfl rfl rfl (Nat.le_of_ble_eq_true rfl) (Nat.le_of_ble_eq_true rfl) (Nat.le_of_ble_eq_true rfl) d_LJ_store_14 ?_
  exact f_iret (pc := 17) hX hR (rfl) (rfl) d_LJ_store_17
theorem C_LJ_store_lane {M : MM} {k : Nat} {u v w : Int32} (hk : k < 4) (hu : rg u 0 2 = false) : AF y_LJ_store c_LJ_store 8 (some .int) 5 [vR 2, vI (i3 k), vI u, vI v, vI w] (M) (some (vI (-2))) (upM M 2 6 0) := by
  have hr := sh_sheet k hk
  have hn := nf_cells k hk
  have hc := sh_cells k hk
  refine AF.of k_LJ_store (lo := [some (vR 2), some (vI (i3 k)), some (vI u), some (vI v), some (vI w), none, none, none]) rfl (Nat.le_of_ble_eq_true rfl) (fun X hX hR => ?_)
  refine v_aload_n (pc := 0) hX rfl d_LJ_store_0 ?_
  refine v_iload_n (pc := 1) hX rfl d_LJ_store_1 ?_
  refine f_callV (pc := 2) hX k_LJ_sheetAt ki_LJ_sheetAt kv_LJ_sheetAt ml_LJ_57 (C_LJ_sheetAt_in hk) rfl rfl rfl rfl rfl (Nat.le_of_ble_eq_true rfl) (Nat.le_of_ble_eq_true rfl) (Nat.le_of_ble_eq_true rfl) d_LJ_store_2 ?_
  refine v_astore (pc := 5) (lo' := [some (vR _), some (vI _), some (vI _), some (vI _), some (vI _), some (vR _), none, none]) hX (Nat.le_of_ble_eq_true rfl) rfl d_LJ_store_5 ?_
  refine v_aload (pc := 7) hX rfl d_LJ_store_7 ?_
  refine v_ifnonnull (pc := 9) (tgt := 18) hX d_LJ_store_9 rfl (fun h9 => ?_) (fun h9 => False.elim (by have := sh_two (by assumption); omega))
  refine v_iload_n (pc := 18) hX rfl d_LJ_store_18 ?_
  refine v_iconst (pc := 19) (v := 3) hX (by decide) d_LJ_store_19 ?_
  refine f_callS (pc := 20) hX k_LJ_isBelow ks_LJ_isBelow ml_LJ_65 (C_LJ_isBelow) rfl rfl rfl (Nat.le_of_ble_eq_true rfl) (Nat.le_of_ble_eq_true rfl) (Nat.le_of_ble_eq_true rfl) d_LJ_store_20 ?_
  rw [show (3 : Int32).toInt - 1 = 2 from rfl]
  refine f_ifneB (pc := 23) (tgt := 33) hX d_LJ_store_23 rfl (fun h23 => False.elim (by rw [hu] at h23; cases h23)) (fun h23 => ?_)
  refine v_aload_n (pc := 26) hX rfl d_LJ_store_26 ?_
  refine v_bipush (pc := 27) (v := (-2)) hX (by decide) d_LJ_store_27 ?_
  refine f_callV (pc := 29) hX k_LJ_refused ki_LJ_refused kv_LJ_refused ml_LJ_61 (C_LJ_refused) rfl rfl rfl rfl rfl (Nat.le_of_ble_eq_true rfl) (Nat.le_of_ble_eq_true rfl) (Nat.le_of_ble_eq_true rfl) d_LJ_store_29 ?_
  exact f_iret (pc := 32) hX hR (rfl) (rfl) d_LJ_store_32
theorem C_LJ_store_fail {M : MM} {k : Nat} {zs : Nat → Nat} {ln : Nat → Int32} {C : JT} {u v w : Int32} (hZ : CZ M zs ln C) (hk : k < 4) (hu : rg u 0 2 = true) (hf : ¬ flt (zs k) (ln k) u v w = 0) : AF y_LJ_store c_LJ_store 8 (some .int) 5 [vR 2, vI (i3 k), vI u, vI v, vI w] (M) (some (vI (-10 - flt (zs k) (ln k) u v w))) (upM M 2 6 (flt (zs k) (ln k) u v w)) := by
  have hr := sh_sheet k hk
  have hn := nf_cells k hk
  have hc := sh_cells k hk
  refine AF.of k_LJ_store (lo := [some (vR 2), some (vI (i3 k)), some (vI u), some (vI v), some (vI w), none, none, none]) rfl (Nat.le_of_ble_eq_true rfl) (fun X hX hR => ?_)
  refine v_aload_n (pc := 0) hX rfl d_LJ_store_0 ?_
  refine v_iload_n (pc := 1) hX rfl d_LJ_store_1 ?_
  refine f_callV (pc := 2) hX k_LJ_sheetAt ki_LJ_sheetAt kv_LJ_sheetAt ml_LJ_57 (C_LJ_sheetAt_in hk) rfl rfl rfl rfl rfl (Nat.le_of_ble_eq_true rfl) (Nat.le_of_ble_eq_true rfl) (Nat.le_of_ble_eq_true rfl) d_LJ_store_2 ?_
  refine v_astore (pc := 5) (lo' := [some (vR _), some (vI _), some (vI _), some (vI _), some (vI _), some (vR _), none, none]) hX (Nat.le_of_ble_eq_true rfl) rfl d_LJ_store_5 ?_
  refine v_aload (pc := 7) hX rfl d_LJ_store_7 ?_
  refine v_ifnonnull (pc := 9) (tgt := 18) hX d_LJ_store_9 rfl (fun h9 => ?_) (fun h9 => False.elim (by have := sh_two (by assumption); omega))
  refine v_iload_n (pc := 18) hX rfl d_LJ_store_18 ?_
  refine v_iconst (pc := 19) (v := 3) hX (by decide) d_LJ_store_19 ?_
  refine f_callS (pc := 20) hX k_LJ_isBelow ks_LJ_isBelow ml_LJ_65 (C_LJ_isBelow) rfl rfl rfl (Nat.le_of_ble_eq_true rfl) (Nat.le_of_ble_eq_true rfl) (Nat.le_of_ble_eq_true rfl) d_LJ_store_20 ?_
  rw [show (3 : Int32).toInt - 1 = 2 from rfl]
  refine f_ifneB (pc := 23) (tgt := 33) hX d_LJ_store_23 rfl (fun h23 => ?_) (fun h23 => False.elim (by rw [hu] at h23; cases h23))
  refine v_aload (pc := 33) hX rfl d_LJ_store_33 ?_
  refine v_iload_n (pc := 35) hX rfl d_LJ_store_35 ?_
  refine v_iload_n (pc := 36) hX rfl d_LJ_store_36 ?_
  refine v_iload (pc := 37) hX rfl d_LJ_store_37 ?_
  refine f_callV (pc := 39) hX k_Sh_faultOf ki_Sh_faultOf kv_Sh_faultOf ml_LJ_69 (C_Sh_faultOf (by assumption)) (by assumption) rfl rfl rfl rfl (Nat.le_of_ble_eq_true rfl) (Nat.le_of_ble_eq_true rfl) (Nat.le_of_ble_eq_true rfl) d_LJ_store_39 ?_
  rw [flt_eq hZ hk]
  refine v_istore (pc := 42) (lo' := [some (vR _), some (vI _), some (vI _), some (vI _), some (vI _), some (vR _), some (vI _), none]) hX (Nat.le_of_ble_eq_true rfl) rfl d_LJ_store_42 ?_
  refine v_iload (pc := 44) hX rfl d_LJ_store_44 ?_
  refine v_if_eq (pc := 46) (tgt := 56) hX d_LJ_store_46 rfl (fun h46 => False.elim (hf h46)) (fun h46 => ?_)
  refine v_aload_n (pc := 49) hX rfl d_LJ_store_49 ?_
  refine v_iload (pc := 50) hX rfl d_LJ_store_50 ?_
  refine f_callV (pc := 52) hX k_LJ_failed ki_LJ_failed kv_LJ_failed ml_LJ_73 (C_LJ_failed) rfl rfl rfl rfl rfl (Nat.le_of_ble_eq_true rfl) (Nat.le_of_ble_eq_true rfl) (Nat.le_of_ble_eq_true rfl) d_LJ_store_52 ?_
  exact f_iret (pc := 55) hX hR (rfl) (rfl) d_LJ_store_55
theorem C_LJ_store_bad {M : MM} {k : Nat} {zs : Nat → Nat} {ln : Nat → Int32} {C : JT} (hZ : CZ M zs ln C) (hk : k < 4) (hu : rg (ln k) 0 2 = true) {a m : Nat} (hz : zs k ≠ 0) (ham : a + m ≤ zs k - 1) {f : Nat} (hff : ffO (fun t => C k (a + t)) m = some f) : AF y_LJ_store c_LJ_store 8 (some .int) 5 [vR 2, vI (i3 k), vI (ln k), vI (i3 a), vI (i3 m)] (M) (some (vI (-100 - i3 f))) (upM M 2 6 0) := by
  have hr := sh_sheet k hk
  have hn := nf_cells k hk
  have hc := sh_cells k hk
  obtain ⟨z1, z2, z3⟩ := hZ k hk
  obtain ⟨z4, z5, z6, z7⟩ := z3 hz
  have h60 : a + m ≤ 60 := by omega
  have hflt := flt_ok (l := ln k) hz z1 ham
  have hq : ∀ t, t < m → upM M 2 6 0 (29 + 2 * k) (a + t) = (fun t => C k (a + t)) t := fun t ht => by rw [upM_ne (by omega)]; exact z7 _ (by omega)
  refine AF.of k_LJ_store (lo := [some (vR 2), some (vI (i3 k)), some (vI (ln k)), some (vI (i3 a)), some (vI (i3 m)), none, none, none]) rfl (Nat.le_of_ble_eq_true rfl) (fun X hX hR => ?_)
  refine v_aload_n (pc := 0) hX rfl d_LJ_store_0 ?_
  refine v_iload_n (pc := 1) hX rfl d_LJ_store_1 ?_
  refine f_callV (pc := 2) hX k_LJ_sheetAt ki_LJ_sheetAt kv_LJ_sheetAt ml_LJ_57 (C_LJ_sheetAt_in hk) rfl rfl rfl rfl rfl (Nat.le_of_ble_eq_true rfl) (Nat.le_of_ble_eq_true rfl) (Nat.le_of_ble_eq_true rfl) d_LJ_store_2 ?_
  refine v_astore (pc := 5) (lo' := [some (vR _), some (vI _), some (vI _), some (vI _), some (vI _), some (vR _), none, none]) hX (Nat.le_of_ble_eq_true rfl) rfl d_LJ_store_5 ?_
  refine v_aload (pc := 7) hX rfl d_LJ_store_7 ?_
  refine v_ifnonnull (pc := 9) (tgt := 18) hX d_LJ_store_9 rfl (fun h9 => ?_) (fun h9 => False.elim (by have := sh_two (by assumption); omega))
  refine v_iload_n (pc := 18) hX rfl d_LJ_store_18 ?_
  refine v_iconst (pc := 19) (v := 3) hX (by decide) d_LJ_store_19 ?_
  refine f_callS (pc := 20) hX k_LJ_isBelow ks_LJ_isBelow ml_LJ_65 (C_LJ_isBelow) rfl rfl rfl (Nat.le_of_ble_eq_true rfl) (Nat.le_of_ble_eq_true rfl) (Nat.le_of_ble_eq_true rfl) d_LJ_store_20 ?_
  rw [show (3 : Int32).toInt - 1 = 2 from rfl]
  refine f_ifneB (pc := 23) (tgt := 33) hX d_LJ_store_23 rfl (fun h23 => ?_) (fun h23 => False.elim (by rw [hu] at h23; cases h23))
  refine v_aload (pc := 33) hX rfl d_LJ_store_33 ?_
  refine v_iload_n (pc := 35) hX rfl d_LJ_store_35 ?_
  refine v_iload_n (pc := 36) hX rfl d_LJ_store_36 ?_
  refine v_iload (pc := 37) hX rfl d_LJ_store_37 ?_
  refine f_callV (pc := 39) hX k_Sh_faultOf ki_Sh_faultOf kv_Sh_faultOf ml_LJ_69 (C_Sh_faultOf (by assumption)) (by assumption) rfl rfl rfl rfl (Nat.le_of_ble_eq_true rfl) (Nat.le_of_ble_eq_true rfl) (Nat.le_of_ble_eq_true rfl) d_LJ_store_39 ?_
  rw [flt_eq hZ hk, hflt]
  refine v_istore (pc := 42) (lo' := [some (vR _), some (vI _), some (vI _), some (vI _), some (vI _), some (vR _), some (vI _), none]) hX (Nat.le_of_ble_eq_true rfl) rfl d_LJ_store_42 ?_
  refine v_iload (pc := 44) hX rfl d_LJ_store_44 ?_
  refine v_if_eq (pc := 46) (tgt := 56) hX d_LJ_store_46 rfl (fun h46 => ?_) (fun h46 => False.elim (h46 rfl))
  refine v_aload_n (pc := 56) hX rfl d_LJ_store_56 ?_
  refine v_iconst (pc := 57) (v := 0) hX (by decide) d_LJ_store_57 ?_
  refine g_putI (pc := 58) hX fl_LJ_52 rfl (finI rfl rfl) rfl rfl rfl d_LJ_store_58 ?_
  refine v_aload (pc := 61) hX rfl d_LJ_store_61 ?_
  refine v_iload_n (pc := 63) hX rfl d_LJ_store_63 ?_
  refine v_iload (pc := 64) hX rfl d_LJ_store_64 ?_
  refine f_callS (pc := 66) hX k_Tx_firstFault ks_Tx_firstFault ml_LJ_76 (C_Tx_firstFault hr hn hc h60 hq) rfl rfl rfl (Nat.le_of_ble_eq_true rfl) (Nat.le_of_ble_eq_true rfl) (Nat.le_of_ble_eq_true rfl) d_LJ_store_66 ?_
  rw [hff]
  refine v_istore (pc := 69) (lo' := [some (vR _), some (vI _), some (vI _), some (vI _), some (vI _), some (vR _), some (vI _), some (vI _)]) hX (Nat.le_of_ble_eq_true rfl) rfl d_LJ_store_69 ?_
  refine v_iload (pc := 71) hX rfl d_LJ_store_71 ?_
  refine v_bipush (pc := 73) (v := (-9)) hX (by decide) d_LJ_store_73 ?_
  refine v_icmp_eq (pc := 75) (tgt := 84) hX d_LJ_store_75 rfl (fun h75 => False.elim (eo_s (ff_lt hff) h75)) (fun h75 => ?_)
  refine v_bipush (pc := 78) (v := (-100)) hX (by decide) d_LJ_store_78 ?_
  refine v_iload (pc := 80) hX rfl d_LJ_store_80 ?_
  refine v_isub (pc := 82) hX d_LJ_store_82 ?_
  exact f_iret (pc := 83) hX hR (rfl) (rfl) d_LJ_store_83
theorem C_LJ_store_ok {M : MM} {k : Nat} {zs : Nat → Nat} {ln : Nat → Int32} {C : JT} (hZ : CZ M zs ln C) (hk : k < 4) (hu : rg (ln k) 0 2 = true) {a m : Nat} (hz : zs k ≠ 0) (ham : a + m ≤ zs k - 1) (hff : ffO (fun t => C k (a + t)) m = none) : AF y_LJ_store c_LJ_store 8 (some .int) 5 [vR 2, vI (i3 k), vI (ln k), vI (i3 a), vI (i3 m)] (M) (some (vI (i3 (nJ (fun t => C k (a + t)) m)))) (upM (K2 (upM M 2 6 0) (fun t => C k (a + t)) (nJ (fun t => C k (a + t)) m) (nD (fun t => C k (a + t)) m (1 + 6 * nJ (fun t => C k (a + t)) m))) 22 3 0) := by
  have hr := sh_sheet k hk
  have hn := nf_cells k hk
  have hc := sh_cells k hk
  obtain ⟨z1, z2, z3⟩ := hZ k hk
  obtain ⟨z4, z5, z6, z7⟩ := z3 hz
  have h60 : a + m ≤ 60 := by omega
  have hflt := flt_ok (l := ln k) hz z1 ham
  have hq : ∀ t, t < m → upM M 2 6 0 (29 + 2 * k) (a + t) = (fun t => C k (a + t)) t := fun t ht => by rw [upM_ne (by omega)]; exact z7 _ (by omega)
  refine AF.of k_LJ_store (lo := [some (vR 2), some (vI (i3 k)), some (vI (ln k)), some (vI (i3 a)), some (vI (i3 m)), none, none, none]) rfl (Nat.le_of_ble_eq_true rfl) (fun X hX hR => ?_)
  refine v_aload_n (pc := 0) hX rfl d_LJ_store_0 ?_
  refine v_iload_n (pc := 1) hX rfl d_LJ_store_1 ?_
  refine f_callV (pc := 2) hX k_LJ_sheetAt ki_LJ_sheetAt kv_LJ_sheetAt ml_LJ_57 (C_LJ_sheetAt_in hk) rfl rfl rfl rfl rfl (Nat.le_of_ble_eq_true rfl) (Nat.le_of_ble_eq_true rfl) (Nat.le_of_ble_eq_true rfl) d_LJ_store_2 ?_
  refine v_astore (pc := 5) (lo' := [some (vR _), some (vI _), some (vI _), some (vI _), some (vI _), some (vR _), none, none]) hX (Nat.le_of_ble_eq_true rfl) rfl d_LJ_store_5 ?_
  refine v_aload (pc := 7) hX rfl d_LJ_store_7 ?_
  refine v_ifnonnull (pc := 9) (tgt := 18) hX d_LJ_store_9 rfl (fun h9 => ?_) (fun h9 => False.elim (by have := sh_two (by assumption); omega))
  refine v_iload_n (pc := 18) hX rfl d_LJ_store_18 ?_
  refine v_iconst (pc := 19) (v := 3) hX (by decide) d_LJ_store_19 ?_
  refine f_callS (pc := 20) hX k_LJ_isBelow ks_LJ_isBelow ml_LJ_65 (C_LJ_isBelow) rfl rfl rfl (Nat.le_of_ble_eq_true rfl) (Nat.le_of_ble_eq_true rfl) (Nat.le_of_ble_eq_true rfl) d_LJ_store_20 ?_
  rw [show (3 : Int32).toInt - 1 = 2 from rfl]
  refine f_ifneB (pc := 23) (tgt := 33) hX d_LJ_store_23 rfl (fun h23 => ?_) (fun h23 => False.elim (by rw [hu] at h23; cases h23))
  refine v_aload (pc := 33) hX rfl d_LJ_store_33 ?_
  refine v_iload_n (pc := 35) hX rfl d_LJ_store_35 ?_
  refine v_iload_n (pc := 36) hX rfl d_LJ_store_36 ?_
  refine v_iload (pc := 37) hX rfl d_LJ_store_37 ?_
  refine f_callV (pc := 39) hX k_Sh_faultOf ki_Sh_faultOf kv_Sh_faultOf ml_LJ_69 (C_Sh_faultOf (by assumption)) (by assumption) rfl rfl rfl rfl (Nat.le_of_ble_eq_true rfl) (Nat.le_of_ble_eq_true rfl) (Nat.le_of_ble_eq_true rfl) d_LJ_store_39 ?_
  rw [flt_eq hZ hk, hflt]
  refine v_istore (pc := 42) (lo' := [some (vR _), some (vI _), some (vI _), some (vI _), some (vI _), some (vR _), some (vI _), none]) hX (Nat.le_of_ble_eq_true rfl) rfl d_LJ_store_42 ?_
  refine v_iload (pc := 44) hX rfl d_LJ_store_44 ?_
  refine v_if_eq (pc := 46) (tgt := 56) hX d_LJ_store_46 rfl (fun h46 => ?_) (fun h46 => False.elim (h46 rfl))
  refine v_aload_n (pc := 56) hX rfl d_LJ_store_56 ?_
  refine v_iconst (pc := 57) (v := 0) hX (by decide) d_LJ_store_57 ?_
  refine g_putI (pc := 58) hX fl_LJ_52 rfl (finI rfl rfl) rfl rfl rfl d_LJ_store_58 ?_
  refine v_aload (pc := 61) hX rfl d_LJ_store_61 ?_
  refine v_iload_n (pc := 63) hX rfl d_LJ_store_63 ?_
  refine v_iload (pc := 64) hX rfl d_LJ_store_64 ?_
  refine f_callS (pc := 66) hX k_Tx_firstFault ks_Tx_firstFault ml_LJ_76 (C_Tx_firstFault hr hn hc h60 hq) rfl rfl rfl (Nat.le_of_ble_eq_true rfl) (Nat.le_of_ble_eq_true rfl) (Nat.le_of_ble_eq_true rfl) d_LJ_store_66 ?_
  rw [hff]
  refine v_istore (pc := 69) (lo' := [some (vR _), some (vI _), some (vI _), some (vI _), some (vI _), some (vR _), some (vI _), some (vI _)]) hX (Nat.le_of_ble_eq_true rfl) rfl d_LJ_store_69 ?_
  refine v_iload (pc := 71) hX rfl d_LJ_store_71 ?_
  refine v_bipush (pc := 73) (v := (-9)) hX (by decide) d_LJ_store_73 ?_
  refine v_icmp_eq (pc := 75) (tgt := 84) hX d_LJ_store_75 rfl (fun h75 => ?_) (fun h75 => False.elim (h75 rfl))
  refine v_aload (pc := 84) hX rfl d_LJ_store_84 ?_
  refine v_iload_n (pc := 86) hX rfl d_LJ_store_86 ?_
  refine v_iload (pc := 87) hX rfl d_LJ_store_87 ?_
  refine v_aload_n (pc := 89) hX rfl d_LJ_store_89 ?_
  refine g_getR (pc := 90) hX fl_LJ_12 rfl rfl nf_2_0 d_LJ_store_90 ?_
  refine f_callS0 (pc := 93) hX k_Tx_fill ks_Tx_fill ml_LJ_82 (C_Tx_fill hr hn hc h60 hq hff) rfl rfl rfl (Nat.le_of_ble_eq_true rfl) (Nat.le_of_ble_eq_true rfl) (Nat.le_of_ble_eq_true rfl) d_LJ_store_93 ?_
  refine v_aload_n (pc := 96) hX rfl d_LJ_store_96 ?_
  refine g_getR (pc := 97) hX fl_LJ_35 rfl rfl nf_2_3 d_LJ_store_97 ?_
  refine v_iconst (pc := 100) (v := 0) hX (by decide) d_LJ_store_100 ?_
  refine g_putI (pc := 101) hX fl_LJ_86 rfl (finI rfl rfl) rfl rfl rfl d_LJ_store_101 ?_
  refine v_aload_n (pc := 104) hX rfl d_LJ_store_104 ?_
  refine g_getR (pc := 105) hX fl_LJ_12 rfl rfl nf_2_0 d_LJ_store_105 ?_
  refine g_getI (pc := 108) hX fl_LJ_89 rfl rfl d_LJ_store_108 ?_
  exact f_iret (pc := 111) hX hR (by rw [upM_ne (by omega)]; exact K2_2) (rfl) d_LJ_store_111
theorem CJ.up2 {M : MM} {n i : Nat} {J : JT} {x : Int32} (h : CJ M n J) : CJ (upM M 2 i x) n J := by
  obtain ⟨h1, h2, h3⟩ := h
  exact ⟨h1, by rw [upM_ne (by omega)]; exact h2, fun j hj i hi => by rw [upM_ne (by omega)]; exact h3 j hj i hi⟩
theorem CB.up2 {M : MM} {n i : Nat} {B : JT} {x : Int32} (h : CB M n B) : CB (upM M 2 i x) n B := by
  obtain ⟨h1, h2, h3⟩ := h
  exact ⟨h1, by rw [upM_ne (by omega)]; exact h2, fun j hj i hi => by rw [upM_ne (by omega)]; exact h3 j hj i hi⟩
theorem d_LJ_year_0 : decode c_LJ_year 0 = .ok (.aload_n 0, 1) := by decide +kernel
theorem d_LJ_year_1 : decode c_LJ_year 1 = .ok (.iload_n 1, 1) := by decide +kernel
theorem d_LJ_year_2 : decode c_LJ_year 2 = .ok (.invokevirtual 57, 3) := by decide +kernel
theorem d_LJ_year_5 : decode c_LJ_year 5 = .ok (.astore 6, 2) := by decide +kernel
theorem d_LJ_year_7 : decode c_LJ_year 7 = .ok (.aload 6, 2) := by decide +kernel
theorem d_LJ_year_9 : decode c_LJ_year 9 = .ok (.ifnonnull 9, 3) := by decide +kernel
theorem d_LJ_year_12 : decode c_LJ_year 12 = .ok (.aload_n 0, 1) := by decide +kernel
theorem d_LJ_year_13 : decode c_LJ_year 13 = .ok (.iconst (-1), 1) := by decide +kernel
theorem d_LJ_year_14 : decode c_LJ_year 14 = .ok (.invokevirtual 61, 3) := by decide +kernel
theorem d_LJ_year_17 : decode c_LJ_year 17 = .ok (.ireturn, 1) := by decide +kernel
theorem d_LJ_year_18 : decode c_LJ_year 18 = .ok (.iload_n 2, 1) := by decide +kernel
theorem d_LJ_year_19 : decode c_LJ_year 19 = .ok (.iconst 3, 1) := by decide +kernel
theorem d_LJ_year_20 : decode c_LJ_year 20 = .ok (.invokestatic 65, 3) := by decide +kernel
theorem d_LJ_year_23 : decode c_LJ_year 23 = .ok (.ifCond .eq 21, 3) := by decide +kernel
theorem d_LJ_year_26 : decode c_LJ_year 26 = .ok (.iload 4, 2) := by decide +kernel
theorem d_LJ_year_28 : decode c_LJ_year 28 = .ok (.bipush 21, 2) := by decide +kernel
theorem d_LJ_year_30 : decode c_LJ_year 30 = .ok (.invokestatic 65, 3) := by decide +kernel
theorem d_LJ_year_33 : decode c_LJ_year 33 = .ok (.ifCond .eq 11, 3) := by decide +kernel
theorem d_LJ_year_36 : decode c_LJ_year 36 = .ok (.iload 5, 2) := by decide +kernel
theorem d_LJ_year_38 : decode c_LJ_year 38 = .ok (.invokestatic 152, 3) := by decide +kernel
theorem d_LJ_year_41 : decode c_LJ_year 41 = .ok (.ifCond .ne 10, 3) := by decide +kernel
theorem d_LJ_year_44 : decode c_LJ_year 44 = .ok (.aload_n 0, 1) := by decide +kernel
theorem d_LJ_year_45 : decode c_LJ_year 45 = .ok (.bipush (-2), 2) := by decide +kernel
theorem d_LJ_year_47 : decode c_LJ_year 47 = .ok (.invokevirtual 61, 3) := by decide +kernel
theorem d_LJ_year_50 : decode c_LJ_year 50 = .ok (.ireturn, 1) := by decide +kernel
theorem d_LJ_year_51 : decode c_LJ_year 51 = .ok (.aload_n 0, 1) := by decide +kernel
theorem d_LJ_year_52 : decode c_LJ_year 52 = .ok (.getfield 12, 3) := by decide +kernel
theorem d_LJ_year_55 : decode c_LJ_year 55 = .ok (.invokevirtual 118, 3) := by decide +kernel
theorem d_LJ_year_58 : decode c_LJ_year 58 = .ok (.ifCond .eq 10, 3) := by decide +kernel
theorem d_LJ_year_61 : decode c_LJ_year 61 = .ok (.aload_n 0, 1) := by decide +kernel
theorem d_LJ_year_62 : decode c_LJ_year 62 = .ok (.bipush (-3), 2) := by decide +kernel
theorem d_LJ_year_64 : decode c_LJ_year 64 = .ok (.invokevirtual 61, 3) := by decide +kernel
theorem d_LJ_year_67 : decode c_LJ_year 67 = .ok (.ireturn, 1) := by decide +kernel
theorem d_LJ_year_68 : decode c_LJ_year 68 = .ok (.aload 6, 2) := by decide +kernel
theorem d_LJ_year_70 : decode c_LJ_year 70 = .ok (.iload_n 2, 1) := by decide +kernel
theorem d_LJ_year_71 : decode c_LJ_year 71 = .ok (.iload_n 3, 1) := by decide +kernel
theorem d_LJ_year_72 : decode c_LJ_year 72 = .ok (.iconst 2, 1) := by decide +kernel
theorem d_LJ_year_73 : decode c_LJ_year 73 = .ok (.iload 4, 2) := by decide +kernel
theorem d_LJ_year_75 : decode c_LJ_year 75 = .ok (.imul, 1) := by decide +kernel
theorem d_LJ_year_76 : decode c_LJ_year 76 = .ok (.invokevirtual 69, 3) := by decide +kernel
theorem d_LJ_year_79 : decode c_LJ_year 79 = .ok (.istore 7, 2) := by decide +kernel
theorem d_LJ_year_81 : decode c_LJ_year 81 = .ok (.iload 7, 2) := by decide +kernel
theorem d_LJ_year_83 : decode c_LJ_year 83 = .ok (.ifCond .eq 10, 3) := by decide +kernel
theorem d_LJ_year_86 : decode c_LJ_year 86 = .ok (.aload_n 0, 1) := by decide +kernel
theorem d_LJ_year_87 : decode c_LJ_year 87 = .ok (.iload 7, 2) := by decide +kernel
theorem d_LJ_year_89 : decode c_LJ_year 89 = .ok (.invokevirtual 73, 3) := by decide +kernel
theorem d_LJ_year_92 : decode c_LJ_year 92 = .ok (.ireturn, 1) := by decide +kernel
theorem d_LJ_year_93 : decode c_LJ_year 93 = .ok (.aload_n 0, 1) := by decide +kernel
theorem d_LJ_year_94 : decode c_LJ_year 94 = .ok (.iconst 0, 1) := by decide +kernel
theorem d_LJ_year_95 : decode c_LJ_year 95 = .ok (.putfield 52, 3) := by decide +kernel
theorem d_LJ_year_98 : decode c_LJ_year 98 = .ok (.aload_n 0, 1) := by decide +kernel
theorem d_LJ_year_99 : decode c_LJ_year 99 = .ok (.getfield 12, 3) := by decide +kernel
theorem d_LJ_year_102 : decode c_LJ_year 102 = .ok (.aload 6, 2) := by decide +kernel
theorem d_LJ_year_104 : decode c_LJ_year 104 = .ok (.iload_n 3, 1) := by decide +kernel
theorem d_LJ_year_105 : decode c_LJ_year 105 = .ok (.iload 4, 2) := by decide +kernel
theorem d_LJ_year_107 : decode c_LJ_year 107 = .ok (.invokestatic 155, 3) := by decide +kernel
theorem d_LJ_year_110 : decode c_LJ_year 110 = .ok (.ifCond .ne 5, 3) := by decide +kernel
theorem d_LJ_year_113 : decode c_LJ_year 113 = .ok (.iconst (-1), 1) := by decide +kernel
theorem d_LJ_year_114 : decode c_LJ_year 114 = .ok (.ireturn, 1) := by decide +kernel
theorem d_LJ_year_115 : decode c_LJ_year 115 = .ok (.aload_n 0, 1) := by decide +kernel
theorem d_LJ_year_116 : decode c_LJ_year 116 = .ok (.getfield 21, 3) := by decide +kernel
theorem d_LJ_year_119 : decode c_LJ_year 119 = .ok (.aload_n 0, 1) := by decide +kernel
theorem d_LJ_year_120 : decode c_LJ_year 120 = .ok (.getfield 12, 3) := by decide +kernel
theorem d_LJ_year_123 : decode c_LJ_year 123 = .ok (.aload 6, 2) := by decide +kernel
theorem d_LJ_year_125 : decode c_LJ_year 125 = .ok (.iload_n 3, 1) := by decide +kernel
theorem d_LJ_year_126 : decode c_LJ_year 126 = .ok (.iload 4, 2) := by decide +kernel
theorem d_LJ_year_128 : decode c_LJ_year 128 = .ok (.invokevirtual 159, 3) := by decide +kernel
theorem d_LJ_year_131 : decode c_LJ_year 131 = .ok (.aload_n 0, 1) := by decide +kernel
theorem d_LJ_year_132 : decode c_LJ_year 132 = .ok (.getfield 21, 3) := by decide +kernel
theorem d_LJ_year_135 : decode c_LJ_year 135 = .ok (.aload_n 0, 1) := by decide +kernel
theorem d_LJ_year_136 : decode c_LJ_year 136 = .ok (.getfield 12, 3) := by decide +kernel
theorem d_LJ_year_139 : decode c_LJ_year 139 = .ok (.iload 5, 2) := by decide +kernel
theorem d_LJ_year_141 : decode c_LJ_year 141 = .ok (.invokevirtual 163, 3) := by decide +kernel
theorem d_LJ_year_144 : decode c_LJ_year 144 = .ok (.ireturn, 1) := by decide +kernel
theorem C_LJ_year_out {M : MM} {x : Int32} (hx : rg x 0 3 = false) {u v w y : Int32} : AF y_LJ_year c_LJ_year 8 (some .int) 5 [vR 2, vI x, vI u, vI v, vI w, vI y] (M) (some (vI (-1))) (upM M 2 6 0) := by
  refine AF.of k_LJ_year (lo := [some (vR 2), some (vI x), some (vI u), some (vI v), some (vI w), some (vI y), none, none]) rfl (Nat.le_of_ble_eq_true rfl) (fun X hX hR => ?_)
  refine v_aload_n (pc := 0) hX rfl d_LJ_year_0 ?_
  refine v_iload_n (pc := 1) hX rfl d_LJ_year_1 ?_
  refine f_callV (pc := 2) hX k_LJ_sheetAt ki_LJ_sheetAt kv_LJ_sheetAt ml_LJ_57 (C_LJ_sheetAt_out hx) rfl rfl rfl rfl rfl (Nat.le_of_ble_eq_true rfl) (Nat.le_of_ble_eq_true rfl) (Nat.le_of_ble_eq_true rfl) d_LJ_year_2 ?_
  refine v_astore (pc := 5) (lo' := [some (vR _), some (vI _), some (vI _), some (vI _), some (vI _), some (vI _), some (vR _), none]) hX (Nat.le_of_ble_eq_true rfl) rfl d_LJ_year_5 ?_
  refine v_aload (pc := 7) hX rfl d_LJ_year_7 ?_
  refine v_ifnonnull (pc := 9) (tgt := 18) hX d_LJ_year_9 rfl (fun h9 => False.elim (by revert h9; decide)) (fun h9 => ?_)
  refine v_aload_n (pc := 12) hX rfl d_LJ_year_12 ?_
  refine v_iconst (pc := 13) (v := (-1)) hX (by decide) d_LJ_year_13 ?_
  refine f_callV (pc := 14) hX k_LJ_refused ki_LJ_refused kv_LJ_refused ml_LJ_61 (C_LJ_refused) rfl rfl rfl rfl rfl (Nat.le_of_ble_eq_true rfl) (Nat.le_of_ble_eq_true rfl) (Nat.le_of_ble_eq_true rfl) d_LJ_year_14 ?_
  exact f_iret (pc := 17) hX hR (rfl) (rfl) d_LJ_year_17
theorem C_LJ_year_bad {M : MM} {k : Nat} {u v w y : Int32} (hk : k < 4) (hb : (rg u 0 2 && (rg w 0 20 && tdB y)) = false) : AF y_LJ_year c_LJ_year 8 (some .int) 5 [vR 2, vI (i3 k), vI u, vI v, vI w, vI y] (M) (some (vI (-2))) (upM M 2 6 0) := by
  have hr := sh_sheet k hk
  have hn := nf_cells k hk
  have hc := sh_cells k hk
  refine AF.of k_LJ_year (lo := [some (vR 2), some (vI (i3 k)), some (vI u), some (vI v), some (vI w), some (vI y), none, none]) rfl (Nat.le_of_ble_eq_true rfl) (fun X hX hR => ?_)
  refine v_aload_n (pc := 0) hX rfl d_LJ_year_0 ?_
  refine v_iload_n (pc := 1) hX rfl d_LJ_year_1 ?_
  refine f_callV (pc := 2) hX k_LJ_sheetAt ki_LJ_sheetAt kv_LJ_sheetAt ml_LJ_57 (C_LJ_sheetAt_in hk) rfl rfl rfl rfl rfl (Nat.le_of_ble_eq_true rfl) (Nat.le_of_ble_eq_true rfl) (Nat.le_of_ble_eq_true rfl) d_LJ_year_2 ?_
  refine v_astore (pc := 5) (lo' := [some (vR _), some (vI _), some (vI _), some (vI _), some (vI _), some (vI _), some (vR _), none]) hX (Nat.le_of_ble_eq_true rfl) rfl d_LJ_year_5 ?_
  refine v_aload (pc := 7) hX rfl d_LJ_year_7 ?_
  refine v_ifnonnull (pc := 9) (tgt := 18) hX d_LJ_year_9 rfl (fun h9 => ?_) (fun h9 => False.elim (by have := sh_two (by assumption); omega))
  refine v_iload_n (pc := 18) hX rfl d_LJ_year_18 ?_
  refine v_iconst (pc := 19) (v := 3) hX (by decide) d_LJ_year_19 ?_
  refine f_callS (pc := 20) hX k_LJ_isBelow ks_LJ_isBelow ml_LJ_65 (C_LJ_isBelow) rfl rfl rfl (Nat.le_of_ble_eq_true rfl) (Nat.le_of_ble_eq_true rfl) (Nat.le_of_ble_eq_true rfl) d_LJ_year_20 ?_
  rw [show (3 : Int32).toInt - 1 = 2 from rfl]
  refine f_ifeqB (pc := 23) (tgt := 44) hX d_LJ_year_23 rfl (fun h23 => ?_) (fun h23 => ?_)
  · refine v_aload_n (pc := 44) hX rfl d_LJ_year_44 ?_
    refine v_bipush (pc := 45) (v := (-2)) hX (by decide) d_LJ_year_45 ?_
    refine f_callV (pc := 47) hX k_LJ_refused ki_LJ_refused kv_LJ_refused ml_LJ_61 (C_LJ_refused) rfl rfl rfl rfl rfl (Nat.le_of_ble_eq_true rfl) (Nat.le_of_ble_eq_true rfl) (Nat.le_of_ble_eq_true rfl) d_LJ_year_47 ?_
    exact f_iret (pc := 50) hX hR (rfl) (rfl) d_LJ_year_50
  · refine v_iload (pc := 26) hX rfl d_LJ_year_26 ?_
    refine v_bipush (pc := 28) (v := 21) hX (by decide) d_LJ_year_28 ?_
    refine f_callS (pc := 30) hX k_LJ_isBelow ks_LJ_isBelow ml_LJ_65 (C_LJ_isBelow) rfl rfl rfl (Nat.le_of_ble_eq_true rfl) (Nat.le_of_ble_eq_true rfl) (Nat.le_of_ble_eq_true rfl) d_LJ_year_30 ?_
    rw [show (21 : Int32).toInt - 1 = 20 from rfl]
    refine f_ifeqB (pc := 33) (tgt := 44) hX d_LJ_year_33 rfl (fun h33 => ?_) (fun h33 => ?_)
    · refine v_aload_n (pc := 44) hX rfl d_LJ_year_44 ?_
      refine v_bipush (pc := 45) (v := (-2)) hX (by decide) d_LJ_year_45 ?_
      refine f_callV (pc := 47) hX k_LJ_refused ki_LJ_refused kv_LJ_refused ml_LJ_61 (C_LJ_refused) rfl rfl rfl rfl rfl (Nat.le_of_ble_eq_true rfl) (Nat.le_of_ble_eq_true rfl) (Nat.le_of_ble_eq_true rfl) d_LJ_year_47 ?_
      exact f_iret (pc := 50) hX hR (rfl) (rfl) d_LJ_year_50
    · refine v_iload (pc := 36) hX rfl d_LJ_year_36 ?_
      refine f_callS (pc := 38) hX k_Sa_isTold ks_Sa_isTold ml_LJ_152 (C_Sa_isTold) rfl rfl rfl (Nat.le_of_ble_eq_true rfl) (Nat.le_of_ble_eq_true rfl) (Nat.le_of_ble_eq_true rfl) d_LJ_year_38 ?_
      refine f_ifneB (pc := 41) (tgt := 51) hX d_LJ_year_41 rfl (fun h41 => False.elim (by rw [h23, h33, h41] at hb; cases hb)) (fun h41 => ?_)
      refine v_aload_n (pc := 44) hX rfl d_LJ_year_44 ?_
      refine v_bipush (pc := 45) (v := (-2)) hX (by decide) d_LJ_year_45 ?_
      refine f_callV (pc := 47) hX k_LJ_refused ki_LJ_refused kv_LJ_refused ml_LJ_61 (C_LJ_refused) rfl rfl rfl rfl rfl (Nat.le_of_ble_eq_true rfl) (Nat.le_of_ble_eq_true rfl) (Nat.le_of_ble_eq_true rfl) d_LJ_year_47 ?_
      exact f_iret (pc := 50) hX hR (rfl) (rfl) d_LJ_year_50
theorem C_LJ_year_no {M : MM} {k m n : Nat} {J : JT} {u v y : Int32} (hJ : CJ M n J) (hk : k < 4) (hu : rg u 0 2 = true) (hm : m < 21) (hy : tdB y = true) (h0 : n = 0) : AF y_LJ_year c_LJ_year 8 (some .int) 5 [vR 2, vI (i3 k), vI u, vI v, vI (i3 m), vI y] (M) (some (vI (-3))) (upM M 2 6 0) := by
  have hr := sh_sheet k hk
  have hn := nf_cells k hk
  have hc := sh_cells k hk
  refine AF.of k_LJ_year (lo := [some (vR 2), some (vI (i3 k)), some (vI u), some (vI v), some (vI (i3 m)), some (vI y), none, none]) rfl (Nat.le_of_ble_eq_true rfl) (fun X hX hR => ?_)
  refine v_aload_n (pc := 0) hX rfl d_LJ_year_0 ?_
  refine v_iload_n (pc := 1) hX rfl d_LJ_year_1 ?_
  refine f_callV (pc := 2) hX k_LJ_sheetAt ki_LJ_sheetAt kv_LJ_sheetAt ml_LJ_57 (C_LJ_sheetAt_in hk) rfl rfl rfl rfl rfl (Nat.le_of_ble_eq_true rfl) (Nat.le_of_ble_eq_true rfl) (Nat.le_of_ble_eq_true rfl) d_LJ_year_2 ?_
  refine v_astore (pc := 5) (lo' := [some (vR _), some (vI _), some (vI _), some (vI _), some (vI _), some (vI _), some (vR _), none]) hX (Nat.le_of_ble_eq_true rfl) rfl d_LJ_year_5 ?_
  refine v_aload (pc := 7) hX rfl d_LJ_year_7 ?_
  refine v_ifnonnull (pc := 9) (tgt := 18) hX d_LJ_year_9 rfl (fun h9 => ?_) (fun h9 => False.elim (by have := sh_two (by assumption); omega))
  refine v_iload_n (pc := 18) hX rfl d_LJ_year_18 ?_
  refine v_iconst (pc := 19) (v := 3) hX (by decide) d_LJ_year_19 ?_
  refine f_callS (pc := 20) hX k_LJ_isBelow ks_LJ_isBelow ml_LJ_65 (C_LJ_isBelow) rfl rfl rfl (Nat.le_of_ble_eq_true rfl) (Nat.le_of_ble_eq_true rfl) (Nat.le_of_ble_eq_true rfl) d_LJ_year_20 ?_
  rw [show (3 : Int32).toInt - 1 = 2 from rfl]
  refine f_ifeqB (pc := 23) (tgt := 44) hX d_LJ_year_23 rfl (fun h23 => False.elim (by rw [hu] at h23; cases h23)) (fun h23 => ?_)
  refine v_iload (pc := 26) hX rfl d_LJ_year_26 ?_
  refine v_bipush (pc := 28) (v := 21) hX (by decide) d_LJ_year_28 ?_
  refine f_callS (pc := 30) hX k_LJ_isBelow ks_LJ_isBelow ml_LJ_65 (C_LJ_isBelow) rfl rfl rfl (Nat.le_of_ble_eq_true rfl) (Nat.le_of_ble_eq_true rfl) (Nat.le_of_ble_eq_true rfl) d_LJ_year_30 ?_
  rw [show (21 : Int32).toInt - 1 = 20 from rfl]
  refine f_ifeqB (pc := 33) (tgt := 44) hX d_LJ_year_33 rfl (fun h33 => False.elim (by rw [show rg (i3 m) 0 20 = true from rg_i3 (n := 21) hm (by decide)] at h33; cases h33)) (fun h33 => ?_)
  refine v_iload (pc := 36) hX rfl d_LJ_year_36 ?_
  refine f_callS (pc := 38) hX k_Sa_isTold ks_Sa_isTold ml_LJ_152 (C_Sa_isTold) rfl rfl rfl (Nat.le_of_ble_eq_true rfl) (Nat.le_of_ble_eq_true rfl) (Nat.le_of_ble_eq_true rfl) d_LJ_year_38 ?_
  refine f_ifneB (pc := 41) (tgt := 51) hX d_LJ_year_41 rfl (fun h41 => ?_) (fun h41 => False.elim (by rw [hy] at h41; cases h41))
  refine v_aload_n (pc := 51) hX rfl d_LJ_year_51 ?_
  refine g_getR (pc := 52) hX fl_LJ_12 rfl rfl nf_2_0 d_LJ_year_52 ?_
  refine f_callV (pc := 55) hX k_Sp_isMissing ki_Sp_isMissing kv_Sp_isMissing ml_LJ_118 (C_Sp_isMissing hJ) rfl rfl rfl rfl rfl (Nat.le_of_ble_eq_true rfl) (Nat.le_of_ble_eq_true rfl) (Nat.le_of_ble_eq_true rfl) d_LJ_year_55 ?_
  refine f_ifeqB (pc := 58) (tgt := 68) hX d_LJ_year_58 rfl (fun h58 => False.elim (by rw [decide_eq_true h0] at h58; cases h58)) (fun h58 => ?_)
  refine v_aload_n (pc := 61) hX rfl d_LJ_year_61 ?_
  refine v_bipush (pc := 62) (v := (-3)) hX (by decide) d_LJ_year_62 ?_
  refine f_callV (pc := 64) hX k_LJ_refused ki_LJ_refused kv_LJ_refused ml_LJ_61 (C_LJ_refused) rfl rfl rfl rfl rfl (Nat.le_of_ble_eq_true rfl) (Nat.le_of_ble_eq_true rfl) (Nat.le_of_ble_eq_true rfl) d_LJ_year_64 ?_
  exact f_iret (pc := 67) hX hR (rfl) (rfl) d_LJ_year_67
theorem C_LJ_year_fail {M : MM} {k m n : Nat} {J : JT} {u v y : Int32} (hJ : CJ M n J) (hk : k < 4) (hu : rg u 0 2 = true) (hm : m < 21) (hy : tdB y = true) {zs : Nat → Nat} {ln : Nat → Int32} {C : JT} (hZ : CZ M zs ln C) (h0 : ¬ n = 0) (hf : ¬ flt (zs k) (ln k) u v (i3 (2 * m)) = 0) : AF y_LJ_year c_LJ_year 8 (some .int) 5 [vR 2, vI (i3 k), vI u, vI v, vI (i3 m), vI y] (M) (some (vI (-10 - flt (zs k) (ln k) u v (i3 (2 * m))))) (upM M 2 6 (flt (zs k) (ln k) u v (i3 (2 * m)))) := by
  have hr := sh_sheet k hk
  have hn := nf_cells k hk
  have hc := sh_cells k hk
  refine AF.of k_LJ_year (lo := [some (vR 2), some (vI (i3 k)), some (vI u), some (vI v), some (vI (i3 m)), some (vI y), none, none]) rfl (Nat.le_of_ble_eq_true rfl) (fun X hX hR => ?_)
  refine v_aload_n (pc := 0) hX rfl d_LJ_year_0 ?_
  refine v_iload_n (pc := 1) hX rfl d_LJ_year_1 ?_
  refine f_callV (pc := 2) hX k_LJ_sheetAt ki_LJ_sheetAt kv_LJ_sheetAt ml_LJ_57 (C_LJ_sheetAt_in hk) rfl rfl rfl rfl rfl (Nat.le_of_ble_eq_true rfl) (Nat.le_of_ble_eq_true rfl) (Nat.le_of_ble_eq_true rfl) d_LJ_year_2 ?_
  refine v_astore (pc := 5) (lo' := [some (vR _), some (vI _), some (vI _), some (vI _), some (vI _), some (vI _), some (vR _), none]) hX (Nat.le_of_ble_eq_true rfl) rfl d_LJ_year_5 ?_
  refine v_aload (pc := 7) hX rfl d_LJ_year_7 ?_
  refine v_ifnonnull (pc := 9) (tgt := 18) hX d_LJ_year_9 rfl (fun h9 => ?_) (fun h9 => False.elim (by have := sh_two (by assumption); omega))
  refine v_iload_n (pc := 18) hX rfl d_LJ_year_18 ?_
  refine v_iconst (pc := 19) (v := 3) hX (by decide) d_LJ_year_19 ?_
  refine f_callS (pc := 20) hX k_LJ_isBelow ks_LJ_isBelow ml_LJ_65 (C_LJ_isBelow) rfl rfl rfl (Nat.le_of_ble_eq_true rfl) (Nat.le_of_ble_eq_true rfl) (Nat.le_of_ble_eq_true rfl) d_LJ_year_20 ?_
  rw [show (3 : Int32).toInt - 1 = 2 from rfl]
  refine f_ifeqB (pc := 23) (tgt := 44) hX d_LJ_year_23 rfl (fun h23 => False.elim (by rw [hu] at h23; cases h23)) (fun h23 => ?_)
  refine v_iload (pc := 26) hX rfl d_LJ_year_26 ?_
  refine v_bipush (pc := 28) (v := 21) hX (by decide) d_LJ_year_28 ?_
  refine f_callS (pc := 30) hX k_LJ_isBelow ks_LJ_isBelow ml_LJ_65 (C_LJ_isBelow) rfl rfl rfl (Nat.le_of_ble_eq_true rfl) (Nat.le_of_ble_eq_true rfl) (Nat.le_of_ble_eq_true rfl) d_LJ_year_30 ?_
  rw [show (21 : Int32).toInt - 1 = 20 from rfl]
  refine f_ifeqB (pc := 33) (tgt := 44) hX d_LJ_year_33 rfl (fun h33 => False.elim (by rw [show rg (i3 m) 0 20 = true from rg_i3 (n := 21) hm (by decide)] at h33; cases h33)) (fun h33 => ?_)
  refine v_iload (pc := 36) hX rfl d_LJ_year_36 ?_
  refine f_callS (pc := 38) hX k_Sa_isTold ks_Sa_isTold ml_LJ_152 (C_Sa_isTold) rfl rfl rfl (Nat.le_of_ble_eq_true rfl) (Nat.le_of_ble_eq_true rfl) (Nat.le_of_ble_eq_true rfl) d_LJ_year_38 ?_
  refine f_ifneB (pc := 41) (tgt := 51) hX d_LJ_year_41 rfl (fun h41 => ?_) (fun h41 => False.elim (by rw [hy] at h41; cases h41))
  refine v_aload_n (pc := 51) hX rfl d_LJ_year_51 ?_
  refine g_getR (pc := 52) hX fl_LJ_12 rfl rfl nf_2_0 d_LJ_year_52 ?_
  refine f_callV (pc := 55) hX k_Sp_isMissing ki_Sp_isMissing kv_Sp_isMissing ml_LJ_118 (C_Sp_isMissing hJ) rfl rfl rfl rfl rfl (Nat.le_of_ble_eq_true rfl) (Nat.le_of_ble_eq_true rfl) (Nat.le_of_ble_eq_true rfl) d_LJ_year_55 ?_
  refine f_ifeqB (pc := 58) (tgt := 68) hX d_LJ_year_58 rfl (fun h58 => ?_) (fun h58 => False.elim (by rw [decide_eq_false h0] at h58; cases h58))
  refine v_aload (pc := 68) hX rfl d_LJ_year_68 ?_
  refine v_iload_n (pc := 70) hX rfl d_LJ_year_70 ?_
  refine v_iload_n (pc := 71) hX rfl d_LJ_year_71 ?_
  refine v_iconst (pc := 72) (v := 2) hX (by decide) d_LJ_year_72 ?_
  refine v_iload (pc := 73) hX rfl d_LJ_year_73 ?_
  refine v_imul (pc := 75) hX d_LJ_year_75 ?_
  rw [show (2 : Int32) * i3 m = i3 (2 * m) from (i3_mul 2 m).symm]
  refine f_callV (pc := 76) hX k_Sh_faultOf ki_Sh_faultOf kv_Sh_faultOf ml_LJ_69 (C_Sh_faultOf (by assumption)) (by assumption) rfl rfl rfl rfl (Nat.le_of_ble_eq_true rfl) (Nat.le_of_ble_eq_true rfl) (Nat.le_of_ble_eq_true rfl) d_LJ_year_76 ?_
  rw [flt_eq hZ hk]
  refine v_istore (pc := 79) (lo' := [some (vR _), some (vI _), some (vI _), some (vI _), some (vI _), some (vI _), some (vR _), some (vI _)]) hX (Nat.le_of_ble_eq_true rfl) rfl d_LJ_year_79 ?_
  refine v_iload (pc := 81) hX rfl d_LJ_year_81 ?_
  refine v_if_eq (pc := 83) (tgt := 93) hX d_LJ_year_83 rfl (fun h83 => False.elim (hf h83)) (fun h83 => ?_)
  refine v_aload_n (pc := 86) hX rfl d_LJ_year_86 ?_
  refine v_iload (pc := 87) hX rfl d_LJ_year_87 ?_
  refine f_callV (pc := 89) hX k_LJ_failed ki_LJ_failed kv_LJ_failed ml_LJ_73 (C_LJ_failed) rfl rfl rfl rfl rfl (Nat.le_of_ble_eq_true rfl) (Nat.le_of_ble_eq_true rfl) (Nat.le_of_ble_eq_true rfl) d_LJ_year_89 ?_
  exact f_iret (pc := 92) hX hR (rfl) (rfl) d_LJ_year_92
theorem C_LJ_year_unk {M : MM} {k m n nd a : Nat} {J B : JT} {y : Int32} (hJ : CJ M n J) (hB : CB M nd B) (hk : k < 4) (hm : m < 21) (hy : tdB y = true) {zs : Nat → Nat} {ln : Nat → Int32} {C : JT} (hZ : CZ M zs ln C) (hu : rg (ln k) 0 2 = true) (h0 : ¬ n = 0) (hz : zs k ≠ 0) (ham : a + 2 * m ≤ zs k - 1) (hat : allB (fun p => rg (C k (a + 2 * p)) 0 ((nd : Int) - 1) && rg (C k (a + (2 * p + 1))) 0 ((n : Int) - 1)) m = false) : AF y_LJ_year c_LJ_year 8 (some .int) 5 [vR 2, vI (i3 k), vI (ln k), vI (i3 a), vI (i3 m), vI y] (M) (some (vI (-1))) (upM M 2 6 0) := by
  have hr := sh_sheet k hk
  have hn := nf_cells k hk
  have hc := sh_cells k hk
  obtain ⟨z1, z2, z3⟩ := hZ k hk
  obtain ⟨z4, z5, z6, z7⟩ := z3 hz
  have h60 : a + 2 * m ≤ 60 := by omega
  have hflt := flt_ok (l := ln k) hz z1 ham
  have hq : ∀ t, t < 2 * m → upM M 2 6 0 (29 + 2 * k) (a + t) = (fun t => C k (a + t)) t := fun t ht => by rw [upM_ne (by omega)]; exact z7 _ (by omega)
  have hJ1 : CJ (upM M 2 6 0) n J := hJ.up2
  have hB1 : CB (upM M 2 6 0) nd B := hB.up2
  refine AF.of k_LJ_year (lo := [some (vR 2), some (vI (i3 k)), some (vI (ln k)), some (vI (i3 a)), some (vI (i3 m)), some (vI y), none, none]) rfl (Nat.le_of_ble_eq_true rfl) (fun X hX hR => ?_)
  refine v_aload_n (pc := 0) hX rfl d_LJ_year_0 ?_
  refine v_iload_n (pc := 1) hX rfl d_LJ_year_1 ?_
  refine f_callV (pc := 2) hX k_LJ_sheetAt ki_LJ_sheetAt kv_LJ_sheetAt ml_LJ_57 (C_LJ_sheetAt_in hk) rfl rfl rfl rfl rfl (Nat.le_of_ble_eq_true rfl) (Nat.le_of_ble_eq_true rfl) (Nat.le_of_ble_eq_true rfl) d_LJ_year_2 ?_
  refine v_astore (pc := 5) (lo' := [some (vR _), some (vI _), some (vI _), some (vI _), some (vI _), some (vI _), some (vR _), none]) hX (Nat.le_of_ble_eq_true rfl) rfl d_LJ_year_5 ?_
  refine v_aload (pc := 7) hX rfl d_LJ_year_7 ?_
  refine v_ifnonnull (pc := 9) (tgt := 18) hX d_LJ_year_9 rfl (fun h9 => ?_) (fun h9 => False.elim (by have := sh_two (by assumption); omega))
  refine v_iload_n (pc := 18) hX rfl d_LJ_year_18 ?_
  refine v_iconst (pc := 19) (v := 3) hX (by decide) d_LJ_year_19 ?_
  refine f_callS (pc := 20) hX k_LJ_isBelow ks_LJ_isBelow ml_LJ_65 (C_LJ_isBelow) rfl rfl rfl (Nat.le_of_ble_eq_true rfl) (Nat.le_of_ble_eq_true rfl) (Nat.le_of_ble_eq_true rfl) d_LJ_year_20 ?_
  rw [show (3 : Int32).toInt - 1 = 2 from rfl]
  refine f_ifeqB (pc := 23) (tgt := 44) hX d_LJ_year_23 rfl (fun h23 => False.elim (by rw [hu] at h23; cases h23)) (fun h23 => ?_)
  refine v_iload (pc := 26) hX rfl d_LJ_year_26 ?_
  refine v_bipush (pc := 28) (v := 21) hX (by decide) d_LJ_year_28 ?_
  refine f_callS (pc := 30) hX k_LJ_isBelow ks_LJ_isBelow ml_LJ_65 (C_LJ_isBelow) rfl rfl rfl (Nat.le_of_ble_eq_true rfl) (Nat.le_of_ble_eq_true rfl) (Nat.le_of_ble_eq_true rfl) d_LJ_year_30 ?_
  rw [show (21 : Int32).toInt - 1 = 20 from rfl]
  refine f_ifeqB (pc := 33) (tgt := 44) hX d_LJ_year_33 rfl (fun h33 => False.elim (by rw [show rg (i3 m) 0 20 = true from rg_i3 (n := 21) hm (by decide)] at h33; cases h33)) (fun h33 => ?_)
  refine v_iload (pc := 36) hX rfl d_LJ_year_36 ?_
  refine f_callS (pc := 38) hX k_Sa_isTold ks_Sa_isTold ml_LJ_152 (C_Sa_isTold) rfl rfl rfl (Nat.le_of_ble_eq_true rfl) (Nat.le_of_ble_eq_true rfl) (Nat.le_of_ble_eq_true rfl) d_LJ_year_38 ?_
  refine f_ifneB (pc := 41) (tgt := 51) hX d_LJ_year_41 rfl (fun h41 => ?_) (fun h41 => False.elim (by rw [hy] at h41; cases h41))
  refine v_aload_n (pc := 51) hX rfl d_LJ_year_51 ?_
  refine g_getR (pc := 52) hX fl_LJ_12 rfl rfl nf_2_0 d_LJ_year_52 ?_
  refine f_callV (pc := 55) hX k_Sp_isMissing ki_Sp_isMissing kv_Sp_isMissing ml_LJ_118 (C_Sp_isMissing hJ) rfl rfl rfl rfl rfl (Nat.le_of_ble_eq_true rfl) (Nat.le_of_ble_eq_true rfl) (Nat.le_of_ble_eq_true rfl) d_LJ_year_55 ?_
  refine f_ifeqB (pc := 58) (tgt := 68) hX d_LJ_year_58 rfl (fun h58 => ?_) (fun h58 => False.elim (by rw [decide_eq_false h0] at h58; cases h58))
  refine v_aload (pc := 68) hX rfl d_LJ_year_68 ?_
  refine v_iload_n (pc := 70) hX rfl d_LJ_year_70 ?_
  refine v_iload_n (pc := 71) hX rfl d_LJ_year_71 ?_
  refine v_iconst (pc := 72) (v := 2) hX (by decide) d_LJ_year_72 ?_
  refine v_iload (pc := 73) hX rfl d_LJ_year_73 ?_
  refine v_imul (pc := 75) hX d_LJ_year_75 ?_
  rw [show (2 : Int32) * i3 m = i3 (2 * m) from (i3_mul 2 m).symm]
  refine f_callV (pc := 76) hX k_Sh_faultOf ki_Sh_faultOf kv_Sh_faultOf ml_LJ_69 (C_Sh_faultOf (by assumption)) (by assumption) rfl rfl rfl rfl (Nat.le_of_ble_eq_true rfl) (Nat.le_of_ble_eq_true rfl) (Nat.le_of_ble_eq_true rfl) d_LJ_year_76 ?_
  rw [flt_eq hZ hk, hflt]
  refine v_istore (pc := 79) (lo' := [some (vR _), some (vI _), some (vI _), some (vI _), some (vI _), some (vI _), some (vR _), some (vI _)]) hX (Nat.le_of_ble_eq_true rfl) rfl d_LJ_year_79 ?_
  refine v_iload (pc := 81) hX rfl d_LJ_year_81 ?_
  refine v_if_eq (pc := 83) (tgt := 93) hX d_LJ_year_83 rfl (fun h83 => ?_) (fun h83 => False.elim (h83 rfl))
  refine v_aload_n (pc := 93) hX rfl d_LJ_year_93 ?_
  refine v_iconst (pc := 94) (v := 0) hX (by decide) d_LJ_year_94 ?_
  refine g_putI (pc := 95) hX fl_LJ_52 rfl (finI rfl rfl) rfl rfl rfl d_LJ_year_95 ?_
  refine v_aload_n (pc := 98) hX rfl d_LJ_year_98 ?_
  refine g_getR (pc := 99) hX fl_LJ_12 rfl rfl nf_2_0 d_LJ_year_99 ?_
  refine v_aload (pc := 102) hX rfl d_LJ_year_102 ?_
  refine v_iload_n (pc := 104) hX rfl d_LJ_year_104 ?_
  refine v_iload (pc := 105) hX rfl d_LJ_year_105 ?_
  refine f_callS (pc := 107) hX k_Sa_areAllThere ks_Sa_areAllThere ml_LJ_155 (C_Sa_areAllThere hJ1 hB1 hr hn hc h60 hq) rfl rfl rfl (Nat.le_of_ble_eq_true rfl) (Nat.le_of_ble_eq_true rfl) (Nat.le_of_ble_eq_true rfl) d_LJ_year_107 ?_
  refine f_ifneB (pc := 110) (tgt := 115) hX d_LJ_year_110 rfl (fun h110 => False.elim (by rw [show allB (fun p => rg ((fun t => C k (a + t)) (2 * p)) 0 ((nd : Int) - 1) && rg ((fun t => C k (a + t)) (2 * p + 1)) 0 ((n : Int) - 1)) m = false from hat] at h110; cases h110)) (fun h110 => ?_)
  refine v_iconst (pc := 113) (v := (-1)) hX (by decide) d_LJ_year_113 ?_
  exact f_iret (pc := 114) hX hR (rfl) (rfl) d_LJ_year_114
theorem C_LJ_year_ok {M : MM} {k m n nd a : Nat} {J B : JT} {y : Int32} (hJ : CJ M n J) (hB : CB M nd B) (hk : k < 4) (hm : m < 21) (hy : tdB y = true) {zs : Nat → Nat} {ln : Nat → Int32} {C : JT} (hZ : CZ M zs ln C) (hu : rg (ln k) 0 2 = true) (h0 : ¬ n = 0) (hz : zs k ≠ 0) (ham : a + 2 * m ≤ zs k - 1) (hat : allB (fun p => rg (C k (a + 2 * p)) 0 ((nd : Int) - 1) && rg (C k (a + (2 * p + 1))) 0 ((n : Int) - 1)) m = true) {pb pj : Nat → Nat} (hpb : ∀ p, p < m → pb p < nd ∧ C k (a + 2 * p) = i3 (pb p)) (hpj : ∀ p, p < m → pj p < n ∧ C k (a + (2 * p + 1)) = i3 (pj p)) : AF y_LJ_year c_LJ_year 8 (some .int) 5 [vR 2, vI (i3 k), vI (ln k), vI (i3 a), vI (i3 m), vI y] (M) (some (vI (yaN n nd (yr J B pb pj m) y))) (YM (upM M 2 6 0) n nd (yr J B pb pj m)) := by
  have hr := sh_sheet k hk
  have hn := nf_cells k hk
  have hc := sh_cells k hk
  obtain ⟨z1, z2, z3⟩ := hZ k hk
  obtain ⟨z4, z5, z6, z7⟩ := z3 hz
  have h60 : a + 2 * m ≤ 60 := by omega
  have hflt := flt_ok (l := ln k) hz z1 ham
  have hq : ∀ t, t < 2 * m → upM M 2 6 0 (29 + 2 * k) (a + t) = (fun t => C k (a + t)) t := fun t ht => by rw [upM_ne (by omega)]; exact z7 _ (by omega)
  have hJ1 : CJ (upM M 2 6 0) n J := hJ.up2
  have hB1 : CB (upM M 2 6 0) nd B := hB.up2
  have hyl := yr_le J B pb pj m
  refine AF.of k_LJ_year (lo := [some (vR 2), some (vI (i3 k)), some (vI (ln k)), some (vI (i3 a)), some (vI (i3 m)), some (vI y), none, none]) rfl (Nat.le_of_ble_eq_true rfl) (fun X hX hR => ?_)
  refine v_aload_n (pc := 0) hX rfl d_LJ_year_0 ?_
  refine v_iload_n (pc := 1) hX rfl d_LJ_year_1 ?_
  refine f_callV (pc := 2) hX k_LJ_sheetAt ki_LJ_sheetAt kv_LJ_sheetAt ml_LJ_57 (C_LJ_sheetAt_in hk) rfl rfl rfl rfl rfl (Nat.le_of_ble_eq_true rfl) (Nat.le_of_ble_eq_true rfl) (Nat.le_of_ble_eq_true rfl) d_LJ_year_2 ?_
  refine v_astore (pc := 5) (lo' := [some (vR _), some (vI _), some (vI _), some (vI _), some (vI _), some (vI _), some (vR _), none]) hX (Nat.le_of_ble_eq_true rfl) rfl d_LJ_year_5 ?_
  refine v_aload (pc := 7) hX rfl d_LJ_year_7 ?_
  refine v_ifnonnull (pc := 9) (tgt := 18) hX d_LJ_year_9 rfl (fun h9 => ?_) (fun h9 => False.elim (by have := sh_two (by assumption); omega))
  refine v_iload_n (pc := 18) hX rfl d_LJ_year_18 ?_
  refine v_iconst (pc := 19) (v := 3) hX (by decide) d_LJ_year_19 ?_
  refine f_callS (pc := 20) hX k_LJ_isBelow ks_LJ_isBelow ml_LJ_65 (C_LJ_isBelow) rfl rfl rfl (Nat.le_of_ble_eq_true rfl) (Nat.le_of_ble_eq_true rfl) (Nat.le_of_ble_eq_true rfl) d_LJ_year_20 ?_
  rw [show (3 : Int32).toInt - 1 = 2 from rfl]
  refine f_ifeqB (pc := 23) (tgt := 44) hX d_LJ_year_23 rfl (fun h23 => False.elim (by rw [hu] at h23; cases h23)) (fun h23 => ?_)
  refine v_iload (pc := 26) hX rfl d_LJ_year_26 ?_
  refine v_bipush (pc := 28) (v := 21) hX (by decide) d_LJ_year_28 ?_
  refine f_callS (pc := 30) hX k_LJ_isBelow ks_LJ_isBelow ml_LJ_65 (C_LJ_isBelow) rfl rfl rfl (Nat.le_of_ble_eq_true rfl) (Nat.le_of_ble_eq_true rfl) (Nat.le_of_ble_eq_true rfl) d_LJ_year_30 ?_
  rw [show (21 : Int32).toInt - 1 = 20 from rfl]
  refine f_ifeqB (pc := 33) (tgt := 44) hX d_LJ_year_33 rfl (fun h33 => False.elim (by rw [show rg (i3 m) 0 20 = true from rg_i3 (n := 21) hm (by decide)] at h33; cases h33)) (fun h33 => ?_)
  refine v_iload (pc := 36) hX rfl d_LJ_year_36 ?_
  refine f_callS (pc := 38) hX k_Sa_isTold ks_Sa_isTold ml_LJ_152 (C_Sa_isTold) rfl rfl rfl (Nat.le_of_ble_eq_true rfl) (Nat.le_of_ble_eq_true rfl) (Nat.le_of_ble_eq_true rfl) d_LJ_year_38 ?_
  refine f_ifneB (pc := 41) (tgt := 51) hX d_LJ_year_41 rfl (fun h41 => ?_) (fun h41 => False.elim (by rw [hy] at h41; cases h41))
  refine v_aload_n (pc := 51) hX rfl d_LJ_year_51 ?_
  refine g_getR (pc := 52) hX fl_LJ_12 rfl rfl nf_2_0 d_LJ_year_52 ?_
  refine f_callV (pc := 55) hX k_Sp_isMissing ki_Sp_isMissing kv_Sp_isMissing ml_LJ_118 (C_Sp_isMissing hJ) rfl rfl rfl rfl rfl (Nat.le_of_ble_eq_true rfl) (Nat.le_of_ble_eq_true rfl) (Nat.le_of_ble_eq_true rfl) d_LJ_year_55 ?_
  refine f_ifeqB (pc := 58) (tgt := 68) hX d_LJ_year_58 rfl (fun h58 => ?_) (fun h58 => False.elim (by rw [decide_eq_false h0] at h58; cases h58))
  refine v_aload (pc := 68) hX rfl d_LJ_year_68 ?_
  refine v_iload_n (pc := 70) hX rfl d_LJ_year_70 ?_
  refine v_iload_n (pc := 71) hX rfl d_LJ_year_71 ?_
  refine v_iconst (pc := 72) (v := 2) hX (by decide) d_LJ_year_72 ?_
  refine v_iload (pc := 73) hX rfl d_LJ_year_73 ?_
  refine v_imul (pc := 75) hX d_LJ_year_75 ?_
  rw [show (2 : Int32) * i3 m = i3 (2 * m) from (i3_mul 2 m).symm]
  refine f_callV (pc := 76) hX k_Sh_faultOf ki_Sh_faultOf kv_Sh_faultOf ml_LJ_69 (C_Sh_faultOf (by assumption)) (by assumption) rfl rfl rfl rfl (Nat.le_of_ble_eq_true rfl) (Nat.le_of_ble_eq_true rfl) (Nat.le_of_ble_eq_true rfl) d_LJ_year_76 ?_
  rw [flt_eq hZ hk, hflt]
  refine v_istore (pc := 79) (lo' := [some (vR _), some (vI _), some (vI _), some (vI _), some (vI _), some (vI _), some (vR _), some (vI _)]) hX (Nat.le_of_ble_eq_true rfl) rfl d_LJ_year_79 ?_
  refine v_iload (pc := 81) hX rfl d_LJ_year_81 ?_
  refine v_if_eq (pc := 83) (tgt := 93) hX d_LJ_year_83 rfl (fun h83 => ?_) (fun h83 => False.elim (h83 rfl))
  refine v_aload_n (pc := 93) hX rfl d_LJ_year_93 ?_
  refine v_iconst (pc := 94) (v := 0) hX (by decide) d_LJ_year_94 ?_
  refine g_putI (pc := 95) hX fl_LJ_52 rfl (finI rfl rfl) rfl rfl rfl d_LJ_year_95 ?_
  refine v_aload_n (pc := 98) hX rfl d_LJ_year_98 ?_
  refine g_getR (pc := 99) hX fl_LJ_12 rfl rfl nf_2_0 d_LJ_year_99 ?_
  refine v_aload (pc := 102) hX rfl d_LJ_year_102 ?_
  refine v_iload_n (pc := 104) hX rfl d_LJ_year_104 ?_
  refine v_iload (pc := 105) hX rfl d_LJ_year_105 ?_
  refine f_callS (pc := 107) hX k_Sa_areAllThere ks_Sa_areAllThere ml_LJ_155 (C_Sa_areAllThere hJ1 hB1 hr hn hc h60 hq) rfl rfl rfl (Nat.le_of_ble_eq_true rfl) (Nat.le_of_ble_eq_true rfl) (Nat.le_of_ble_eq_true rfl) d_LJ_year_107 ?_
  refine f_ifneB (pc := 110) (tgt := 115) hX d_LJ_year_110 rfl (fun h110 => ?_) (fun h110 => False.elim (by rw [show allB (fun p => rg ((fun t => C k (a + t)) (2 * p)) 0 ((nd : Int) - 1) && rg ((fun t => C k (a + t)) (2 * p + 1)) 0 ((n : Int) - 1)) m = true from hat] at h110; cases h110))
  refine v_aload_n (pc := 115) hX rfl d_LJ_year_115 ?_
  refine g_getR (pc := 116) hX fl_LJ_21 rfl rfl nf_2_1 d_LJ_year_116 ?_
  refine v_aload_n (pc := 119) hX rfl d_LJ_year_119 ?_
  refine g_getR (pc := 120) hX fl_LJ_12 rfl rfl nf_2_0 d_LJ_year_120 ?_
  refine v_aload (pc := 123) hX rfl d_LJ_year_123 ?_
  refine v_iload_n (pc := 125) hX rfl d_LJ_year_125 ?_
  refine v_iload (pc := 126) hX rfl d_LJ_year_126 ?_
  refine f_callV0 (pc := 128) hX k_Sa_goThrough ki_Sa_goThrough kv_Sa_goThrough ml_LJ_159 (C_Sa_goThrough hJ1 hB1 hr hn hc h60 hq hpb hpj) rfl rfl rfl rfl rfl (Nat.le_of_ble_eq_true rfl) (Nat.le_of_ble_eq_true rfl) (Nat.le_of_ble_eq_true rfl) d_LJ_year_128 ?_
  refine v_aload_n (pc := 131) hX rfl d_LJ_year_131 ?_
  refine g_getR (pc := 132) hX fl_LJ_21 rfl rfl nf_2_1 d_LJ_year_132 ?_
  refine v_aload_n (pc := 135) hX rfl d_LJ_year_135 ?_
  refine g_getR (pc := 136) hX fl_LJ_12 rfl rfl nf_2_0 d_LJ_year_136 ?_
  refine v_iload (pc := 139) hX rfl d_LJ_year_139 ?_
  refine f_callV (pc := 141) hX k_Sa_answer ki_Sa_answer kv_Sa_answer ml_LJ_163 (C_Sa_answer hJ1.1 hB1.1 hJ1.2.1 hB1.2.1 (by omega)) rfl rfl rfl rfl rfl (Nat.le_of_ble_eq_true rfl) (Nat.le_of_ble_eq_true rfl) (Nat.le_of_ble_eq_true rfl) d_LJ_year_141 ?_
  exact f_iret (pc := 144) hX hR (rfl) (rfl) d_LJ_year_144
def guN (J : JT) (n : Nat) (q : Nat → Int32) (m : Nat) (y : Int32) : Int32 := if y = 0 then i3 (gjN (fun j => hmB J n (2 ^ j) q m) n) else if y = 1 then i3 (cntB (fun s => decide (pop 6 s = 2) && hmB J n s q m) (2 ^ n - 1)) else en (fstB (fun s => decide (pop 6 s = 2) && hmB J n s q m) (2 ^ n - 1))
theorem d_LJ_guess_0 : decode c_LJ_guess 0 = .ok (.aload_n 0, 1) := by decide +kernel
theorem d_LJ_guess_1 : decode c_LJ_guess 1 = .ok (.iload_n 1, 1) := by decide +kernel
theorem d_LJ_guess_2 : decode c_LJ_guess 2 = .ok (.invokevirtual 57, 3) := by decide +kernel
theorem d_LJ_guess_5 : decode c_LJ_guess 5 = .ok (.astore 6, 2) := by decide +kernel
theorem d_LJ_guess_7 : decode c_LJ_guess 7 = .ok (.aload 6, 2) := by decide +kernel
theorem d_LJ_guess_9 : decode c_LJ_guess 9 = .ok (.ifnonnull 9, 3) := by decide +kernel
theorem d_LJ_guess_12 : decode c_LJ_guess 12 = .ok (.aload_n 0, 1) := by decide +kernel
theorem d_LJ_guess_13 : decode c_LJ_guess 13 = .ok (.iconst (-1), 1) := by decide +kernel
theorem d_LJ_guess_14 : decode c_LJ_guess 14 = .ok (.invokevirtual 61, 3) := by decide +kernel
theorem d_LJ_guess_17 : decode c_LJ_guess 17 = .ok (.ireturn, 1) := by decide +kernel
theorem d_LJ_guess_18 : decode c_LJ_guess 18 = .ok (.iload_n 2, 1) := by decide +kernel
theorem d_LJ_guess_19 : decode c_LJ_guess 19 = .ok (.iconst 3, 1) := by decide +kernel
theorem d_LJ_guess_20 : decode c_LJ_guess 20 = .ok (.invokestatic 65, 3) := by decide +kernel
theorem d_LJ_guess_23 : decode c_LJ_guess 23 = .ok (.ifCond .eq 22, 3) := by decide +kernel
theorem d_LJ_guess_26 : decode c_LJ_guess 26 = .ok (.iload 4, 2) := by decide +kernel
theorem d_LJ_guess_28 : decode c_LJ_guess 28 = .ok (.bipush 11, 2) := by decide +kernel
theorem d_LJ_guess_30 : decode c_LJ_guess 30 = .ok (.invokestatic 65, 3) := by decide +kernel
theorem d_LJ_guess_33 : decode c_LJ_guess 33 = .ok (.ifCond .eq 12, 3) := by decide +kernel
theorem d_LJ_guess_36 : decode c_LJ_guess 36 = .ok (.iload 5, 2) := by decide +kernel
theorem d_LJ_guess_38 : decode c_LJ_guess 38 = .ok (.iconst 3, 1) := by decide +kernel
theorem d_LJ_guess_39 : decode c_LJ_guess 39 = .ok (.invokestatic 65, 3) := by decide +kernel
theorem d_LJ_guess_42 : decode c_LJ_guess 42 = .ok (.ifCond .ne 10, 3) := by decide +kernel
theorem d_LJ_guess_45 : decode c_LJ_guess 45 = .ok (.aload_n 0, 1) := by decide +kernel
theorem d_LJ_guess_46 : decode c_LJ_guess 46 = .ok (.bipush (-2), 2) := by decide +kernel
theorem d_LJ_guess_48 : decode c_LJ_guess 48 = .ok (.invokevirtual 61, 3) := by decide +kernel
theorem d_LJ_guess_51 : decode c_LJ_guess 51 = .ok (.ireturn, 1) := by decide +kernel
theorem d_LJ_guess_52 : decode c_LJ_guess 52 = .ok (.aload_n 0, 1) := by decide +kernel
theorem d_LJ_guess_53 : decode c_LJ_guess 53 = .ok (.getfield 12, 3) := by decide +kernel
theorem d_LJ_guess_56 : decode c_LJ_guess 56 = .ok (.invokevirtual 118, 3) := by decide +kernel
theorem d_LJ_guess_59 : decode c_LJ_guess 59 = .ok (.ifCond .eq 10, 3) := by decide +kernel
theorem d_LJ_guess_62 : decode c_LJ_guess 62 = .ok (.aload_n 0, 1) := by decide +kernel
theorem d_LJ_guess_63 : decode c_LJ_guess 63 = .ok (.bipush (-3), 2) := by decide +kernel
theorem d_LJ_guess_65 : decode c_LJ_guess 65 = .ok (.invokevirtual 61, 3) := by decide +kernel
theorem d_LJ_guess_68 : decode c_LJ_guess 68 = .ok (.ireturn, 1) := by decide +kernel
theorem d_LJ_guess_69 : decode c_LJ_guess 69 = .ok (.aload 6, 2) := by decide +kernel
theorem d_LJ_guess_71 : decode c_LJ_guess 71 = .ok (.iload_n 2, 1) := by decide +kernel
theorem d_LJ_guess_72 : decode c_LJ_guess 72 = .ok (.iload_n 3, 1) := by decide +kernel
theorem d_LJ_guess_73 : decode c_LJ_guess 73 = .ok (.iload 4, 2) := by decide +kernel
theorem d_LJ_guess_75 : decode c_LJ_guess 75 = .ok (.invokevirtual 69, 3) := by decide +kernel
theorem d_LJ_guess_78 : decode c_LJ_guess 78 = .ok (.istore 7, 2) := by decide +kernel
theorem d_LJ_guess_80 : decode c_LJ_guess 80 = .ok (.iload 7, 2) := by decide +kernel
theorem d_LJ_guess_82 : decode c_LJ_guess 82 = .ok (.ifCond .eq 10, 3) := by decide +kernel
theorem d_LJ_guess_85 : decode c_LJ_guess 85 = .ok (.aload_n 0, 1) := by decide +kernel
theorem d_LJ_guess_86 : decode c_LJ_guess 86 = .ok (.iload 7, 2) := by decide +kernel
theorem d_LJ_guess_88 : decode c_LJ_guess 88 = .ok (.invokevirtual 73, 3) := by decide +kernel
theorem d_LJ_guess_91 : decode c_LJ_guess 91 = .ok (.ireturn, 1) := by decide +kernel
theorem d_LJ_guess_92 : decode c_LJ_guess 92 = .ok (.aload_n 0, 1) := by decide +kernel
theorem d_LJ_guess_93 : decode c_LJ_guess 93 = .ok (.iconst 0, 1) := by decide +kernel
theorem d_LJ_guess_94 : decode c_LJ_guess 94 = .ok (.putfield 52, 3) := by decide +kernel
theorem d_LJ_guess_97 : decode c_LJ_guess 97 = .ok (.iload 5, 2) := by decide +kernel
theorem d_LJ_guess_99 : decode c_LJ_guess 99 = .ok (.lookupswitch 51 #[(0, 25), (1, 38)], 25) := by decide +kernel
theorem d_LJ_guess_124 : decode c_LJ_guess 124 = .ok (.aload_n 0, 1) := by decide +kernel
theorem d_LJ_guess_125 : decode c_LJ_guess 125 = .ok (.getfield 12, 3) := by decide +kernel
theorem d_LJ_guess_128 : decode c_LJ_guess 128 = .ok (.aload 6, 2) := by decide +kernel
theorem d_LJ_guess_130 : decode c_LJ_guess 130 = .ok (.iload_n 3, 1) := by decide +kernel
theorem d_LJ_guess_131 : decode c_LJ_guess 131 = .ok (.iload 4, 2) := by decide +kernel
theorem d_LJ_guess_133 : decode c_LJ_guess 133 = .ok (.invokestatic 177, 3) := by decide +kernel
theorem d_LJ_guess_136 : decode c_LJ_guess 136 = .ok (.ireturn, 1) := by decide +kernel
theorem d_LJ_guess_137 : decode c_LJ_guess 137 = .ok (.aload_n 0, 1) := by decide +kernel
theorem d_LJ_guess_138 : decode c_LJ_guess 138 = .ok (.getfield 12, 3) := by decide +kernel
theorem d_LJ_guess_141 : decode c_LJ_guess 141 = .ok (.aload 6, 2) := by decide +kernel
theorem d_LJ_guess_143 : decode c_LJ_guess 143 = .ok (.iload_n 3, 1) := by decide +kernel
theorem d_LJ_guess_144 : decode c_LJ_guess 144 = .ok (.iload 4, 2) := by decide +kernel
theorem d_LJ_guess_146 : decode c_LJ_guess 146 = .ok (.invokestatic 183, 3) := by decide +kernel
theorem d_LJ_guess_149 : decode c_LJ_guess 149 = .ok (.ireturn, 1) := by decide +kernel
theorem d_LJ_guess_150 : decode c_LJ_guess 150 = .ok (.aload_n 0, 1) := by decide +kernel
theorem d_LJ_guess_151 : decode c_LJ_guess 151 = .ok (.getfield 12, 3) := by decide +kernel
theorem d_LJ_guess_154 : decode c_LJ_guess 154 = .ok (.aload 6, 2) := by decide +kernel
theorem d_LJ_guess_156 : decode c_LJ_guess 156 = .ok (.iload_n 3, 1) := by decide +kernel
theorem d_LJ_guess_157 : decode c_LJ_guess 157 = .ok (.iload 4, 2) := by decide +kernel
theorem d_LJ_guess_159 : decode c_LJ_guess 159 = .ok (.invokestatic 186, 3) := by decide +kernel
theorem d_LJ_guess_162 : decode c_LJ_guess 162 = .ok (.ireturn, 1) := by decide +kernel
theorem C_LJ_guess_out {M : MM} {x : Int32} (hx : rg x 0 3 = false) {u v w y : Int32} : AF y_LJ_guess c_LJ_guess 8 (some .int) 5 [vR 2, vI x, vI u, vI v, vI w, vI y] (M) (some (vI (-1))) (upM M 2 6 0) := by
  refine AF.of k_LJ_guess (lo := [some (vR 2), some (vI x), some (vI u), some (vI v), some (vI w), some (vI y), none, none]) rfl (Nat.le_of_ble_eq_true rfl) (fun X hX hR => ?_)
  refine v_aload_n (pc := 0) hX rfl d_LJ_guess_0 ?_
  refine v_iload_n (pc := 1) hX rfl d_LJ_guess_1 ?_
  refine f_callV (pc := 2) hX k_LJ_sheetAt ki_LJ_sheetAt kv_LJ_sheetAt ml_LJ_57 (C_LJ_sheetAt_out hx) rfl rfl rfl rfl rfl (Nat.le_of_ble_eq_true rfl) (Nat.le_of_ble_eq_true rfl) (Nat.le_of_ble_eq_true rfl) d_LJ_guess_2 ?_
  refine v_astore (pc := 5) (lo' := [some (vR _), some (vI _), some (vI _), some (vI _), some (vI _), some (vI _), some (vR _), none]) hX (Nat.le_of_ble_eq_true rfl) rfl d_LJ_guess_5 ?_
  refine v_aload (pc := 7) hX rfl d_LJ_guess_7 ?_
  refine v_ifnonnull (pc := 9) (tgt := 18) hX d_LJ_guess_9 rfl (fun h9 => False.elim (by revert h9; decide)) (fun h9 => ?_)
  refine v_aload_n (pc := 12) hX rfl d_LJ_guess_12 ?_
  refine v_iconst (pc := 13) (v := (-1)) hX (by decide) d_LJ_guess_13 ?_
  refine f_callV (pc := 14) hX k_LJ_refused ki_LJ_refused kv_LJ_refused ml_LJ_61 (C_LJ_refused) rfl rfl rfl rfl rfl (Nat.le_of_ble_eq_true rfl) (Nat.le_of_ble_eq_true rfl) (Nat.le_of_ble_eq_true rfl) d_LJ_guess_14 ?_
  exact f_iret (pc := 17) hX hR (rfl) (rfl) d_LJ_guess_17
theorem C_LJ_guess_bad {M : MM} {k : Nat} {u v w y : Int32} (hk : k < 4) (hb : (rg u 0 2 && (rg w 0 10 && rg y 0 2)) = false) : AF y_LJ_guess c_LJ_guess 8 (some .int) 5 [vR 2, vI (i3 k), vI u, vI v, vI w, vI y] (M) (some (vI (-2))) (upM M 2 6 0) := by
  have hr := sh_sheet k hk
  have hn := nf_cells k hk
  have hc := sh_cells k hk
  refine AF.of k_LJ_guess (lo := [some (vR 2), some (vI (i3 k)), some (vI u), some (vI v), some (vI w), some (vI y), none, none]) rfl (Nat.le_of_ble_eq_true rfl) (fun X hX hR => ?_)
  refine v_aload_n (pc := 0) hX rfl d_LJ_guess_0 ?_
  refine v_iload_n (pc := 1) hX rfl d_LJ_guess_1 ?_
  refine f_callV (pc := 2) hX k_LJ_sheetAt ki_LJ_sheetAt kv_LJ_sheetAt ml_LJ_57 (C_LJ_sheetAt_in hk) rfl rfl rfl rfl rfl (Nat.le_of_ble_eq_true rfl) (Nat.le_of_ble_eq_true rfl) (Nat.le_of_ble_eq_true rfl) d_LJ_guess_2 ?_
  refine v_astore (pc := 5) (lo' := [some (vR _), some (vI _), some (vI _), some (vI _), some (vI _), some (vI _), some (vR _), none]) hX (Nat.le_of_ble_eq_true rfl) rfl d_LJ_guess_5 ?_
  refine v_aload (pc := 7) hX rfl d_LJ_guess_7 ?_
  refine v_ifnonnull (pc := 9) (tgt := 18) hX d_LJ_guess_9 rfl (fun h9 => ?_) (fun h9 => False.elim (by have := sh_two (by assumption); omega))
  refine v_iload_n (pc := 18) hX rfl d_LJ_guess_18 ?_
  refine v_iconst (pc := 19) (v := 3) hX (by decide) d_LJ_guess_19 ?_
  refine f_callS (pc := 20) hX k_LJ_isBelow ks_LJ_isBelow ml_LJ_65 (C_LJ_isBelow) rfl rfl rfl (Nat.le_of_ble_eq_true rfl) (Nat.le_of_ble_eq_true rfl) (Nat.le_of_ble_eq_true rfl) d_LJ_guess_20 ?_
  rw [show (3 : Int32).toInt - 1 = 2 from rfl]
  refine f_ifeqB (pc := 23) (tgt := 45) hX d_LJ_guess_23 rfl (fun h23 => ?_) (fun h23 => ?_)
  · refine v_aload_n (pc := 45) hX rfl d_LJ_guess_45 ?_
    refine v_bipush (pc := 46) (v := (-2)) hX (by decide) d_LJ_guess_46 ?_
    refine f_callV (pc := 48) hX k_LJ_refused ki_LJ_refused kv_LJ_refused ml_LJ_61 (C_LJ_refused) rfl rfl rfl rfl rfl (Nat.le_of_ble_eq_true rfl) (Nat.le_of_ble_eq_true rfl) (Nat.le_of_ble_eq_true rfl) d_LJ_guess_48 ?_
    exact f_iret (pc := 51) hX hR (rfl) (rfl) d_LJ_guess_51
  · refine v_iload (pc := 26) hX rfl d_LJ_guess_26 ?_
    refine v_bipush (pc := 28) (v := 11) hX (by decide) d_LJ_guess_28 ?_
    refine f_callS (pc := 30) hX k_LJ_isBelow ks_LJ_isBelow ml_LJ_65 (C_LJ_isBelow) rfl rfl rfl (Nat.le_of_ble_eq_true rfl) (Nat.le_of_ble_eq_true rfl) (Nat.le_of_ble_eq_true rfl) d_LJ_guess_30 ?_
    rw [show (11 : Int32).toInt - 1 = 10 from rfl]
    refine f_ifeqB (pc := 33) (tgt := 45) hX d_LJ_guess_33 rfl (fun h33 => ?_) (fun h33 => ?_)
    · refine v_aload_n (pc := 45) hX rfl d_LJ_guess_45 ?_
      refine v_bipush (pc := 46) (v := (-2)) hX (by decide) d_LJ_guess_46 ?_
      refine f_callV (pc := 48) hX k_LJ_refused ki_LJ_refused kv_LJ_refused ml_LJ_61 (C_LJ_refused) rfl rfl rfl rfl rfl (Nat.le_of_ble_eq_true rfl) (Nat.le_of_ble_eq_true rfl) (Nat.le_of_ble_eq_true rfl) d_LJ_guess_48 ?_
      exact f_iret (pc := 51) hX hR (rfl) (rfl) d_LJ_guess_51
    · refine v_iload (pc := 36) hX rfl d_LJ_guess_36 ?_
      refine v_iconst (pc := 38) (v := 3) hX (by decide) d_LJ_guess_38 ?_
      refine f_callS (pc := 39) hX k_LJ_isBelow ks_LJ_isBelow ml_LJ_65 (C_LJ_isBelow) rfl rfl rfl (Nat.le_of_ble_eq_true rfl) (Nat.le_of_ble_eq_true rfl) (Nat.le_of_ble_eq_true rfl) d_LJ_guess_39 ?_
      rw [show (3 : Int32).toInt - 1 = 2 from rfl]
      refine f_ifneB (pc := 42) (tgt := 52) hX d_LJ_guess_42 rfl (fun h42 => False.elim (by rw [h23, h33, h42] at hb; cases hb)) (fun h42 => ?_)
      refine v_aload_n (pc := 45) hX rfl d_LJ_guess_45 ?_
      refine v_bipush (pc := 46) (v := (-2)) hX (by decide) d_LJ_guess_46 ?_
      refine f_callV (pc := 48) hX k_LJ_refused ki_LJ_refused kv_LJ_refused ml_LJ_61 (C_LJ_refused) rfl rfl rfl rfl rfl (Nat.le_of_ble_eq_true rfl) (Nat.le_of_ble_eq_true rfl) (Nat.le_of_ble_eq_true rfl) d_LJ_guess_48 ?_
      exact f_iret (pc := 51) hX hR (rfl) (rfl) d_LJ_guess_51
theorem C_LJ_guess_no {M : MM} {k m n : Nat} {J : JT} {u v y : Int32} (hJ : CJ M n J) (hk : k < 4) (hu : rg u 0 2 = true) (hm : m < 11) (hy : rg y 0 2 = true) (h0 : n = 0) : AF y_LJ_guess c_LJ_guess 8 (some .int) 5 [vR 2, vI (i3 k), vI u, vI v, vI (i3 m), vI y] (M) (some (vI (-3))) (upM M 2 6 0) := by
  have hr := sh_sheet k hk
  have hn := nf_cells k hk
  have hc := sh_cells k hk
  refine AF.of k_LJ_guess (lo := [some (vR 2), some (vI (i3 k)), some (vI u), some (vI v), some (vI (i3 m)), some (vI y), none, none]) rfl (Nat.le_of_ble_eq_true rfl) (fun X hX hR => ?_)
  refine v_aload_n (pc := 0) hX rfl d_LJ_guess_0 ?_
  refine v_iload_n (pc := 1) hX rfl d_LJ_guess_1 ?_
  refine f_callV (pc := 2) hX k_LJ_sheetAt ki_LJ_sheetAt kv_LJ_sheetAt ml_LJ_57 (C_LJ_sheetAt_in hk) rfl rfl rfl rfl rfl (Nat.le_of_ble_eq_true rfl) (Nat.le_of_ble_eq_true rfl) (Nat.le_of_ble_eq_true rfl) d_LJ_guess_2 ?_
  refine v_astore (pc := 5) (lo' := [some (vR _), some (vI _), some (vI _), some (vI _), some (vI _), some (vI _), some (vR _), none]) hX (Nat.le_of_ble_eq_true rfl) rfl d_LJ_guess_5 ?_
  refine v_aload (pc := 7) hX rfl d_LJ_guess_7 ?_
  refine v_ifnonnull (pc := 9) (tgt := 18) hX d_LJ_guess_9 rfl (fun h9 => ?_) (fun h9 => False.elim (by have := sh_two (by assumption); omega))
  refine v_iload_n (pc := 18) hX rfl d_LJ_guess_18 ?_
  refine v_iconst (pc := 19) (v := 3) hX (by decide) d_LJ_guess_19 ?_
  refine f_callS (pc := 20) hX k_LJ_isBelow ks_LJ_isBelow ml_LJ_65 (C_LJ_isBelow) rfl rfl rfl (Nat.le_of_ble_eq_true rfl) (Nat.le_of_ble_eq_true rfl) (Nat.le_of_ble_eq_true rfl) d_LJ_guess_20 ?_
  rw [show (3 : Int32).toInt - 1 = 2 from rfl]
  refine f_ifeqB (pc := 23) (tgt := 45) hX d_LJ_guess_23 rfl (fun h23 => False.elim (by rw [hu] at h23; cases h23)) (fun h23 => ?_)
  refine v_iload (pc := 26) hX rfl d_LJ_guess_26 ?_
  refine v_bipush (pc := 28) (v := 11) hX (by decide) d_LJ_guess_28 ?_
  refine f_callS (pc := 30) hX k_LJ_isBelow ks_LJ_isBelow ml_LJ_65 (C_LJ_isBelow) rfl rfl rfl (Nat.le_of_ble_eq_true rfl) (Nat.le_of_ble_eq_true rfl) (Nat.le_of_ble_eq_true rfl) d_LJ_guess_30 ?_
  rw [show (11 : Int32).toInt - 1 = 10 from rfl]
  refine f_ifeqB (pc := 33) (tgt := 45) hX d_LJ_guess_33 rfl (fun h33 => False.elim (by rw [show rg (i3 m) 0 10 = true from rg_i3 (n := 11) hm (by decide)] at h33; cases h33)) (fun h33 => ?_)
  refine v_iload (pc := 36) hX rfl d_LJ_guess_36 ?_
  refine v_iconst (pc := 38) (v := 3) hX (by decide) d_LJ_guess_38 ?_
  refine f_callS (pc := 39) hX k_LJ_isBelow ks_LJ_isBelow ml_LJ_65 (C_LJ_isBelow) rfl rfl rfl (Nat.le_of_ble_eq_true rfl) (Nat.le_of_ble_eq_true rfl) (Nat.le_of_ble_eq_true rfl) d_LJ_guess_39 ?_
  rw [show (3 : Int32).toInt - 1 = 2 from rfl]
  refine f_ifneB (pc := 42) (tgt := 52) hX d_LJ_guess_42 rfl (fun h42 => ?_) (fun h42 => False.elim (by rw [hy] at h42; cases h42))
  refine v_aload_n (pc := 52) hX rfl d_LJ_guess_52 ?_
  refine g_getR (pc := 53) hX fl_LJ_12 rfl rfl nf_2_0 d_LJ_guess_53 ?_
  refine f_callV (pc := 56) hX k_Sp_isMissing ki_Sp_isMissing kv_Sp_isMissing ml_LJ_118 (C_Sp_isMissing hJ) rfl rfl rfl rfl rfl (Nat.le_of_ble_eq_true rfl) (Nat.le_of_ble_eq_true rfl) (Nat.le_of_ble_eq_true rfl) d_LJ_guess_56 ?_
  refine f_ifeqB (pc := 59) (tgt := 69) hX d_LJ_guess_59 rfl (fun h59 => False.elim (by rw [decide_eq_true h0] at h59; cases h59)) (fun h59 => ?_)
  refine v_aload_n (pc := 62) hX rfl d_LJ_guess_62 ?_
  refine v_bipush (pc := 63) (v := (-3)) hX (by decide) d_LJ_guess_63 ?_
  refine f_callV (pc := 65) hX k_LJ_refused ki_LJ_refused kv_LJ_refused ml_LJ_61 (C_LJ_refused) rfl rfl rfl rfl rfl (Nat.le_of_ble_eq_true rfl) (Nat.le_of_ble_eq_true rfl) (Nat.le_of_ble_eq_true rfl) d_LJ_guess_65 ?_
  exact f_iret (pc := 68) hX hR (rfl) (rfl) d_LJ_guess_68
theorem C_LJ_guess_fail {M : MM} {k m n : Nat} {J : JT} {u v y : Int32} (hJ : CJ M n J) (hk : k < 4) (hu : rg u 0 2 = true) (hm : m < 11) (hy : rg y 0 2 = true) {zs : Nat → Nat} {ln : Nat → Int32} {C : JT} (hZ : CZ M zs ln C) (h0 : ¬ n = 0) (hf : ¬ flt (zs k) (ln k) u v (i3 m) = 0) : AF y_LJ_guess c_LJ_guess 8 (some .int) 5 [vR 2, vI (i3 k), vI u, vI v, vI (i3 m), vI y] (M) (some (vI (-10 - flt (zs k) (ln k) u v (i3 m)))) (upM M 2 6 (flt (zs k) (ln k) u v (i3 m))) := by
  have hr := sh_sheet k hk
  have hn := nf_cells k hk
  have hc := sh_cells k hk
  refine AF.of k_LJ_guess (lo := [some (vR 2), some (vI (i3 k)), some (vI u), some (vI v), some (vI (i3 m)), some (vI y), none, none]) rfl (Nat.le_of_ble_eq_true rfl) (fun X hX hR => ?_)
  refine v_aload_n (pc := 0) hX rfl d_LJ_guess_0 ?_
  refine v_iload_n (pc := 1) hX rfl d_LJ_guess_1 ?_
  refine f_callV (pc := 2) hX k_LJ_sheetAt ki_LJ_sheetAt kv_LJ_sheetAt ml_LJ_57 (C_LJ_sheetAt_in hk) rfl rfl rfl rfl rfl (Nat.le_of_ble_eq_true rfl) (Nat.le_of_ble_eq_true rfl) (Nat.le_of_ble_eq_true rfl) d_LJ_guess_2 ?_
  refine v_astore (pc := 5) (lo' := [some (vR _), some (vI _), some (vI _), some (vI _), some (vI _), some (vI _), some (vR _), none]) hX (Nat.le_of_ble_eq_true rfl) rfl d_LJ_guess_5 ?_
  refine v_aload (pc := 7) hX rfl d_LJ_guess_7 ?_
  refine v_ifnonnull (pc := 9) (tgt := 18) hX d_LJ_guess_9 rfl (fun h9 => ?_) (fun h9 => False.elim (by have := sh_two (by assumption); omega))
  refine v_iload_n (pc := 18) hX rfl d_LJ_guess_18 ?_
  refine v_iconst (pc := 19) (v := 3) hX (by decide) d_LJ_guess_19 ?_
  refine f_callS (pc := 20) hX k_LJ_isBelow ks_LJ_isBelow ml_LJ_65 (C_LJ_isBelow) rfl rfl rfl (Nat.le_of_ble_eq_true rfl) (Nat.le_of_ble_eq_true rfl) (Nat.le_of_ble_eq_true rfl) d_LJ_guess_20 ?_
  rw [show (3 : Int32).toInt - 1 = 2 from rfl]
  refine f_ifeqB (pc := 23) (tgt := 45) hX d_LJ_guess_23 rfl (fun h23 => False.elim (by rw [hu] at h23; cases h23)) (fun h23 => ?_)
  refine v_iload (pc := 26) hX rfl d_LJ_guess_26 ?_
  refine v_bipush (pc := 28) (v := 11) hX (by decide) d_LJ_guess_28 ?_
  refine f_callS (pc := 30) hX k_LJ_isBelow ks_LJ_isBelow ml_LJ_65 (C_LJ_isBelow) rfl rfl rfl (Nat.le_of_ble_eq_true rfl) (Nat.le_of_ble_eq_true rfl) (Nat.le_of_ble_eq_true rfl) d_LJ_guess_30 ?_
  rw [show (11 : Int32).toInt - 1 = 10 from rfl]
  refine f_ifeqB (pc := 33) (tgt := 45) hX d_LJ_guess_33 rfl (fun h33 => False.elim (by rw [show rg (i3 m) 0 10 = true from rg_i3 (n := 11) hm (by decide)] at h33; cases h33)) (fun h33 => ?_)
  refine v_iload (pc := 36) hX rfl d_LJ_guess_36 ?_
  refine v_iconst (pc := 38) (v := 3) hX (by decide) d_LJ_guess_38 ?_
  refine f_callS (pc := 39) hX k_LJ_isBelow ks_LJ_isBelow ml_LJ_65 (C_LJ_isBelow) rfl rfl rfl (Nat.le_of_ble_eq_true rfl) (Nat.le_of_ble_eq_true rfl) (Nat.le_of_ble_eq_true rfl) d_LJ_guess_39 ?_
  rw [show (3 : Int32).toInt - 1 = 2 from rfl]
  refine f_ifneB (pc := 42) (tgt := 52) hX d_LJ_guess_42 rfl (fun h42 => ?_) (fun h42 => False.elim (by rw [hy] at h42; cases h42))
  refine v_aload_n (pc := 52) hX rfl d_LJ_guess_52 ?_
  refine g_getR (pc := 53) hX fl_LJ_12 rfl rfl nf_2_0 d_LJ_guess_53 ?_
  refine f_callV (pc := 56) hX k_Sp_isMissing ki_Sp_isMissing kv_Sp_isMissing ml_LJ_118 (C_Sp_isMissing hJ) rfl rfl rfl rfl rfl (Nat.le_of_ble_eq_true rfl) (Nat.le_of_ble_eq_true rfl) (Nat.le_of_ble_eq_true rfl) d_LJ_guess_56 ?_
  refine f_ifeqB (pc := 59) (tgt := 69) hX d_LJ_guess_59 rfl (fun h59 => ?_) (fun h59 => False.elim (by rw [decide_eq_false h0] at h59; cases h59))
  refine v_aload (pc := 69) hX rfl d_LJ_guess_69 ?_
  refine v_iload_n (pc := 71) hX rfl d_LJ_guess_71 ?_
  refine v_iload_n (pc := 72) hX rfl d_LJ_guess_72 ?_
  refine v_iload (pc := 73) hX rfl d_LJ_guess_73 ?_
  refine f_callV (pc := 75) hX k_Sh_faultOf ki_Sh_faultOf kv_Sh_faultOf ml_LJ_69 (C_Sh_faultOf (by assumption)) (by assumption) rfl rfl rfl rfl (Nat.le_of_ble_eq_true rfl) (Nat.le_of_ble_eq_true rfl) (Nat.le_of_ble_eq_true rfl) d_LJ_guess_75 ?_
  rw [flt_eq hZ hk]
  refine v_istore (pc := 78) (lo' := [some (vR _), some (vI _), some (vI _), some (vI _), some (vI _), some (vI _), some (vR _), some (vI _)]) hX (Nat.le_of_ble_eq_true rfl) rfl d_LJ_guess_78 ?_
  refine v_iload (pc := 80) hX rfl d_LJ_guess_80 ?_
  refine v_if_eq (pc := 82) (tgt := 92) hX d_LJ_guess_82 rfl (fun h82 => False.elim (hf h82)) (fun h82 => ?_)
  refine v_aload_n (pc := 85) hX rfl d_LJ_guess_85 ?_
  refine v_iload (pc := 86) hX rfl d_LJ_guess_86 ?_
  refine f_callV (pc := 88) hX k_LJ_failed ki_LJ_failed kv_LJ_failed ml_LJ_73 (C_LJ_failed) rfl rfl rfl rfl rfl (Nat.le_of_ble_eq_true rfl) (Nat.le_of_ble_eq_true rfl) (Nat.le_of_ble_eq_true rfl) d_LJ_guess_88 ?_
  exact f_iret (pc := 91) hX hR (rfl) (rfl) d_LJ_guess_91
theorem C_LJ_guess_ok {M : MM} {k m n a : Nat} {J : JT} {y : Int32} (hJ : CJ M n J) (hk : k < 4) (hm : m < 11) (hy : rg y 0 2 = true) {zs : Nat → Nat} {ln : Nat → Int32} {C : JT} (hZ : CZ M zs ln C) (hu : rg (ln k) 0 2 = true) (h0 : ¬ n = 0) (hz : zs k ≠ 0) (ham : a + m ≤ zs k - 1) : AF y_LJ_guess c_LJ_guess 8 (some .int) 5 [vR 2, vI (i3 k), vI (ln k), vI (i3 a), vI (i3 m), vI y] (M) (some (vI (guN J n (fun t => C k (a + t)) m y))) (upM M 2 6 0) := by
  have hr := sh_sheet k hk
  have hn := nf_cells k hk
  have hc := sh_cells k hk
  obtain ⟨z1, z2, z3⟩ := hZ k hk
  obtain ⟨z4, z5, z6, z7⟩ := z3 hz
  have h60 : a + m ≤ 60 := by omega
  have hflt := flt_ok (l := ln k) hz z1 ham
  have hq : ∀ t, t < m → upM M 2 6 0 (29 + 2 * k) (a + t) = (fun t => C k (a + t)) t := fun t ht => by rw [upM_ne (by omega)]; exact z7 _ (by omega)
  have hJ1 : CJ (upM M 2 6 0) n J := hJ.up2
  refine AF.of k_LJ_guess (lo := [some (vR 2), some (vI (i3 k)), some (vI (ln k)), some (vI (i3 a)), some (vI (i3 m)), some (vI y), none, none]) rfl (Nat.le_of_ble_eq_true rfl) (fun X hX hR => ?_)
  refine v_aload_n (pc := 0) hX rfl d_LJ_guess_0 ?_
  refine v_iload_n (pc := 1) hX rfl d_LJ_guess_1 ?_
  refine f_callV (pc := 2) hX k_LJ_sheetAt ki_LJ_sheetAt kv_LJ_sheetAt ml_LJ_57 (C_LJ_sheetAt_in hk) rfl rfl rfl rfl rfl (Nat.le_of_ble_eq_true rfl) (Nat.le_of_ble_eq_true rfl) (Nat.le_of_ble_eq_true rfl) d_LJ_guess_2 ?_
  refine v_astore (pc := 5) (lo' := [some (vR _), some (vI _), some (vI _), some (vI _), some (vI _), some (vI _), some (vR _), none]) hX (Nat.le_of_ble_eq_true rfl) rfl d_LJ_guess_5 ?_
  refine v_aload (pc := 7) hX rfl d_LJ_guess_7 ?_
  refine v_ifnonnull (pc := 9) (tgt := 18) hX d_LJ_guess_9 rfl (fun h9 => ?_) (fun h9 => False.elim (by have := sh_two (by assumption); omega))
  refine v_iload_n (pc := 18) hX rfl d_LJ_guess_18 ?_
  refine v_iconst (pc := 19) (v := 3) hX (by decide) d_LJ_guess_19 ?_
  refine f_callS (pc := 20) hX k_LJ_isBelow ks_LJ_isBelow ml_LJ_65 (C_LJ_isBelow) rfl rfl rfl (Nat.le_of_ble_eq_true rfl) (Nat.le_of_ble_eq_true rfl) (Nat.le_of_ble_eq_true rfl) d_LJ_guess_20 ?_
  rw [show (3 : Int32).toInt - 1 = 2 from rfl]
  refine f_ifeqB (pc := 23) (tgt := 45) hX d_LJ_guess_23 rfl (fun h23 => False.elim (by rw [hu] at h23; cases h23)) (fun h23 => ?_)
  refine v_iload (pc := 26) hX rfl d_LJ_guess_26 ?_
  refine v_bipush (pc := 28) (v := 11) hX (by decide) d_LJ_guess_28 ?_
  refine f_callS (pc := 30) hX k_LJ_isBelow ks_LJ_isBelow ml_LJ_65 (C_LJ_isBelow) rfl rfl rfl (Nat.le_of_ble_eq_true rfl) (Nat.le_of_ble_eq_true rfl) (Nat.le_of_ble_eq_true rfl) d_LJ_guess_30 ?_
  rw [show (11 : Int32).toInt - 1 = 10 from rfl]
  refine f_ifeqB (pc := 33) (tgt := 45) hX d_LJ_guess_33 rfl (fun h33 => False.elim (by rw [show rg (i3 m) 0 10 = true from rg_i3 (n := 11) hm (by decide)] at h33; cases h33)) (fun h33 => ?_)
  refine v_iload (pc := 36) hX rfl d_LJ_guess_36 ?_
  refine v_iconst (pc := 38) (v := 3) hX (by decide) d_LJ_guess_38 ?_
  refine f_callS (pc := 39) hX k_LJ_isBelow ks_LJ_isBelow ml_LJ_65 (C_LJ_isBelow) rfl rfl rfl (Nat.le_of_ble_eq_true rfl) (Nat.le_of_ble_eq_true rfl) (Nat.le_of_ble_eq_true rfl) d_LJ_guess_39 ?_
  rw [show (3 : Int32).toInt - 1 = 2 from rfl]
  refine f_ifneB (pc := 42) (tgt := 52) hX d_LJ_guess_42 rfl (fun h42 => ?_) (fun h42 => False.elim (by rw [hy] at h42; cases h42))
  refine v_aload_n (pc := 52) hX rfl d_LJ_guess_52 ?_
  refine g_getR (pc := 53) hX fl_LJ_12 rfl rfl nf_2_0 d_LJ_guess_53 ?_
  refine f_callV (pc := 56) hX k_Sp_isMissing ki_Sp_isMissing kv_Sp_isMissing ml_LJ_118 (C_Sp_isMissing hJ) rfl rfl rfl rfl rfl (Nat.le_of_ble_eq_true rfl) (Nat.le_of_ble_eq_true rfl) (Nat.le_of_ble_eq_true rfl) d_LJ_guess_56 ?_
  refine f_ifeqB (pc := 59) (tgt := 69) hX d_LJ_guess_59 rfl (fun h59 => ?_) (fun h59 => False.elim (by rw [decide_eq_false h0] at h59; cases h59))
  refine v_aload (pc := 69) hX rfl d_LJ_guess_69 ?_
  refine v_iload_n (pc := 71) hX rfl d_LJ_guess_71 ?_
  refine v_iload_n (pc := 72) hX rfl d_LJ_guess_72 ?_
  refine v_iload (pc := 73) hX rfl d_LJ_guess_73 ?_
  refine f_callV (pc := 75) hX k_Sh_faultOf ki_Sh_faultOf kv_Sh_faultOf ml_LJ_69 (C_Sh_faultOf (by assumption)) (by assumption) rfl rfl rfl rfl (Nat.le_of_ble_eq_true rfl) (Nat.le_of_ble_eq_true rfl) (Nat.le_of_ble_eq_true rfl) d_LJ_guess_75 ?_
  rw [flt_eq hZ hk, hflt]
  refine v_istore (pc := 78) (lo' := [some (vR _), some (vI _), some (vI _), some (vI _), some (vI _), some (vI _), some (vR _), some (vI _)]) hX (Nat.le_of_ble_eq_true rfl) rfl d_LJ_guess_78 ?_
  refine v_iload (pc := 80) hX rfl d_LJ_guess_80 ?_
  refine v_if_eq (pc := 82) (tgt := 92) hX d_LJ_guess_82 rfl (fun h82 => ?_) (fun h82 => False.elim (h82 rfl))
  refine v_aload_n (pc := 92) hX rfl d_LJ_guess_92 ?_
  refine v_iconst (pc := 93) (v := 0) hX (by decide) d_LJ_guess_93 ?_
  refine g_putI (pc := 94) hX fl_LJ_52 rfl (finI rfl rfl) rfl rfl rfl d_LJ_guess_94 ?_
  refine v_iload (pc := 97) hX rfl d_LJ_guess_97 ?_
  refine v_top (fun y99 q99 => ?_)
  by_cases e99_0 : y99 = 0
  · subst e99_0
    refine v_look (pc := 99) (tgt := 124) (off := 25) hX d_LJ_guess_99 (by decide) (by decide) rfl ?_
    refine v_aload_n (pc := 124) hX rfl d_LJ_guess_124 ?_
    refine g_getR (pc := 125) hX fl_LJ_12 rfl rfl nf_2_0 d_LJ_guess_125 ?_
    refine v_aload (pc := 128) hX rfl d_LJ_guess_128 ?_
    refine v_iload_n (pc := 130) hX rfl d_LJ_guess_130 ?_
    refine v_iload (pc := 131) hX rfl d_LJ_guess_131 ?_
    refine f_callS (pc := 133) hX k_Gu_jars ks_Gu_jars ml_LJ_177 (C_Gu_jars hJ1 hr hn hc h60 hq) rfl rfl rfl (Nat.le_of_ble_eq_true rfl) (Nat.le_of_ble_eq_true rfl) (Nat.le_of_ble_eq_true rfl) d_LJ_guess_133 ?_
    exact f_iret (pc := 136) hX hR (by unfold guN; rw [q99, if_pos rfl]) (rfl) d_LJ_guess_136
  by_cases e99_1 : y99 = 1
  · subst e99_1
    refine v_look (pc := 99) (tgt := 137) (off := 38) hX d_LJ_guess_99 (by decide) (by decide) rfl ?_
    refine v_aload_n (pc := 137) hX rfl d_LJ_guess_137 ?_
    refine g_getR (pc := 138) hX fl_LJ_12 rfl rfl nf_2_0 d_LJ_guess_138 ?_
    refine v_aload (pc := 141) hX rfl d_LJ_guess_141 ?_
    refine v_iload_n (pc := 143) hX rfl d_LJ_guess_143 ?_
    refine v_iload (pc := 144) hX rfl d_LJ_guess_144 ?_
    refine f_callS (pc := 146) hX k_Gu_howManyPairs ks_Gu_howManyPairs ml_LJ_183 (C_Gu_howManyPairs hJ1 hr hn hc h60 hq) rfl rfl rfl (Nat.le_of_ble_eq_true rfl) (Nat.le_of_ble_eq_true rfl) (Nat.le_of_ble_eq_true rfl) d_LJ_guess_146 ?_
    exact f_iret (pc := 149) hX hR (by unfold guN; rw [q99, if_neg (by decide), if_pos rfl]) (rfl) d_LJ_guess_149
  refine v_look (pc := 99) (tgt := 150) hX d_LJ_guess_99 (by decide) (look_out (by simp only [eq32, q_0, q_1, q_2, q_3, q_4, q_5, q_6, q_7, q_8, q_9, q_10, q_11, q_12, q_15, q_16, q_20, q_21, q_23, q_24, q_29, q_31, q_44, q_48, q_59, q_60, q_61, q_63, q_99, q_100, q_108, q_112, q_116, q_119, q_240, q_m1, q_m9] at e99_0 e99_1; simp; omega)) rfl ?_
  refine v_aload_n (pc := 150) hX rfl d_LJ_guess_150 ?_
  refine g_getR (pc := 151) hX fl_LJ_12 rfl rfl nf_2_0 d_LJ_guess_151 ?_
  refine v_aload (pc := 154) hX rfl d_LJ_guess_154 ?_
  refine v_iload_n (pc := 156) hX rfl d_LJ_guess_156 ?_
  refine v_iload (pc := 157) hX rfl d_LJ_guess_157 ?_
  refine f_callS (pc := 159) hX k_Gu_leastPair ks_Gu_leastPair ml_LJ_186 (C_Gu_leastPair hJ1 hr hn hc h60 hq) rfl rfl rfl (Nat.le_of_ble_eq_true rfl) (Nat.le_of_ble_eq_true rfl) (Nat.le_of_ble_eq_true rfl) d_LJ_guess_159 ?_
  exact f_iret (pc := 162) hX hR (by unfold guN; rw [q99, if_neg e99_0, if_neg e99_1]) (rfl) d_LJ_guess_162
theorem d_LJ_sheet_0 : decode c_LJ_sheet 0 = .ok (.aload_n 0, 1) := by decide +kernel
theorem d_LJ_sheet_1 : decode c_LJ_sheet 1 = .ok (.iload_n 1, 1) := by decide +kernel
theorem d_LJ_sheet_2 : decode c_LJ_sheet 2 = .ok (.invokevirtual 57, 3) := by decide +kernel
theorem d_LJ_sheet_5 : decode c_LJ_sheet 5 = .ok (.astore 4, 2) := by decide +kernel
theorem d_LJ_sheet_7 : decode c_LJ_sheet 7 = .ok (.aload 4, 2) := by decide +kernel
theorem d_LJ_sheet_9 : decode c_LJ_sheet 9 = .ok (.ifnonnull 9, 3) := by decide +kernel
theorem d_LJ_sheet_12 : decode c_LJ_sheet 12 = .ok (.aload_n 0, 1) := by decide +kernel
theorem d_LJ_sheet_13 : decode c_LJ_sheet 13 = .ok (.iconst (-1), 1) := by decide +kernel
theorem d_LJ_sheet_14 : decode c_LJ_sheet 14 = .ok (.invokevirtual 61, 3) := by decide +kernel
theorem d_LJ_sheet_17 : decode c_LJ_sheet 17 = .ok (.ireturn, 1) := by decide +kernel
theorem d_LJ_sheet_18 : decode c_LJ_sheet 18 = .ok (.iload_n 2, 1) := by decide +kernel
theorem d_LJ_sheet_19 : decode c_LJ_sheet 19 = .ok (.iconst 3, 1) := by decide +kernel
theorem d_LJ_sheet_20 : decode c_LJ_sheet 20 = .ok (.invokestatic 65, 3) := by decide +kernel
theorem d_LJ_sheet_23 : decode c_LJ_sheet 23 = .ok (.ifCond .eq 9, 3) := by decide +kernel
theorem d_LJ_sheet_26 : decode c_LJ_sheet 26 = .ok (.iload_n 3, 1) := by decide +kernel
theorem d_LJ_sheet_27 : decode c_LJ_sheet 27 = .ok (.bipush 60, 2) := by decide +kernel
theorem d_LJ_sheet_29 : decode c_LJ_sheet 29 = .ok (.if_icmp .le 10, 3) := by decide +kernel
theorem d_LJ_sheet_32 : decode c_LJ_sheet 32 = .ok (.aload_n 0, 1) := by decide +kernel
theorem d_LJ_sheet_33 : decode c_LJ_sheet 33 = .ok (.bipush (-2), 2) := by decide +kernel
theorem d_LJ_sheet_35 : decode c_LJ_sheet 35 = .ok (.invokevirtual 61, 3) := by decide +kernel
theorem d_LJ_sheet_38 : decode c_LJ_sheet 38 = .ok (.ireturn, 1) := by decide +kernel
theorem d_LJ_sheet_39 : decode c_LJ_sheet 39 = .ok (.iload_n 3, 1) := by decide +kernel
theorem d_LJ_sheet_40 : decode c_LJ_sheet 40 = .ok (.ifCond .ge 9, 3) := by decide +kernel
theorem d_LJ_sheet_43 : decode c_LJ_sheet 43 = .ok (.aload_n 0, 1) := by decide +kernel
theorem d_LJ_sheet_44 : decode c_LJ_sheet 44 = .ok (.iconst 4, 1) := by decide +kernel
theorem d_LJ_sheet_45 : decode c_LJ_sheet 45 = .ok (.invokevirtual 73, 3) := by decide +kernel
theorem d_LJ_sheet_48 : decode c_LJ_sheet 48 = .ok (.ireturn, 1) := by decide +kernel
theorem d_LJ_sheet_49 : decode c_LJ_sheet 49 = .ok (.aload_n 0, 1) := by decide +kernel
theorem d_LJ_sheet_50 : decode c_LJ_sheet 50 = .ok (.iconst 0, 1) := by decide +kernel
theorem d_LJ_sheet_51 : decode c_LJ_sheet 51 = .ok (.putfield 52, 3) := by decide +kernel
theorem d_LJ_sheet_54 : decode c_LJ_sheet 54 = .ok (.aload 4, 2) := by decide +kernel
theorem d_LJ_sheet_56 : decode c_LJ_sheet 56 = .ok (.iload_n 2, 1) := by decide +kernel
theorem d_LJ_sheet_57 : decode c_LJ_sheet 57 = .ok (.iload_n 3, 1) := by decide +kernel
theorem d_LJ_sheet_58 : decode c_LJ_sheet 58 = .ok (.invokevirtual 221, 3) := by decide +kernel
theorem d_LJ_sheet_61 : decode c_LJ_sheet 61 = .ok (.iconst 1, 1) := by decide +kernel
theorem d_LJ_sheet_62 : decode c_LJ_sheet 62 = .ok (.ireturn, 1) := by decide +kernel
theorem C_LJ_sheet_out {M : MM} {x : Int32} (hx : rg x 0 3 = false) {u v : Int32} : AF y_LJ_sheet c_LJ_sheet 5 (some .int) 3 [vR 2, vI x, vI u, vI v] (M) (some (vI (-1))) (upM M 2 6 0) := by
  refine AF.of k_LJ_sheet (lo := [some (vR 2), some (vI x), some (vI u), some (vI v), none]) rfl (Nat.le_of_ble_eq_true rfl) (fun X hX hR => ?_)
  refine v_aload_n (pc := 0) hX rfl d_LJ_sheet_0 ?_
  refine v_iload_n (pc := 1) hX rfl d_LJ_sheet_1 ?_
  refine f_callV (pc := 2) hX k_LJ_sheetAt ki_LJ_sheetAt kv_LJ_sheetAt ml_LJ_57 (C_LJ_sheetAt_out hx) rfl rfl rfl rfl rfl (Nat.le_of_ble_eq_true rfl) (Nat.le_of_ble_eq_true rfl) (Nat.le_of_ble_eq_true rfl) d_LJ_sheet_2 ?_
  refine v_astore (pc := 5) (lo' := [some (vR _), some (vI _), some (vI _), some (vI _), some (vR _)]) hX (Nat.le_of_ble_eq_true rfl) rfl d_LJ_sheet_5 ?_
  refine v_aload (pc := 7) hX rfl d_LJ_sheet_7 ?_
  refine v_ifnonnull (pc := 9) (tgt := 18) hX d_LJ_sheet_9 rfl (fun h9 => False.elim (by revert h9; decide)) (fun h9 => ?_)
  refine v_aload_n (pc := 12) hX rfl d_LJ_sheet_12 ?_
  refine v_iconst (pc := 13) (v := (-1)) hX (by decide) d_LJ_sheet_13 ?_
  refine f_callV (pc := 14) hX k_LJ_refused ki_LJ_refused kv_LJ_refused ml_LJ_61 (C_LJ_refused) rfl rfl rfl rfl rfl (Nat.le_of_ble_eq_true rfl) (Nat.le_of_ble_eq_true rfl) (Nat.le_of_ble_eq_true rfl) d_LJ_sheet_14 ?_
  exact f_iret (pc := 17) hX hR (rfl) (rfl) d_LJ_sheet_17
theorem C_LJ_sheet_bad {M : MM} {k : Nat} {u v : Int32} (hk : k < 4) (hb : (rg u 0 2 && decide (v ≤ 60)) = false) : AF y_LJ_sheet c_LJ_sheet 5 (some .int) 3 [vR 2, vI (i3 k), vI u, vI v] (M) (some (vI (-2))) (upM M 2 6 0) := by
  have hr := sh_sheet k hk
  have hn := nf_cells k hk
  have hc := sh_cells k hk
  refine AF.of k_LJ_sheet (lo := [some (vR 2), some (vI (i3 k)), some (vI u), some (vI v), none]) rfl (Nat.le_of_ble_eq_true rfl) (fun X hX hR => ?_)
  refine v_aload_n (pc := 0) hX rfl d_LJ_sheet_0 ?_
  refine v_iload_n (pc := 1) hX rfl d_LJ_sheet_1 ?_
  refine f_callV (pc := 2) hX k_LJ_sheetAt ki_LJ_sheetAt kv_LJ_sheetAt ml_LJ_57 (C_LJ_sheetAt_in hk) rfl rfl rfl rfl rfl (Nat.le_of_ble_eq_true rfl) (Nat.le_of_ble_eq_true rfl) (Nat.le_of_ble_eq_true rfl) d_LJ_sheet_2 ?_
  refine v_astore (pc := 5) (lo' := [some (vR _), some (vI _), some (vI _), some (vI _), some (vR _)]) hX (Nat.le_of_ble_eq_true rfl) rfl d_LJ_sheet_5 ?_
  refine v_aload (pc := 7) hX rfl d_LJ_sheet_7 ?_
  refine v_ifnonnull (pc := 9) (tgt := 18) hX d_LJ_sheet_9 rfl (fun h9 => ?_) (fun h9 => False.elim (by have := sh_two (by assumption); omega))
  refine v_iload_n (pc := 18) hX rfl d_LJ_sheet_18 ?_
  refine v_iconst (pc := 19) (v := 3) hX (by decide) d_LJ_sheet_19 ?_
  refine f_callS (pc := 20) hX k_LJ_isBelow ks_LJ_isBelow ml_LJ_65 (C_LJ_isBelow) rfl rfl rfl (Nat.le_of_ble_eq_true rfl) (Nat.le_of_ble_eq_true rfl) (Nat.le_of_ble_eq_true rfl) d_LJ_sheet_20 ?_
  rw [show (3 : Int32).toInt - 1 = 2 from rfl]
  refine f_ifeqB (pc := 23) (tgt := 32) hX d_LJ_sheet_23 rfl (fun h23 => ?_) (fun h23 => ?_)
  · refine v_aload_n (pc := 32) hX rfl d_LJ_sheet_32 ?_
    refine v_bipush (pc := 33) (v := (-2)) hX (by decide) d_LJ_sheet_33 ?_
    refine f_callV (pc := 35) hX k_LJ_refused ki_LJ_refused kv_LJ_refused ml_LJ_61 (C_LJ_refused) rfl rfl rfl rfl rfl (Nat.le_of_ble_eq_true rfl) (Nat.le_of_ble_eq_true rfl) (Nat.le_of_ble_eq_true rfl) d_LJ_sheet_35 ?_
    exact f_iret (pc := 38) hX hR (rfl) (rfl) d_LJ_sheet_38
  · refine v_iload_n (pc := 26) hX rfl d_LJ_sheet_26 ?_
    refine v_bipush (pc := 27) (v := 60) hX (by decide) d_LJ_sheet_27 ?_
    refine v_icmp_le (pc := 29) (tgt := 39) hX d_LJ_sheet_29 rfl (fun h29 => False.elim (by rw [h23, decide_eq_true h29] at hb; cases hb)) (fun h29 => ?_)
    refine v_aload_n (pc := 32) hX rfl d_LJ_sheet_32 ?_
    refine v_bipush (pc := 33) (v := (-2)) hX (by decide) d_LJ_sheet_33 ?_
    refine f_callV (pc := 35) hX k_LJ_refused ki_LJ_refused kv_LJ_refused ml_LJ_61 (C_LJ_refused) rfl rfl rfl rfl rfl (Nat.le_of_ble_eq_true rfl) (Nat.le_of_ble_eq_true rfl) (Nat.le_of_ble_eq_true rfl) d_LJ_sheet_35 ?_
    exact f_iret (pc := 38) hX hR (rfl) (rfl) d_LJ_sheet_38
theorem C_LJ_sheet_neg {M : MM} {k : Nat} {u v : Int32} (hk : k < 4) (hu : rg u 0 2 = true) (hv : v < 0) : AF y_LJ_sheet c_LJ_sheet 5 (some .int) 3 [vR 2, vI (i3 k), vI u, vI v] (M) (some (vI (-14))) (upM M 2 6 4) := by
  have hr := sh_sheet k hk
  have hn := nf_cells k hk
  have hc := sh_cells k hk
  refine AF.of k_LJ_sheet (lo := [some (vR 2), some (vI (i3 k)), some (vI u), some (vI v), none]) rfl (Nat.le_of_ble_eq_true rfl) (fun X hX hR => ?_)
  refine v_aload_n (pc := 0) hX rfl d_LJ_sheet_0 ?_
  refine v_iload_n (pc := 1) hX rfl d_LJ_sheet_1 ?_
  refine f_callV (pc := 2) hX k_LJ_sheetAt ki_LJ_sheetAt kv_LJ_sheetAt ml_LJ_57 (C_LJ_sheetAt_in hk) rfl rfl rfl rfl rfl (Nat.le_of_ble_eq_true rfl) (Nat.le_of_ble_eq_true rfl) (Nat.le_of_ble_eq_true rfl) d_LJ_sheet_2 ?_
  refine v_astore (pc := 5) (lo' := [some (vR _), some (vI _), some (vI _), some (vI _), some (vR _)]) hX (Nat.le_of_ble_eq_true rfl) rfl d_LJ_sheet_5 ?_
  refine v_aload (pc := 7) hX rfl d_LJ_sheet_7 ?_
  refine v_ifnonnull (pc := 9) (tgt := 18) hX d_LJ_sheet_9 rfl (fun h9 => ?_) (fun h9 => False.elim (by have := sh_two (by assumption); omega))
  refine v_iload_n (pc := 18) hX rfl d_LJ_sheet_18 ?_
  refine v_iconst (pc := 19) (v := 3) hX (by decide) d_LJ_sheet_19 ?_
  refine f_callS (pc := 20) hX k_LJ_isBelow ks_LJ_isBelow ml_LJ_65 (C_LJ_isBelow) rfl rfl rfl (Nat.le_of_ble_eq_true rfl) (Nat.le_of_ble_eq_true rfl) (Nat.le_of_ble_eq_true rfl) d_LJ_sheet_20 ?_
  rw [show (3 : Int32).toInt - 1 = 2 from rfl]
  refine f_ifeqB (pc := 23) (tgt := 32) hX d_LJ_sheet_23 rfl (fun h23 => False.elim (by rw [hu] at h23; cases h23)) (fun h23 => ?_)
  refine v_iload_n (pc := 26) hX rfl d_LJ_sheet_26 ?_
  refine v_bipush (pc := 27) (v := 60) hX (by decide) d_LJ_sheet_27 ?_
  refine v_icmp_le (pc := 29) (tgt := 39) hX d_LJ_sheet_29 rfl (fun h29 => ?_) (fun h29 => False.elim (h29 (by simp only [lt32, le32, q_0, q_60] at *; omega)))
  refine v_iload_n (pc := 39) hX rfl d_LJ_sheet_39 ?_
  refine v_if_ge (pc := 40) (tgt := 49) hX d_LJ_sheet_40 rfl (fun h40 => False.elim (by simp only [lt32, le32, q_0] at *; omega)) (fun h40 => ?_)
  refine v_aload_n (pc := 43) hX rfl d_LJ_sheet_43 ?_
  refine v_iconst (pc := 44) (v := 4) hX (by decide) d_LJ_sheet_44 ?_
  refine f_callV (pc := 45) hX k_LJ_failed ki_LJ_failed kv_LJ_failed ml_LJ_73 (C_LJ_failed) rfl rfl rfl rfl rfl (Nat.le_of_ble_eq_true rfl) (Nat.le_of_ble_eq_true rfl) (Nat.le_of_ble_eq_true rfl) d_LJ_sheet_45 ?_
  exact f_iret (pc := 48) hX hR (rfl) (rfl) d_LJ_sheet_48
theorem C_LJ_sheet_ok {M : MM} {k m : Nat} {u : Int32} (hk : k < 4) (hu : rg u 0 2 = true) (hm : m ≤ 60) : AF y_LJ_sheet c_LJ_sheet 5 (some .int) 3 [vR 2, vI (i3 k), vI u, vI (i3 m)] (M) (some (vI 1)) (fillM (upM (upM (upM (upM M 2 6 0) (28 + 2 * k) 1 1) (28 + 2 * k) 2 u) (28 + 2 * k) 3 (i3 m)) (29 + 2 * k) 0 60) := by
  have hr := sh_sheet k hk
  have hn := nf_cells k hk
  have hc := sh_cells k hk
  have hmi := i3_int (k := m) (by omega)
  refine AF.of k_LJ_sheet (lo := [some (vR 2), some (vI (i3 k)), some (vI u), some (vI (i3 m)), none]) rfl (Nat.le_of_ble_eq_true rfl) (fun X hX hR => ?_)
  refine v_aload_n (pc := 0) hX rfl d_LJ_sheet_0 ?_
  refine v_iload_n (pc := 1) hX rfl d_LJ_sheet_1 ?_
  refine f_callV (pc := 2) hX k_LJ_sheetAt ki_LJ_sheetAt kv_LJ_sheetAt ml_LJ_57 (C_LJ_sheetAt_in hk) rfl rfl rfl rfl rfl (Nat.le_of_ble_eq_true rfl) (Nat.le_of_ble_eq_true rfl) (Nat.le_of_ble_eq_true rfl) d_LJ_sheet_2 ?_
  refine v_astore (pc := 5) (lo' := [some (vR _), some (vI _), some (vI _), some (vI _), some (vR _)]) hX (Nat.le_of_ble_eq_true rfl) rfl d_LJ_sheet_5 ?_
  refine v_aload (pc := 7) hX rfl d_LJ_sheet_7 ?_
  refine v_ifnonnull (pc := 9) (tgt := 18) hX d_LJ_sheet_9 rfl (fun h9 => ?_) (fun h9 => False.elim (by have := sh_two (by assumption); omega))
  refine v_iload_n (pc := 18) hX rfl d_LJ_sheet_18 ?_
  refine v_iconst (pc := 19) (v := 3) hX (by decide) d_LJ_sheet_19 ?_
  refine f_callS (pc := 20) hX k_LJ_isBelow ks_LJ_isBelow ml_LJ_65 (C_LJ_isBelow) rfl rfl rfl (Nat.le_of_ble_eq_true rfl) (Nat.le_of_ble_eq_true rfl) (Nat.le_of_ble_eq_true rfl) d_LJ_sheet_20 ?_
  rw [show (3 : Int32).toInt - 1 = 2 from rfl]
  refine f_ifeqB (pc := 23) (tgt := 32) hX d_LJ_sheet_23 rfl (fun h23 => False.elim (by rw [hu] at h23; cases h23)) (fun h23 => ?_)
  refine v_iload_n (pc := 26) hX rfl d_LJ_sheet_26 ?_
  refine v_bipush (pc := 27) (v := 60) hX (by decide) d_LJ_sheet_27 ?_
  refine v_icmp_le (pc := 29) (tgt := 39) hX d_LJ_sheet_29 rfl (fun h29 => ?_) (fun h29 => False.elim (h29 (by simp only [le32, q_60, hmi]; omega)))
  refine v_iload_n (pc := 39) hX rfl d_LJ_sheet_39 ?_
  refine v_if_ge (pc := 40) (tgt := 49) hX d_LJ_sheet_40 rfl (fun h40 => ?_) (fun h40 => False.elim (h40 (by simp only [le32, q_0, hmi]; omega)))
  refine v_aload_n (pc := 49) hX rfl d_LJ_sheet_49 ?_
  refine v_iconst (pc := 50) (v := 0) hX (by decide) d_LJ_sheet_50 ?_
  refine g_putI (pc := 51) hX fl_LJ_52 rfl (finI rfl rfl) rfl rfl rfl d_LJ_sheet_51 ?_
  refine v_aload (pc := 54) hX rfl d_LJ_sheet_54 ?_
  refine v_iload_n (pc := 56) hX rfl d_LJ_sheet_56 ?_
  refine v_iload_n (pc := 57) hX rfl d_LJ_sheet_57 ?_
  refine f_callV0 (pc := 58) hX k_Sh_begin ki_Sh_begin kv_Sh_begin ml_LJ_221 (C_Sh_begin hr hn hc) (by assumption) rfl rfl rfl rfl (Nat.le_of_ble_eq_true rfl) (Nat.le_of_ble_eq_true rfl) (Nat.le_of_ble_eq_true rfl) d_LJ_sheet_58 ?_
  refine v_iconst (pc := 61) (v := 1) hX (by decide) d_LJ_sheet_61 ?_
  exact f_iret (pc := 62) hX hR (rfl) (rfl) d_LJ_sheet_62
theorem d_LJ_lose_0 : decode c_LJ_lose 0 = .ok (.aload_n 0, 1) := by decide +kernel
theorem d_LJ_lose_1 : decode c_LJ_lose 1 = .ok (.iload_n 1, 1) := by decide +kernel
theorem d_LJ_lose_2 : decode c_LJ_lose 2 = .ok (.invokevirtual 57, 3) := by decide +kernel
theorem d_LJ_lose_5 : decode c_LJ_lose 5 = .ok (.astore_n 2, 1) := by decide +kernel
theorem d_LJ_lose_6 : decode c_LJ_lose 6 = .ok (.aload_n 2, 1) := by decide +kernel
theorem d_LJ_lose_7 : decode c_LJ_lose 7 = .ok (.ifnonnull 5, 3) := by decide +kernel
theorem d_LJ_lose_10 : decode c_LJ_lose 10 = .ok (.iconst (-1), 1) := by decide +kernel
theorem d_LJ_lose_11 : decode c_LJ_lose 11 = .ok (.ireturn, 1) := by decide +kernel
theorem d_LJ_lose_12 : decode c_LJ_lose 12 = .ok (.aload_n 2, 1) := by decide +kernel
theorem d_LJ_lose_13 : decode c_LJ_lose 13 = .ok (.getfield 225, 3) := by decide +kernel
theorem d_LJ_lose_16 : decode c_LJ_lose 16 = .ok (.ifCond .eq 7, 3) := by decide +kernel
theorem d_LJ_lose_19 : decode c_LJ_lose 19 = .ok (.iconst 1, 1) := by decide +kernel
theorem d_LJ_lose_20 : decode c_LJ_lose 20 = .ok (.goto 4, 3) := by decide +kernel
theorem d_LJ_lose_23 : decode c_LJ_lose 23 = .ok (.iconst 0, 1) := by decide +kernel
theorem d_LJ_lose_24 : decode c_LJ_lose 24 = .ok (.istore_n 3, 1) := by decide +kernel
theorem d_LJ_lose_25 : decode c_LJ_lose 25 = .ok (.aload_n 2, 1) := by decide +kernel
theorem d_LJ_lose_26 : decode c_LJ_lose 26 = .ok (.iconst 0, 1) := by decide +kernel
theorem d_LJ_lose_27 : decode c_LJ_lose 27 = .ok (.putfield 225, 3) := by decide +kernel
theorem d_LJ_lose_30 : decode c_LJ_lose 30 = .ok (.iload_n 3, 1) := by decide +kernel
theorem d_LJ_lose_31 : decode c_LJ_lose 31 = .ok (.ireturn, 1) := by decide +kernel
theorem C_LJ_lose_out {M : MM} {x : Int32} (hx : rg x 0 3 = false) : AF y_LJ_lose c_LJ_lose 4 (some .int) 3 [vR 2, vI x] (M) (some (vI (-1))) (M) := by
  refine AF.of k_LJ_lose (lo := [some (vR 2), some (vI x), none, none]) rfl (Nat.le_of_ble_eq_true rfl) (fun X hX hR => ?_)
  refine v_aload_n (pc := 0) hX rfl d_LJ_lose_0 ?_
  refine v_iload_n (pc := 1) hX rfl d_LJ_lose_1 ?_
  refine f_callV (pc := 2) hX k_LJ_sheetAt ki_LJ_sheetAt kv_LJ_sheetAt ml_LJ_57 (C_LJ_sheetAt_out hx) rfl rfl rfl rfl rfl (Nat.le_of_ble_eq_true rfl) (Nat.le_of_ble_eq_true rfl) (Nat.le_of_ble_eq_true rfl) d_LJ_lose_2 ?_
  refine v_astore_n (pc := 5) (lo' := [some (vR _), some (vI _), some (vR _), none]) hX (Nat.le_of_ble_eq_true rfl) rfl d_LJ_lose_5 ?_
  refine v_aload_n (pc := 6) hX rfl d_LJ_lose_6 ?_
  refine v_ifnonnull (pc := 7) (tgt := 12) hX d_LJ_lose_7 rfl (fun h7 => False.elim (by revert h7; decide)) (fun h7 => ?_)
  refine v_iconst (pc := 10) (v := (-1)) hX (by decide) d_LJ_lose_10 ?_
  exact f_iret (pc := 11) hX hR (rfl) (rfl) d_LJ_lose_11
theorem C_LJ_lose_in {M : MM} {k : Nat} {zs : Nat → Nat} {ln : Nat → Int32} {C : JT} (hZ : CZ M zs ln C) (hk : k < 4) : AF y_LJ_lose c_LJ_lose 4 (some .int) 3 [vR 2, vI (i3 k)] (M) (some (vI (if zs k = 0 then 0 else 1))) (upM M (28 + 2 * k) 1 0) := by
  have hr := sh_sheet k hk
  have hn := nf_cells k hk
  have hc := sh_cells k hk
  obtain ⟨z1, z2, z3⟩ := hZ k hk
  refine AF.of k_LJ_lose (lo := [some (vR 2), some (vI (i3 k)), none, none]) rfl (Nat.le_of_ble_eq_true rfl) (fun X hX hR => ?_)
  refine v_aload_n (pc := 0) hX rfl d_LJ_lose_0 ?_
  refine v_iload_n (pc := 1) hX rfl d_LJ_lose_1 ?_
  refine f_callV (pc := 2) hX k_LJ_sheetAt ki_LJ_sheetAt kv_LJ_sheetAt ml_LJ_57 (C_LJ_sheetAt_in hk) rfl rfl rfl rfl rfl (Nat.le_of_ble_eq_true rfl) (Nat.le_of_ble_eq_true rfl) (Nat.le_of_ble_eq_true rfl) d_LJ_lose_2 ?_
  refine v_astore_n (pc := 5) (lo' := [some (vR _), some (vI _), some (vR _), none]) hX (Nat.le_of_ble_eq_true rfl) rfl d_LJ_lose_5 ?_
  refine v_aload_n (pc := 6) hX rfl d_LJ_lose_6 ?_
  refine v_ifnonnull (pc := 7) (tgt := 12) hX d_LJ_lose_7 rfl (fun h7 => ?_) (fun h7 => False.elim (by have := sh_two (by assumption); omega))
  refine v_aload_n (pc := 12) hX rfl d_LJ_lose_12 ?_
  refine g_getI (pc := 13) hX fl_LJ_225 rfl (by assumption) d_LJ_lose_13 ?_
  refine v_if_eq (pc := 16) (tgt := 23) hX d_LJ_lose_16 rfl (fun h16 => ?_) (fun h16 => ?_)
  · have e : zs k = 0 := by
      by_cases e : zs k = 0
      · exact e
      · rw [(z3 e).1] at h16; exact absurd h16 (by decide)
    refine v_iconst (pc := 23) (v := 0) hX (by decide) d_LJ_lose_23 ?_
    refine v_istore_n (pc := 24) (lo' := [some (vR _), some (vI _), some (vR _), some (vI _)]) hX (Nat.le_of_ble_eq_true rfl) rfl d_LJ_lose_24 ?_
    refine v_aload_n (pc := 25) hX rfl d_LJ_lose_25 ?_
    refine v_iconst (pc := 26) (v := 0) hX (by decide) d_LJ_lose_26 ?_
    refine g_putI (pc := 27) hX fl_LJ_225 rfl (finI rfl rfl) (by assumption) rfl rfl d_LJ_lose_27 ?_
    refine v_iload_n (pc := 30) hX rfl d_LJ_lose_30 ?_
    exact f_iret (pc := 31) hX hR (by first | rw [if_pos e] | rw [if_neg e]) (rfl) d_LJ_lose_31
  · have e : ¬ zs k = 0 := fun w => h16 (z2 w)
    refine v_iconst (pc := 19) (v := 1) hX (by decide) d_LJ_lose_19 ?_
    refine v_goto (pc := 20) (tgt := 24) hX d_LJ_lose_20 rfl ?_
    refine v_istore_n (pc := 24) (lo' := [some (vR _), some (vI _), some (vR _), some (vI _)]) hX (Nat.le_of_ble_eq_true rfl) rfl d_LJ_lose_24 ?_
    refine v_aload_n (pc := 25) hX rfl d_LJ_lose_25 ?_
    refine v_iconst (pc := 26) (v := 0) hX (by decide) d_LJ_lose_26 ?_
    refine g_putI (pc := 27) hX fl_LJ_225 rfl (finI rfl rfl) (by assumption) rfl rfl d_LJ_lose_27 ?_
    refine v_iload_n (pc := 30) hX rfl d_LJ_lose_30 ?_
    exact f_iret (pc := 31) hX hR (by first | rw [if_pos e] | rw [if_neg e]) (rfl) d_LJ_lose_31
theorem d_LJ_put_0 : decode c_LJ_put 0 = .ok (.aload_n 0, 1) := by decide +kernel
theorem d_LJ_put_1 : decode c_LJ_put 1 = .ok (.iload_n 1, 1) := by decide +kernel
theorem d_LJ_put_2 : decode c_LJ_put 2 = .ok (.invokevirtual 57, 3) := by decide +kernel
theorem d_LJ_put_5 : decode c_LJ_put 5 = .ok (.astore 4, 2) := by decide +kernel
theorem d_LJ_put_7 : decode c_LJ_put 7 = .ok (.aload 4, 2) := by decide +kernel
theorem d_LJ_put_9 : decode c_LJ_put 9 = .ok (.ifnonnull 9, 3) := by decide +kernel
theorem d_LJ_put_12 : decode c_LJ_put 12 = .ok (.aload_n 0, 1) := by decide +kernel
theorem d_LJ_put_13 : decode c_LJ_put 13 = .ok (.iconst (-1), 1) := by decide +kernel
theorem d_LJ_put_14 : decode c_LJ_put 14 = .ok (.invokevirtual 61, 3) := by decide +kernel
theorem d_LJ_put_17 : decode c_LJ_put 17 = .ok (.ireturn, 1) := by decide +kernel
theorem d_LJ_put_18 : decode c_LJ_put 18 = .ok (.aload 4, 2) := by decide +kernel
theorem d_LJ_put_20 : decode c_LJ_put 20 = .ok (.aload 4, 2) := by decide +kernel
theorem d_LJ_put_22 : decode c_LJ_put 22 = .ok (.getfield 229, 3) := by decide +kernel
theorem d_LJ_put_25 : decode c_LJ_put 25 = .ok (.iload_n 2, 1) := by decide +kernel
theorem d_LJ_put_26 : decode c_LJ_put 26 = .ok (.iconst 1, 1) := by decide +kernel
theorem d_LJ_put_27 : decode c_LJ_put 27 = .ok (.invokevirtual 69, 3) := by decide +kernel
theorem d_LJ_put_30 : decode c_LJ_put 30 = .ok (.istore 5, 2) := by decide +kernel
theorem d_LJ_put_32 : decode c_LJ_put 32 = .ok (.iload 5, 2) := by decide +kernel
theorem d_LJ_put_34 : decode c_LJ_put 34 = .ok (.ifCond .eq 10, 3) := by decide +kernel
theorem d_LJ_put_37 : decode c_LJ_put 37 = .ok (.aload_n 0, 1) := by decide +kernel
theorem d_LJ_put_38 : decode c_LJ_put 38 = .ok (.iload 5, 2) := by decide +kernel
theorem d_LJ_put_40 : decode c_LJ_put 40 = .ok (.invokevirtual 73, 3) := by decide +kernel
theorem d_LJ_put_43 : decode c_LJ_put 43 = .ok (.ireturn, 1) := by decide +kernel
theorem d_LJ_put_44 : decode c_LJ_put 44 = .ok (.aload_n 0, 1) := by decide +kernel
theorem d_LJ_put_45 : decode c_LJ_put 45 = .ok (.iconst 0, 1) := by decide +kernel
theorem d_LJ_put_46 : decode c_LJ_put 46 = .ok (.putfield 52, 3) := by decide +kernel
theorem d_LJ_put_49 : decode c_LJ_put 49 = .ok (.aload 4, 2) := by decide +kernel
theorem d_LJ_put_51 : decode c_LJ_put 51 = .ok (.iload_n 2, 1) := by decide +kernel
theorem d_LJ_put_52 : decode c_LJ_put 52 = .ok (.iload_n 3, 1) := by decide +kernel
theorem d_LJ_put_53 : decode c_LJ_put 53 = .ok (.invokevirtual 232, 3) := by decide +kernel
theorem d_LJ_put_56 : decode c_LJ_put 56 = .ok (.iconst 1, 1) := by decide +kernel
theorem d_LJ_put_57 : decode c_LJ_put 57 = .ok (.ireturn, 1) := by decide +kernel
theorem C_LJ_put_out {M : MM} {x : Int32} (hx : rg x 0 3 = false) {u v : Int32} : AF y_LJ_put c_LJ_put 6 (some .int) 3 [vR 2, vI x, vI u, vI v] (M) (some (vI (-1))) (upM M 2 6 0) := by
  refine AF.of k_LJ_put (lo := [some (vR 2), some (vI x), some (vI u), some (vI v), none, none]) rfl (Nat.le_of_ble_eq_true rfl) (fun X hX hR => ?_)
  refine v_aload_n (pc := 0) hX rfl d_LJ_put_0 ?_
  refine v_iload_n (pc := 1) hX rfl d_LJ_put_1 ?_
  refine f_callV (pc := 2) hX k_LJ_sheetAt ki_LJ_sheetAt kv_LJ_sheetAt ml_LJ_57 (C_LJ_sheetAt_out hx) rfl rfl rfl rfl rfl (Nat.le_of_ble_eq_true rfl) (Nat.le_of_ble_eq_true rfl) (Nat.le_of_ble_eq_true rfl) d_LJ_put_2 ?_
  refine v_astore (pc := 5) (lo' := [some (vR _), some (vI _), some (vI _), some (vI _), some (vR _), none]) hX (Nat.le_of_ble_eq_true rfl) rfl d_LJ_put_5 ?_
  refine v_aload (pc := 7) hX rfl d_LJ_put_7 ?_
  refine v_ifnonnull (pc := 9) (tgt := 18) hX d_LJ_put_9 rfl (fun h9 => False.elim (by revert h9; decide)) (fun h9 => ?_)
  refine v_aload_n (pc := 12) hX rfl d_LJ_put_12 ?_
  refine v_iconst (pc := 13) (v := (-1)) hX (by decide) d_LJ_put_13 ?_
  refine f_callV (pc := 14) hX k_LJ_refused ki_LJ_refused kv_LJ_refused ml_LJ_61 (C_LJ_refused) rfl rfl rfl rfl rfl (Nat.le_of_ble_eq_true rfl) (Nat.le_of_ble_eq_true rfl) (Nat.le_of_ble_eq_true rfl) d_LJ_put_14 ?_
  exact f_iret (pc := 17) hX hR (rfl) (rfl) d_LJ_put_17
theorem C_LJ_put_fail {M : MM} {k : Nat} {zs : Nat → Nat} {ln : Nat → Int32} {C : JT} {u v : Int32} (hZ : CZ M zs ln C) (hk : k < 4) (hf : ¬ flt (zs k) (ln k) (ln k) u 1 = 0) : AF y_LJ_put c_LJ_put 6 (some .int) 3 [vR 2, vI (i3 k), vI u, vI v] (M) (some (vI (-10 - flt (zs k) (ln k) (ln k) u 1))) (upM M 2 6 (flt (zs k) (ln k) (ln k) u 1)) := by
  have hr := sh_sheet k hk
  have hn := nf_cells k hk
  have hc := sh_cells k hk
  refine AF.of k_LJ_put (lo := [some (vR 2), some (vI (i3 k)), some (vI u), some (vI v), none, none]) rfl (Nat.le_of_ble_eq_true rfl) (fun X hX hR => ?_)
  refine v_aload_n (pc := 0) hX rfl d_LJ_put_0 ?_
  refine v_iload_n (pc := 1) hX rfl d_LJ_put_1 ?_
  refine f_callV (pc := 2) hX k_LJ_sheetAt ki_LJ_sheetAt kv_LJ_sheetAt ml_LJ_57 (C_LJ_sheetAt_in hk) rfl rfl rfl rfl rfl (Nat.le_of_ble_eq_true rfl) (Nat.le_of_ble_eq_true rfl) (Nat.le_of_ble_eq_true rfl) d_LJ_put_2 ?_
  refine v_astore (pc := 5) (lo' := [some (vR _), some (vI _), some (vI _), some (vI _), some (vR _), none]) hX (Nat.le_of_ble_eq_true rfl) rfl d_LJ_put_5 ?_
  refine v_aload (pc := 7) hX rfl d_LJ_put_7 ?_
  refine v_ifnonnull (pc := 9) (tgt := 18) hX d_LJ_put_9 rfl (fun h9 => ?_) (fun h9 => False.elim (by have := sh_two (by assumption); omega))
  refine v_aload (pc := 18) hX rfl d_LJ_put_18 ?_
  refine v_aload (pc := 20) hX rfl d_LJ_put_20 ?_
  refine g_getI (pc := 22) hX fl_LJ_229 rfl (by assumption) d_LJ_put_22 ?_
  refine v_iload_n (pc := 25) hX rfl d_LJ_put_25 ?_
  refine v_iconst (pc := 26) (v := 1) hX (by decide) d_LJ_put_26 ?_
  refine f_callV (pc := 27) hX k_Sh_faultOf ki_Sh_faultOf kv_Sh_faultOf ml_LJ_69 (C_Sh_faultOf (by assumption)) (by assumption) rfl rfl rfl rfl (Nat.le_of_ble_eq_true rfl) (Nat.le_of_ble_eq_true rfl) (Nat.le_of_ble_eq_true rfl) d_LJ_put_27 ?_
  rw [flt_own hZ hk]
  refine v_istore (pc := 30) (lo' := [some (vR _), some (vI _), some (vI _), some (vI _), some (vR _), some (vI _)]) hX (Nat.le_of_ble_eq_true rfl) rfl d_LJ_put_30 ?_
  refine v_iload (pc := 32) hX rfl d_LJ_put_32 ?_
  refine v_if_eq (pc := 34) (tgt := 44) hX d_LJ_put_34 rfl (fun h34 => False.elim (hf h34)) (fun h34 => ?_)
  refine v_aload_n (pc := 37) hX rfl d_LJ_put_37 ?_
  refine v_iload (pc := 38) hX rfl d_LJ_put_38 ?_
  refine f_callV (pc := 40) hX k_LJ_failed ki_LJ_failed kv_LJ_failed ml_LJ_73 (C_LJ_failed) rfl rfl rfl rfl rfl (Nat.le_of_ble_eq_true rfl) (Nat.le_of_ble_eq_true rfl) (Nat.le_of_ble_eq_true rfl) d_LJ_put_40 ?_
  exact f_iret (pc := 43) hX hR (rfl) (rfl) d_LJ_put_43
theorem C_LJ_put_ok {M : MM} {k : Nat} {zs : Nat → Nat} {ln : Nat → Int32} {C : JT} {v : Int32} (hZ : CZ M zs ln C) (hk : k < 4) {a : Nat} (hz : zs k ≠ 0) (ham : a < zs k - 1) : AF y_LJ_put c_LJ_put 6 (some .int) 3 [vR 2, vI (i3 k), vI (i3 a), vI v] (M) (some (vI 1)) (upM (upM M 2 6 0) (29 + 2 * k) a (cutM (ln k) v)) := by
  have hr := sh_sheet k hk
  have hn := nf_cells k hk
  have hc := sh_cells k hk
  obtain ⟨z1, z2, z3⟩ := hZ k hk
  obtain ⟨z4, z5, z6, z7⟩ := z3 hz
  have hflt : flt (zs k) (ln k) (ln k) (i3 a) 1 = 0 := flt_ok (m := 1) hz z1 (by omega)
  refine AF.of k_LJ_put (lo := [some (vR 2), some (vI (i3 k)), some (vI (i3 a)), some (vI v), none, none]) rfl (Nat.le_of_ble_eq_true rfl) (fun X hX hR => ?_)
  refine v_aload_n (pc := 0) hX rfl d_LJ_put_0 ?_
  refine v_iload_n (pc := 1) hX rfl d_LJ_put_1 ?_
  refine f_callV (pc := 2) hX k_LJ_sheetAt ki_LJ_sheetAt kv_LJ_sheetAt ml_LJ_57 (C_LJ_sheetAt_in hk) rfl rfl rfl rfl rfl (Nat.le_of_ble_eq_true rfl) (Nat.le_of_ble_eq_true rfl) (Nat.le_of_ble_eq_true rfl) d_LJ_put_2 ?_
  refine v_astore (pc := 5) (lo' := [some (vR _), some (vI _), some (vI _), some (vI _), some (vR _), none]) hX (Nat.le_of_ble_eq_true rfl) rfl d_LJ_put_5 ?_
  refine v_aload (pc := 7) hX rfl d_LJ_put_7 ?_
  refine v_ifnonnull (pc := 9) (tgt := 18) hX d_LJ_put_9 rfl (fun h9 => ?_) (fun h9 => False.elim (by have := sh_two (by assumption); omega))
  refine v_aload (pc := 18) hX rfl d_LJ_put_18 ?_
  refine v_aload (pc := 20) hX rfl d_LJ_put_20 ?_
  refine g_getI (pc := 22) hX fl_LJ_229 rfl (by assumption) d_LJ_put_22 ?_
  refine v_iload_n (pc := 25) hX rfl d_LJ_put_25 ?_
  refine v_iconst (pc := 26) (v := 1) hX (by decide) d_LJ_put_26 ?_
  refine f_callV (pc := 27) hX k_Sh_faultOf ki_Sh_faultOf kv_Sh_faultOf ml_LJ_69 (C_Sh_faultOf (by assumption)) (by assumption) rfl rfl rfl rfl (Nat.le_of_ble_eq_true rfl) (Nat.le_of_ble_eq_true rfl) (Nat.le_of_ble_eq_true rfl) d_LJ_put_27 ?_
  rw [flt_own hZ hk, hflt]
  refine v_istore (pc := 30) (lo' := [some (vR _), some (vI _), some (vI _), some (vI _), some (vR _), some (vI _)]) hX (Nat.le_of_ble_eq_true rfl) rfl d_LJ_put_30 ?_
  refine v_iload (pc := 32) hX rfl d_LJ_put_32 ?_
  refine v_if_eq (pc := 34) (tgt := 44) hX d_LJ_put_34 rfl (fun h34 => ?_) (fun h34 => False.elim (h34 rfl))
  refine v_aload_n (pc := 44) hX rfl d_LJ_put_44 ?_
  refine v_iconst (pc := 45) (v := 0) hX (by decide) d_LJ_put_45 ?_
  refine g_putI (pc := 46) hX fl_LJ_52 rfl (finI rfl rfl) rfl rfl rfl d_LJ_put_46 ?_
  refine v_aload (pc := 49) hX rfl d_LJ_put_49 ?_
  refine v_iload_n (pc := 51) hX rfl d_LJ_put_51 ?_
  refine v_iload_n (pc := 52) hX rfl d_LJ_put_52 ?_
  refine f_callV0 (pc := 53) hX k_Sh_change ki_Sh_change kv_Sh_change ml_LJ_232 (C_Sh_change (n := zs k - 1) hr hn hc ham (by omega) (by rw [upM_ne (by omega)]; exact z6)) (by assumption) rfl rfl rfl rfl (Nat.le_of_ble_eq_true rfl) (Nat.le_of_ble_eq_true rfl) (Nat.le_of_ble_eq_true rfl) d_LJ_put_53 ?_
  refine v_iconst (pc := 56) (v := 1) hX (by decide) d_LJ_put_56 ?_
  exact f_iret (pc := 57) hX hR (rfl) (by rw [show upM M 2 6 0 (28 + 2 * k) 2 = ln k from by rw [upM_ne (by omega)]; exact z5]) d_LJ_put_57
theorem CZ.up2 {M : MM} {zs : Nat → Nat} {ln : Nat → Int32} {C : JT} {i : Nat} {x : Int32} (h : CZ M zs ln C) : CZ (upM M 2 i x) zs ln C := fun k hk => by
  obtain ⟨h1, h2, h3⟩ := h k hk
  refine ⟨h1, fun e => by rw [upM_ne (by omega)]; exact h2 e, fun e => ?_⟩
  obtain ⟨g1, g2, g3, g4⟩ := h3 e
  exact ⟨by rw [upM_ne (by omega)]; exact g1, by rw [upM_ne (by omega)]; exact g2, by rw [upM_ne (by omega)]; exact g3, fun i hi => by rw [upM_ne (by omega)]; exact g4 i hi⟩
theorem d_LJ_cell_0 : decode c_LJ_cell 0 = .ok (.aload_n 0, 1) := by decide +kernel
theorem d_LJ_cell_1 : decode c_LJ_cell 1 = .ok (.iconst 0, 1) := by decide +kernel
theorem d_LJ_cell_2 : decode c_LJ_cell 2 = .ok (.putfield 52, 3) := by decide +kernel
theorem d_LJ_cell_5 : decode c_LJ_cell 5 = .ok (.aload_n 0, 1) := by decide +kernel
theorem d_LJ_cell_6 : decode c_LJ_cell 6 = .ok (.iload_n 1, 1) := by decide +kernel
theorem d_LJ_cell_7 : decode c_LJ_cell 7 = .ok (.invokevirtual 57, 3) := by decide +kernel
theorem d_LJ_cell_10 : decode c_LJ_cell 10 = .ok (.astore 4, 2) := by decide +kernel
theorem d_LJ_cell_12 : decode c_LJ_cell 12 = .ok (.aload 4, 2) := by decide +kernel
theorem d_LJ_cell_14 : decode c_LJ_cell 14 = .ok (.ifnull 11, 3) := by decide +kernel
theorem d_LJ_cell_17 : decode c_LJ_cell 17 = .ok (.iload_n 3, 1) := by decide +kernel
theorem d_LJ_cell_18 : decode c_LJ_cell 18 = .ok (.iconst 3, 1) := by decide +kernel
theorem d_LJ_cell_19 : decode c_LJ_cell 19 = .ok (.invokestatic 65, 3) := by decide +kernel
theorem d_LJ_cell_22 : decode c_LJ_cell 22 = .ok (.ifCond .ne 7, 3) := by decide +kernel
theorem d_LJ_cell_25 : decode c_LJ_cell 25 = .ok (.ldc2_w 210, 3) := by decide +kernel
theorem d_LJ_cell_28 : decode c_LJ_cell 28 = .ok (.lreturn, 1) := by decide +kernel
theorem d_LJ_cell_29 : decode c_LJ_cell 29 = .ok (.aload_n 0, 1) := by decide +kernel
theorem d_LJ_cell_30 : decode c_LJ_cell 30 = .ok (.aload 4, 2) := by decide +kernel
theorem d_LJ_cell_32 : decode c_LJ_cell 32 = .ok (.iload_n 3, 1) := by decide +kernel
theorem d_LJ_cell_33 : decode c_LJ_cell 33 = .ok (.iload_n 2, 1) := by decide +kernel
theorem d_LJ_cell_34 : decode c_LJ_cell 34 = .ok (.iconst 1, 1) := by decide +kernel
theorem d_LJ_cell_35 : decode c_LJ_cell 35 = .ok (.invokevirtual 69, 3) := by decide +kernel
theorem d_LJ_cell_38 : decode c_LJ_cell 38 = .ok (.putfield 52, 3) := by decide +kernel
theorem d_LJ_cell_41 : decode c_LJ_cell 41 = .ok (.aload_n 0, 1) := by decide +kernel
theorem d_LJ_cell_42 : decode c_LJ_cell 42 = .ok (.getfield 52, 3) := by decide +kernel
theorem d_LJ_cell_45 : decode c_LJ_cell 45 = .ok (.ifCond .ne 13, 3) := by decide +kernel
theorem d_LJ_cell_48 : decode c_LJ_cell 48 = .ok (.aload 4, 2) := by decide +kernel
theorem d_LJ_cell_50 : decode c_LJ_cell 50 = .ok (.iload_n 2, 1) := by decide +kernel
theorem d_LJ_cell_51 : decode c_LJ_cell 51 = .ok (.invokevirtual 235, 3) := by decide +kernel
theorem d_LJ_cell_54 : decode c_LJ_cell 54 = .ok (.i2l, 1) := by decide +kernel
theorem d_LJ_cell_55 : decode c_LJ_cell 55 = .ok (.goto 6, 3) := by decide +kernel
theorem d_LJ_cell_58 : decode c_LJ_cell 58 = .ok (.ldc2_w 210, 3) := by decide +kernel
theorem d_LJ_cell_61 : decode c_LJ_cell 61 = .ok (.lreturn, 1) := by decide +kernel
theorem C_LJ_cell_out {M : MM} {x : Int32} (hx : rg x 0 3 = false) {u v : Int32} : AF y_LJ_cell c_LJ_cell 5 (some .long) 3 [vR 2, vI x, vI u, vI v] (M) (some (vL (-9223372036854775808))) (upM M 2 6 0) := by
  refine AF.of k_LJ_cell (lo := [some (vR 2), some (vI x), some (vI u), some (vI v), none]) rfl (Nat.le_of_ble_eq_true rfl) (fun X hX hR => ?_)
  refine v_aload_n (pc := 0) hX rfl d_LJ_cell_0 ?_
  refine v_iconst (pc := 1) (v := 0) hX (by decide) d_LJ_cell_1 ?_
  refine g_putI (pc := 2) hX fl_LJ_52 rfl (finI rfl rfl) rfl rfl rfl d_LJ_cell_2 ?_
  refine v_aload_n (pc := 5) hX rfl d_LJ_cell_5 ?_
  refine v_iload_n (pc := 6) hX rfl d_LJ_cell_6 ?_
  refine f_callV (pc := 7) hX k_LJ_sheetAt ki_LJ_sheetAt kv_LJ_sheetAt ml_LJ_57 (C_LJ_sheetAt_out hx) rfl rfl rfl rfl rfl (Nat.le_of_ble_eq_true rfl) (Nat.le_of_ble_eq_true rfl) (Nat.le_of_ble_eq_true rfl) d_LJ_cell_7 ?_
  refine v_astore (pc := 10) (lo' := [some (vR _), some (vI _), some (vI _), some (vI _), some (vR _)]) hX (Nat.le_of_ble_eq_true rfl) rfl d_LJ_cell_10 ?_
  refine v_aload (pc := 12) hX rfl d_LJ_cell_12 ?_
  refine v_ifnull (pc := 14) (tgt := 25) hX d_LJ_cell_14 rfl (fun h14 => ?_) (fun h14 => False.elim (by revert h14; decide))
  refine v_ldc2_w (pc := 25) hX kl_LJ_210 d_LJ_cell_25 ?_
  exact f_lret (pc := 28) hX hR (rfl) (rfl) d_LJ_cell_28
theorem C_LJ_cell_bad {M : MM} {k : Nat} {u v : Int32} (hk : k < 4) (hu : rg v 0 2 = false) : AF y_LJ_cell c_LJ_cell 5 (some .long) 3 [vR 2, vI (i3 k), vI u, vI v] (M) (some (vL (-9223372036854775808))) (upM M 2 6 0) := by
  have hr := sh_sheet k hk
  have hn := nf_cells k hk
  have hc := sh_cells k hk
  refine AF.of k_LJ_cell (lo := [some (vR 2), some (vI (i3 k)), some (vI u), some (vI v), none]) rfl (Nat.le_of_ble_eq_true rfl) (fun X hX hR => ?_)
  refine v_aload_n (pc := 0) hX rfl d_LJ_cell_0 ?_
  refine v_iconst (pc := 1) (v := 0) hX (by decide) d_LJ_cell_1 ?_
  refine g_putI (pc := 2) hX fl_LJ_52 rfl (finI rfl rfl) rfl rfl rfl d_LJ_cell_2 ?_
  refine v_aload_n (pc := 5) hX rfl d_LJ_cell_5 ?_
  refine v_iload_n (pc := 6) hX rfl d_LJ_cell_6 ?_
  refine f_callV (pc := 7) hX k_LJ_sheetAt ki_LJ_sheetAt kv_LJ_sheetAt ml_LJ_57 (C_LJ_sheetAt_in hk) rfl rfl rfl rfl rfl (Nat.le_of_ble_eq_true rfl) (Nat.le_of_ble_eq_true rfl) (Nat.le_of_ble_eq_true rfl) d_LJ_cell_7 ?_
  refine v_astore (pc := 10) (lo' := [some (vR _), some (vI _), some (vI _), some (vI _), some (vR _)]) hX (Nat.le_of_ble_eq_true rfl) rfl d_LJ_cell_10 ?_
  refine v_aload (pc := 12) hX rfl d_LJ_cell_12 ?_
  refine v_ifnull (pc := 14) (tgt := 25) hX d_LJ_cell_14 rfl (fun h14 => False.elim (by have := sh_two (by assumption); omega)) (fun h14 => ?_)
  refine v_iload_n (pc := 17) hX rfl d_LJ_cell_17 ?_
  refine v_iconst (pc := 18) (v := 3) hX (by decide) d_LJ_cell_18 ?_
  refine f_callS (pc := 19) hX k_LJ_isBelow ks_LJ_isBelow ml_LJ_65 (C_LJ_isBelow) rfl rfl rfl (Nat.le_of_ble_eq_true rfl) (Nat.le_of_ble_eq_true rfl) (Nat.le_of_ble_eq_true rfl) d_LJ_cell_19 ?_
  rw [show (3 : Int32).toInt - 1 = 2 from rfl]
  refine f_ifneB (pc := 22) (tgt := 29) hX d_LJ_cell_22 rfl (fun h22 => False.elim (by rw [hu] at h22; cases h22)) (fun h22 => ?_)
  refine v_ldc2_w (pc := 25) hX kl_LJ_210 d_LJ_cell_25 ?_
  exact f_lret (pc := 28) hX hR (rfl) (rfl) d_LJ_cell_28
theorem C_LJ_cell_fail {M : MM} {k : Nat} {zs : Nat → Nat} {ln : Nat → Int32} {C : JT} {u v : Int32} (hZ : CZ M zs ln C) (hk : k < 4) (hu : rg v 0 2 = true) (hf : ¬ flt (zs k) (ln k) v u 1 = 0) : AF y_LJ_cell c_LJ_cell 5 (some .long) 3 [vR 2, vI (i3 k), vI u, vI v] (M) (some (vL (-9223372036854775808))) (upM M 2 6 (flt (zs k) (ln k) v u 1)) := by
  have hr := sh_sheet k hk
  have hn := nf_cells k hk
  have hc := sh_cells k hk
  have hZ1 : CZ (upM M 2 6 0) zs ln C := hZ.up2
  refine AF.of k_LJ_cell (lo := [some (vR 2), some (vI (i3 k)), some (vI u), some (vI v), none]) rfl (Nat.le_of_ble_eq_true rfl) (fun X hX hR => ?_)
  refine v_aload_n (pc := 0) hX rfl d_LJ_cell_0 ?_
  refine v_iconst (pc := 1) (v := 0) hX (by decide) d_LJ_cell_1 ?_
  refine g_putI (pc := 2) hX fl_LJ_52 rfl (finI rfl rfl) rfl rfl rfl d_LJ_cell_2 ?_
  refine v_aload_n (pc := 5) hX rfl d_LJ_cell_5 ?_
  refine v_iload_n (pc := 6) hX rfl d_LJ_cell_6 ?_
  refine f_callV (pc := 7) hX k_LJ_sheetAt ki_LJ_sheetAt kv_LJ_sheetAt ml_LJ_57 (C_LJ_sheetAt_in hk) rfl rfl rfl rfl rfl (Nat.le_of_ble_eq_true rfl) (Nat.le_of_ble_eq_true rfl) (Nat.le_of_ble_eq_true rfl) d_LJ_cell_7 ?_
  refine v_astore (pc := 10) (lo' := [some (vR _), some (vI _), some (vI _), some (vI _), some (vR _)]) hX (Nat.le_of_ble_eq_true rfl) rfl d_LJ_cell_10 ?_
  refine v_aload (pc := 12) hX rfl d_LJ_cell_12 ?_
  refine v_ifnull (pc := 14) (tgt := 25) hX d_LJ_cell_14 rfl (fun h14 => False.elim (by have := sh_two (by assumption); omega)) (fun h14 => ?_)
  refine v_iload_n (pc := 17) hX rfl d_LJ_cell_17 ?_
  refine v_iconst (pc := 18) (v := 3) hX (by decide) d_LJ_cell_18 ?_
  refine f_callS (pc := 19) hX k_LJ_isBelow ks_LJ_isBelow ml_LJ_65 (C_LJ_isBelow) rfl rfl rfl (Nat.le_of_ble_eq_true rfl) (Nat.le_of_ble_eq_true rfl) (Nat.le_of_ble_eq_true rfl) d_LJ_cell_19 ?_
  rw [show (3 : Int32).toInt - 1 = 2 from rfl]
  refine f_ifneB (pc := 22) (tgt := 29) hX d_LJ_cell_22 rfl (fun h22 => ?_) (fun h22 => False.elim (by rw [hu] at h22; cases h22))
  refine v_aload_n (pc := 29) hX rfl d_LJ_cell_29 ?_
  refine v_aload (pc := 30) hX rfl d_LJ_cell_30 ?_
  refine v_iload_n (pc := 32) hX rfl d_LJ_cell_32 ?_
  refine v_iload_n (pc := 33) hX rfl d_LJ_cell_33 ?_
  refine v_iconst (pc := 34) (v := 1) hX (by decide) d_LJ_cell_34 ?_
  refine f_callV (pc := 35) hX k_Sh_faultOf ki_Sh_faultOf kv_Sh_faultOf ml_LJ_69 (C_Sh_faultOf (by assumption)) (by assumption) rfl rfl rfl rfl (Nat.le_of_ble_eq_true rfl) (Nat.le_of_ble_eq_true rfl) (Nat.le_of_ble_eq_true rfl) d_LJ_cell_35 ?_
  rw [flt_eq hZ1 hk]
  refine g_putI (pc := 38) hX fl_LJ_52 rfl (finI rfl rfl) rfl rfl rfl d_LJ_cell_38 ?_
  rw [upM_up]
  refine v_aload_n (pc := 41) hX rfl d_LJ_cell_41 ?_
  refine g_getI (pc := 42) hX fl_LJ_52 rfl rfl d_LJ_cell_42 ?_
  rw [upM_same]
  refine v_if_ne (pc := 45) (tgt := 58) hX d_LJ_cell_45 rfl (fun h45 => ?_) (fun h45 => False.elim (hf (by simpa using h45)))
  refine v_ldc2_w (pc := 58) hX kl_LJ_210 d_LJ_cell_58 ?_
  exact f_lret (pc := 61) hX hR (rfl) (rfl) d_LJ_cell_61
theorem C_LJ_cell_ok {M : MM} {k : Nat} {zs : Nat → Nat} {ln : Nat → Int32} {C : JT} (hZ : CZ M zs ln C) (hk : k < 4) (hu : rg (ln k) 0 2 = true) {a : Nat} (hz : zs k ≠ 0) (ham : a < zs k - 1) : AF y_LJ_cell c_LJ_cell 5 (some .long) 3 [vR 2, vI (i3 k), vI (i3 a), vI (ln k)] (M) (some (vL (C k a).toInt64)) (upM M 2 6 0) := by
  have hr := sh_sheet k hk
  have hn := nf_cells k hk
  have hc := sh_cells k hk
  have hZ1 : CZ (upM M 2 6 0) zs ln C := hZ.up2
  obtain ⟨z1, z2, z3⟩ := hZ k hk
  obtain ⟨z4, z5, z6, z7⟩ := z3 hz
  have hflt : flt (zs k) (ln k) (ln k) (i3 a) 1 = 0 := flt_ok (m := 1) hz z1 (by omega)
  refine AF.of k_LJ_cell (lo := [some (vR 2), some (vI (i3 k)), some (vI (i3 a)), some (vI (ln k)), none]) rfl (Nat.le_of_ble_eq_true rfl) (fun X hX hR => ?_)
  refine v_aload_n (pc := 0) hX rfl d_LJ_cell_0 ?_
  refine v_iconst (pc := 1) (v := 0) hX (by decide) d_LJ_cell_1 ?_
  refine g_putI (pc := 2) hX fl_LJ_52 rfl (finI rfl rfl) rfl rfl rfl d_LJ_cell_2 ?_
  refine v_aload_n (pc := 5) hX rfl d_LJ_cell_5 ?_
  refine v_iload_n (pc := 6) hX rfl d_LJ_cell_6 ?_
  refine f_callV (pc := 7) hX k_LJ_sheetAt ki_LJ_sheetAt kv_LJ_sheetAt ml_LJ_57 (C_LJ_sheetAt_in hk) rfl rfl rfl rfl rfl (Nat.le_of_ble_eq_true rfl) (Nat.le_of_ble_eq_true rfl) (Nat.le_of_ble_eq_true rfl) d_LJ_cell_7 ?_
  refine v_astore (pc := 10) (lo' := [some (vR _), some (vI _), some (vI _), some (vI _), some (vR _)]) hX (Nat.le_of_ble_eq_true rfl) rfl d_LJ_cell_10 ?_
  refine v_aload (pc := 12) hX rfl d_LJ_cell_12 ?_
  refine v_ifnull (pc := 14) (tgt := 25) hX d_LJ_cell_14 rfl (fun h14 => False.elim (by have := sh_two (by assumption); omega)) (fun h14 => ?_)
  refine v_iload_n (pc := 17) hX rfl d_LJ_cell_17 ?_
  refine v_iconst (pc := 18) (v := 3) hX (by decide) d_LJ_cell_18 ?_
  refine f_callS (pc := 19) hX k_LJ_isBelow ks_LJ_isBelow ml_LJ_65 (C_LJ_isBelow) rfl rfl rfl (Nat.le_of_ble_eq_true rfl) (Nat.le_of_ble_eq_true rfl) (Nat.le_of_ble_eq_true rfl) d_LJ_cell_19 ?_
  rw [show (3 : Int32).toInt - 1 = 2 from rfl]
  refine f_ifneB (pc := 22) (tgt := 29) hX d_LJ_cell_22 rfl (fun h22 => ?_) (fun h22 => False.elim (by rw [hu] at h22; cases h22))
  refine v_aload_n (pc := 29) hX rfl d_LJ_cell_29 ?_
  refine v_aload (pc := 30) hX rfl d_LJ_cell_30 ?_
  refine v_iload_n (pc := 32) hX rfl d_LJ_cell_32 ?_
  refine v_iload_n (pc := 33) hX rfl d_LJ_cell_33 ?_
  refine v_iconst (pc := 34) (v := 1) hX (by decide) d_LJ_cell_34 ?_
  refine f_callV (pc := 35) hX k_Sh_faultOf ki_Sh_faultOf kv_Sh_faultOf ml_LJ_69 (C_Sh_faultOf (by assumption)) (by assumption) rfl rfl rfl rfl (Nat.le_of_ble_eq_true rfl) (Nat.le_of_ble_eq_true rfl) (Nat.le_of_ble_eq_true rfl) d_LJ_cell_35 ?_
  rw [flt_eq hZ1 hk, hflt]
  refine g_putI (pc := 38) hX fl_LJ_52 rfl (finI rfl rfl) rfl rfl rfl d_LJ_cell_38 ?_
  rw [upM_up]
  refine v_aload_n (pc := 41) hX rfl d_LJ_cell_41 ?_
  refine g_getI (pc := 42) hX fl_LJ_52 rfl rfl d_LJ_cell_42 ?_
  rw [upM_same]
  refine v_if_ne (pc := 45) (tgt := 58) hX d_LJ_cell_45 rfl (fun h45 => False.elim (h45 rfl)) (fun h45 => ?_)
  refine v_aload (pc := 48) hX rfl d_LJ_cell_48 ?_
  refine v_iload_n (pc := 50) hX rfl d_LJ_cell_50 ?_
  refine f_callV (pc := 51) hX k_Sh_at ki_Sh_at kv_Sh_at ml_LJ_235 (C_Sh_at (j := a) hr hn hc (by omega)) (by assumption) rfl rfl rfl rfl (Nat.le_of_ble_eq_true rfl) (Nat.le_of_ble_eq_true rfl) (Nat.le_of_ble_eq_true rfl) d_LJ_cell_51 ?_
  refine v_i2l (pc := 54) hX d_LJ_cell_54 ?_
  refine v_goto (pc := 55) (tgt := 61) hX d_LJ_cell_55 rfl ?_
  exact f_lret (pc := 61) hX hR (by rw [upM_ne (by omega), z7 a ham]) (rfl) d_LJ_cell_61
theorem C_LJ_sheetAt_any {M : MM} {x : Int32} : ∃ r, AF y_LJ_sheetAt c_LJ_sheetAt 2 (some (.object "LastJars$Sheet")) 2 [vR 2, vI x] M (some (vR r)) M := by
  by_cases h : rg x 0 3 = true
  · obtain ⟨k, hk, rfl⟩ := rg_in (n := 4) (by decide) h
    exact ⟨_, C_LJ_sheetAt_in hk⟩
  · exact ⟨_, C_LJ_sheetAt_out (by simpa using h)⟩
theorem d_LJ_copy_0 : decode c_LJ_copy 0 = .ok (.aload_n 0, 1) := by decide +kernel
theorem d_LJ_copy_1 : decode c_LJ_copy 1 = .ok (.iload_n 1, 1) := by decide +kernel
theorem d_LJ_copy_2 : decode c_LJ_copy 2 = .ok (.invokevirtual 57, 3) := by decide +kernel
theorem d_LJ_copy_5 : decode c_LJ_copy 5 = .ok (.astore 6, 2) := by decide +kernel
theorem d_LJ_copy_7 : decode c_LJ_copy 7 = .ok (.aload_n 0, 1) := by decide +kernel
theorem d_LJ_copy_8 : decode c_LJ_copy 8 = .ok (.iload_n 3, 1) := by decide +kernel
theorem d_LJ_copy_9 : decode c_LJ_copy 9 = .ok (.invokevirtual 57, 3) := by decide +kernel
theorem d_LJ_copy_12 : decode c_LJ_copy 12 = .ok (.astore 7, 2) := by decide +kernel
theorem d_LJ_copy_14 : decode c_LJ_copy 14 = .ok (.aload 6, 2) := by decide +kernel
theorem d_LJ_copy_16 : decode c_LJ_copy 16 = .ok (.ifnull 8, 3) := by decide +kernel
theorem d_LJ_copy_19 : decode c_LJ_copy 19 = .ok (.aload 7, 2) := by decide +kernel
theorem d_LJ_copy_21 : decode c_LJ_copy 21 = .ok (.ifnonnull 9, 3) := by decide +kernel
theorem d_LJ_copy_24 : decode c_LJ_copy 24 = .ok (.aload_n 0, 1) := by decide +kernel
theorem d_LJ_copy_25 : decode c_LJ_copy 25 = .ok (.iconst (-1), 1) := by decide +kernel
theorem d_LJ_copy_26 : decode c_LJ_copy 26 = .ok (.invokevirtual 61, 3) := by decide +kernel
theorem d_LJ_copy_29 : decode c_LJ_copy 29 = .ok (.ireturn, 1) := by decide +kernel
theorem d_LJ_copy_30 : decode c_LJ_copy 30 = .ok (.aload 6, 2) := by decide +kernel
theorem d_LJ_copy_32 : decode c_LJ_copy 32 = .ok (.getfield 225, 3) := by decide +kernel
theorem d_LJ_copy_35 : decode c_LJ_copy 35 = .ok (.ifCond .eq 11, 3) := by decide +kernel
theorem d_LJ_copy_38 : decode c_LJ_copy 38 = .ok (.aload 7, 2) := by decide +kernel
theorem d_LJ_copy_40 : decode c_LJ_copy 40 = .ok (.getfield 225, 3) := by decide +kernel
theorem d_LJ_copy_43 : decode c_LJ_copy 43 = .ok (.ifCond .ne 9, 3) := by decide +kernel
theorem d_LJ_copy_46 : decode c_LJ_copy 46 = .ok (.aload_n 0, 1) := by decide +kernel
theorem d_LJ_copy_47 : decode c_LJ_copy 47 = .ok (.iconst 1, 1) := by decide +kernel
theorem d_LJ_copy_48 : decode c_LJ_copy 48 = .ok (.invokevirtual 73, 3) := by decide +kernel
theorem d_LJ_copy_51 : decode c_LJ_copy 51 = .ok (.ireturn, 1) := by decide +kernel
theorem d_LJ_copy_52 : decode c_LJ_copy 52 = .ok (.aload 6, 2) := by decide +kernel
theorem d_LJ_copy_54 : decode c_LJ_copy 54 = .ok (.getfield 229, 3) := by decide +kernel
theorem d_LJ_copy_57 : decode c_LJ_copy 57 = .ok (.aload 7, 2) := by decide +kernel
theorem d_LJ_copy_59 : decode c_LJ_copy 59 = .ok (.getfield 229, 3) := by decide +kernel
theorem d_LJ_copy_62 : decode c_LJ_copy 62 = .ok (.if_icmp .eq 9, 3) := by decide +kernel
theorem d_LJ_copy_65 : decode c_LJ_copy 65 = .ok (.aload_n 0, 1) := by decide +kernel
theorem d_LJ_copy_66 : decode c_LJ_copy 66 = .ok (.iconst 2, 1) := by decide +kernel
theorem d_LJ_copy_67 : decode c_LJ_copy 67 = .ok (.invokevirtual 73, 3) := by decide +kernel
theorem d_LJ_copy_70 : decode c_LJ_copy 70 = .ok (.ireturn, 1) := by decide +kernel
theorem d_LJ_copy_71 : decode c_LJ_copy 71 = .ok (.aload 6, 2) := by decide +kernel
theorem d_LJ_copy_73 : decode c_LJ_copy 73 = .ok (.iload_n 2, 1) := by decide +kernel
theorem d_LJ_copy_74 : decode c_LJ_copy 74 = .ok (.iload 5, 2) := by decide +kernel
theorem d_LJ_copy_76 : decode c_LJ_copy 76 = .ok (.invokevirtual 238, 3) := by decide +kernel
theorem d_LJ_copy_79 : decode c_LJ_copy 79 = .ok (.ifCond .eq 15, 3) := by decide +kernel
theorem d_LJ_copy_82 : decode c_LJ_copy 82 = .ok (.aload 7, 2) := by decide +kernel
theorem d_LJ_copy_84 : decode c_LJ_copy 84 = .ok (.iload 4, 2) := by decide +kernel
theorem d_LJ_copy_86 : decode c_LJ_copy 86 = .ok (.iload 5, 2) := by decide +kernel
theorem d_LJ_copy_88 : decode c_LJ_copy 88 = .ok (.invokevirtual 238, 3) := by decide +kernel
theorem d_LJ_copy_91 : decode c_LJ_copy 91 = .ok (.ifCond .ne 9, 3) := by decide +kernel
theorem d_LJ_copy_94 : decode c_LJ_copy 94 = .ok (.aload_n 0, 1) := by decide +kernel
theorem d_LJ_copy_95 : decode c_LJ_copy 95 = .ok (.iconst 3, 1) := by decide +kernel
theorem d_LJ_copy_96 : decode c_LJ_copy 96 = .ok (.invokevirtual 73, 3) := by decide +kernel
theorem d_LJ_copy_99 : decode c_LJ_copy 99 = .ok (.ireturn, 1) := by decide +kernel
theorem d_LJ_copy_100 : decode c_LJ_copy 100 = .ok (.aload_n 0, 1) := by decide +kernel
theorem d_LJ_copy_101 : decode c_LJ_copy 101 = .ok (.iconst 0, 1) := by decide +kernel
theorem d_LJ_copy_102 : decode c_LJ_copy 102 = .ok (.putfield 52, 3) := by decide +kernel
theorem d_LJ_copy_105 : decode c_LJ_copy 105 = .ok (.aload 6, 2) := by decide +kernel
theorem d_LJ_copy_107 : decode c_LJ_copy 107 = .ok (.getfield 241, 3) := by decide +kernel
theorem d_LJ_copy_110 : decode c_LJ_copy 110 = .ok (.iload_n 2, 1) := by decide +kernel
theorem d_LJ_copy_111 : decode c_LJ_copy 111 = .ok (.aload 7, 2) := by decide +kernel
theorem d_LJ_copy_113 : decode c_LJ_copy 113 = .ok (.getfield 241, 3) := by decide +kernel
theorem d_LJ_copy_116 : decode c_LJ_copy 116 = .ok (.iload 4, 2) := by decide +kernel
theorem d_LJ_copy_118 : decode c_LJ_copy 118 = .ok (.iload 5, 2) := by decide +kernel
theorem d_LJ_copy_120 : decode c_LJ_copy 120 = .ok (.invokestatic 245, 3) := by decide +kernel
theorem d_LJ_copy_123 : decode c_LJ_copy 123 = .ok (.iload 5, 2) := by decide +kernel
theorem d_LJ_copy_125 : decode c_LJ_copy 125 = .ok (.ireturn, 1) := by decide +kernel
theorem C_LJ_copy_o1 {M : MM} {x : Int32} (hx : rg x 0 3 = false) {i p j n : Int32} : AF y_LJ_copy c_LJ_copy 8 (some .int) 3 [vR 2, vI x, vI i, vI p, vI j, vI n] (M) (some (vI (-1))) (upM M 2 6 0) := by
  obtain ⟨r9, h9⟩ := C_LJ_sheetAt_any (M := M) (x := p)
  refine AF.of k_LJ_copy (lo := [some (vR 2), some (vI x), some (vI i), some (vI p), some (vI j), some (vI n), none, none]) rfl (Nat.le_of_ble_eq_true rfl) (fun X hX hR => ?_)
  refine v_aload_n (pc := 0) hX rfl d_LJ_copy_0 ?_
  refine v_iload_n (pc := 1) hX rfl d_LJ_copy_1 ?_
  refine f_callV (pc := 2) hX k_LJ_sheetAt ki_LJ_sheetAt kv_LJ_sheetAt ml_LJ_57 (C_LJ_sheetAt_out hx) rfl rfl rfl rfl rfl (Nat.le_of_ble_eq_true rfl) (Nat.le_of_ble_eq_true rfl) (Nat.le_of_ble_eq_true rfl) d_LJ_copy_2 ?_
  refine v_astore (pc := 5) (lo' := [some (vR _), some (vI _), some (vI _), some (vI _), some (vI _), some (vI _), some (vR _), none]) hX (Nat.le_of_ble_eq_true rfl) rfl d_LJ_copy_5 ?_
  refine v_aload_n (pc := 7) hX rfl d_LJ_copy_7 ?_
  refine v_iload_n (pc := 8) hX rfl d_LJ_copy_8 ?_
  refine f_callV (pc := 9) hX k_LJ_sheetAt ki_LJ_sheetAt kv_LJ_sheetAt ml_LJ_57 (h9) rfl rfl rfl rfl rfl (Nat.le_of_ble_eq_true rfl) (Nat.le_of_ble_eq_true rfl) (Nat.le_of_ble_eq_true rfl) d_LJ_copy_9 ?_
  refine v_astore (pc := 12) (lo' := [some (vR _), some (vI _), some (vI _), some (vI _), some (vI _), some (vI _), some (vR _), some (vR _)]) hX (Nat.le_of_ble_eq_true rfl) rfl d_LJ_copy_12 ?_
  refine v_aload (pc := 14) hX rfl d_LJ_copy_14 ?_
  refine v_ifnull (pc := 16) (tgt := 24) hX d_LJ_copy_16 rfl (fun h16 => ?_) (fun h16 => False.elim (by revert h16; decide))
  refine v_aload_n (pc := 24) hX rfl d_LJ_copy_24 ?_
  refine v_iconst (pc := 25) (v := (-1)) hX (by decide) d_LJ_copy_25 ?_
  refine f_callV (pc := 26) hX k_LJ_refused ki_LJ_refused kv_LJ_refused ml_LJ_61 (C_LJ_refused) rfl rfl rfl rfl rfl (Nat.le_of_ble_eq_true rfl) (Nat.le_of_ble_eq_true rfl) (Nat.le_of_ble_eq_true rfl) d_LJ_copy_26 ?_
  exact f_iret (pc := 29) hX hR (rfl) (rfl) d_LJ_copy_29
theorem C_LJ_copy_o2 {M : MM} {k : Nat} {x : Int32} (hx : rg x 0 3 = false) (hk : k < 4) {i j n : Int32} : AF y_LJ_copy c_LJ_copy 8 (some .int) 3 [vR 2, vI (i3 k), vI i, vI x, vI j, vI n] (M) (some (vI (-1))) (upM M 2 6 0) := by
  have hr := sh_sheet k hk
  refine AF.of k_LJ_copy (lo := [some (vR 2), some (vI (i3 k)), some (vI i), some (vI x), some (vI j), some (vI n), none, none]) rfl (Nat.le_of_ble_eq_true rfl) (fun X hX hR => ?_)
  refine v_aload_n (pc := 0) hX rfl d_LJ_copy_0 ?_
  refine v_iload_n (pc := 1) hX rfl d_LJ_copy_1 ?_
  refine f_callV (pc := 2) hX k_LJ_sheetAt ki_LJ_sheetAt kv_LJ_sheetAt ml_LJ_57 (C_LJ_sheetAt_in hk) rfl rfl rfl rfl rfl (Nat.le_of_ble_eq_true rfl) (Nat.le_of_ble_eq_true rfl) (Nat.le_of_ble_eq_true rfl) d_LJ_copy_2 ?_
  refine v_astore (pc := 5) (lo' := [some (vR _), some (vI _), some (vI _), some (vI _), some (vI _), some (vI _), some (vR _), none]) hX (Nat.le_of_ble_eq_true rfl) rfl d_LJ_copy_5 ?_
  refine v_aload_n (pc := 7) hX rfl d_LJ_copy_7 ?_
  refine v_iload_n (pc := 8) hX rfl d_LJ_copy_8 ?_
  refine f_callV (pc := 9) hX k_LJ_sheetAt ki_LJ_sheetAt kv_LJ_sheetAt ml_LJ_57 (C_LJ_sheetAt_out hx) rfl rfl rfl rfl rfl (Nat.le_of_ble_eq_true rfl) (Nat.le_of_ble_eq_true rfl) (Nat.le_of_ble_eq_true rfl) d_LJ_copy_9 ?_
  refine v_astore (pc := 12) (lo' := [some (vR _), some (vI _), some (vI _), some (vI _), some (vI _), some (vI _), some (vR _), some (vR _)]) hX (Nat.le_of_ble_eq_true rfl) rfl d_LJ_copy_12 ?_
  refine v_aload (pc := 14) hX rfl d_LJ_copy_14 ?_
  refine v_ifnull (pc := 16) (tgt := 24) hX d_LJ_copy_16 rfl (fun h16 => False.elim (by have := sh_two (by assumption); omega)) (fun h16 => ?_)
  refine v_aload (pc := 19) hX rfl d_LJ_copy_19 ?_
  refine v_ifnonnull (pc := 21) (tgt := 30) hX d_LJ_copy_21 rfl (fun h21 => False.elim (by revert h21; decide)) (fun h21 => ?_)
  refine v_aload_n (pc := 24) hX rfl d_LJ_copy_24 ?_
  refine v_iconst (pc := 25) (v := (-1)) hX (by decide) d_LJ_copy_25 ?_
  refine f_callV (pc := 26) hX k_LJ_refused ki_LJ_refused kv_LJ_refused ml_LJ_61 (C_LJ_refused) rfl rfl rfl rfl rfl (Nat.le_of_ble_eq_true rfl) (Nat.le_of_ble_eq_true rfl) (Nat.le_of_ble_eq_true rfl) d_LJ_copy_26 ?_
  exact f_iret (pc := 29) hX hR (rfl) (rfl) d_LJ_copy_29
theorem C_LJ_copy_null {M : MM} {k p : Nat} {zs : Nat → Nat} {ln : Nat → Int32} {C : JT} (hZ : CZ M zs ln C) (hk : k < 4) (hp : p < 4) {i j n : Int32} (h0 : zs k = 0 ∨ zs p = 0) : AF y_LJ_copy c_LJ_copy 8 (some .int) 3 [vR 2, vI (i3 k), vI i, vI (i3 p), vI j, vI n] (M) (some (vI (-11))) (upM M 2 6 1) := by
  have hr := sh_sheet k hk
  have hr2 := sh_sheet p hp
  obtain ⟨z1, z2, z3⟩ := hZ k hk
  obtain ⟨w1, w2, w3⟩ := hZ p hp
  refine AF.of k_LJ_copy (lo := [some (vR 2), some (vI (i3 k)), some (vI i), some (vI (i3 p)), some (vI j), some (vI n), none, none]) rfl (Nat.le_of_ble_eq_true rfl) (fun X hX hR => ?_)
  refine v_aload_n (pc := 0) hX rfl d_LJ_copy_0 ?_
  refine v_iload_n (pc := 1) hX rfl d_LJ_copy_1 ?_
  refine f_callV (pc := 2) hX k_LJ_sheetAt ki_LJ_sheetAt kv_LJ_sheetAt ml_LJ_57 (C_LJ_sheetAt_in hk) rfl rfl rfl rfl rfl (Nat.le_of_ble_eq_true rfl) (Nat.le_of_ble_eq_true rfl) (Nat.le_of_ble_eq_true rfl) d_LJ_copy_2 ?_
  refine v_astore (pc := 5) (lo' := [some (vR _), some (vI _), some (vI _), some (vI _), some (vI _), some (vI _), some (vR _), none]) hX (Nat.le_of_ble_eq_true rfl) rfl d_LJ_copy_5 ?_
  refine v_aload_n (pc := 7) hX rfl d_LJ_copy_7 ?_
  refine v_iload_n (pc := 8) hX rfl d_LJ_copy_8 ?_
  refine f_callV (pc := 9) hX k_LJ_sheetAt ki_LJ_sheetAt kv_LJ_sheetAt ml_LJ_57 (C_LJ_sheetAt_in hp) rfl rfl rfl rfl rfl (Nat.le_of_ble_eq_true rfl) (Nat.le_of_ble_eq_true rfl) (Nat.le_of_ble_eq_true rfl) d_LJ_copy_9 ?_
  refine v_astore (pc := 12) (lo' := [some (vR _), some (vI _), some (vI _), some (vI _), some (vI _), some (vI _), some (vR _), some (vR _)]) hX (Nat.le_of_ble_eq_true rfl) rfl d_LJ_copy_12 ?_
  refine v_aload (pc := 14) hX rfl d_LJ_copy_14 ?_
  refine v_ifnull (pc := 16) (tgt := 24) hX d_LJ_copy_16 rfl (fun h16 => False.elim (by have := sh_two (by assumption); omega)) (fun h16 => ?_)
  refine v_aload (pc := 19) hX rfl d_LJ_copy_19 ?_
  refine v_ifnonnull (pc := 21) (tgt := 30) hX d_LJ_copy_21 rfl (fun h21 => ?_) (fun h21 => False.elim (by have := sh_two (by assumption); omega))
  refine v_aload (pc := 30) hX rfl d_LJ_copy_30 ?_
  refine g_getI (pc := 32) hX fl_LJ_225 rfl (by assumption) d_LJ_copy_32 ?_
  refine v_if_eq (pc := 35) (tgt := 46) hX d_LJ_copy_35 rfl (fun h35 => ?_) (fun h35 => ?_)
  · refine v_aload_n (pc := 46) hX rfl d_LJ_copy_46 ?_
    refine v_iconst (pc := 47) (v := 1) hX (by decide) d_LJ_copy_47 ?_
    refine f_callV (pc := 48) hX k_LJ_failed ki_LJ_failed kv_LJ_failed ml_LJ_73 (C_LJ_failed) rfl rfl rfl rfl rfl (Nat.le_of_ble_eq_true rfl) (Nat.le_of_ble_eq_true rfl) (Nat.le_of_ble_eq_true rfl) d_LJ_copy_48 ?_
    exact f_iret (pc := 51) hX hR (rfl) (rfl) d_LJ_copy_51
  · refine v_aload (pc := 38) hX rfl d_LJ_copy_38 ?_
    refine g_getI (pc := 40) hX fl_LJ_225 rfl (by assumption) d_LJ_copy_40 ?_
    refine v_if_ne (pc := 43) (tgt := 52) hX d_LJ_copy_43 rfl (fun h43 => False.elim (by rcases h0 with h | h; exact h35 (z2 h); exact h43 (w2 h))) (fun h43 => ?_)
    refine v_aload_n (pc := 46) hX rfl d_LJ_copy_46 ?_
    refine v_iconst (pc := 47) (v := 1) hX (by decide) d_LJ_copy_47 ?_
    refine f_callV (pc := 48) hX k_LJ_failed ki_LJ_failed kv_LJ_failed ml_LJ_73 (C_LJ_failed) rfl rfl rfl rfl rfl (Nat.le_of_ble_eq_true rfl) (Nat.le_of_ble_eq_true rfl) (Nat.le_of_ble_eq_true rfl) d_LJ_copy_48 ?_
    exact f_iret (pc := 51) hX hR (rfl) (rfl) d_LJ_copy_51
theorem C_LJ_copy_cast {M : MM} {k p : Nat} {zs : Nat → Nat} {ln : Nat → Int32} {C : JT} (hZ : CZ M zs ln C) (hk : k < 4) (hp : p < 4) {i j n : Int32} (hz : zs k ≠ 0) (hz2 : zs p ≠ 0) (hl : ¬ ln k = ln p) : AF y_LJ_copy c_LJ_copy 8 (some .int) 3 [vR 2, vI (i3 k), vI i, vI (i3 p), vI j, vI n] (M) (some (vI (-12))) (upM M 2 6 2) := by
  have hr := sh_sheet k hk
  have hr2 := sh_sheet p hp
  obtain ⟨z1, z2, z3⟩ := hZ k hk
  obtain ⟨w1, w2, w3⟩ := hZ p hp
  refine AF.of k_LJ_copy (lo := [some (vR 2), some (vI (i3 k)), some (vI i), some (vI (i3 p)), some (vI j), some (vI n), none, none]) rfl (Nat.le_of_ble_eq_true rfl) (fun X hX hR => ?_)
  refine v_aload_n (pc := 0) hX rfl d_LJ_copy_0 ?_
  refine v_iload_n (pc := 1) hX rfl d_LJ_copy_1 ?_
  refine f_callV (pc := 2) hX k_LJ_sheetAt ki_LJ_sheetAt kv_LJ_sheetAt ml_LJ_57 (C_LJ_sheetAt_in hk) rfl rfl rfl rfl rfl (Nat.le_of_ble_eq_true rfl) (Nat.le_of_ble_eq_true rfl) (Nat.le_of_ble_eq_true rfl) d_LJ_copy_2 ?_
  refine v_astore (pc := 5) (lo' := [some (vR _), some (vI _), some (vI _), some (vI _), some (vI _), some (vI _), some (vR _), none]) hX (Nat.le_of_ble_eq_true rfl) rfl d_LJ_copy_5 ?_
  refine v_aload_n (pc := 7) hX rfl d_LJ_copy_7 ?_
  refine v_iload_n (pc := 8) hX rfl d_LJ_copy_8 ?_
  refine f_callV (pc := 9) hX k_LJ_sheetAt ki_LJ_sheetAt kv_LJ_sheetAt ml_LJ_57 (C_LJ_sheetAt_in hp) rfl rfl rfl rfl rfl (Nat.le_of_ble_eq_true rfl) (Nat.le_of_ble_eq_true rfl) (Nat.le_of_ble_eq_true rfl) d_LJ_copy_9 ?_
  refine v_astore (pc := 12) (lo' := [some (vR _), some (vI _), some (vI _), some (vI _), some (vI _), some (vI _), some (vR _), some (vR _)]) hX (Nat.le_of_ble_eq_true rfl) rfl d_LJ_copy_12 ?_
  refine v_aload (pc := 14) hX rfl d_LJ_copy_14 ?_
  refine v_ifnull (pc := 16) (tgt := 24) hX d_LJ_copy_16 rfl (fun h16 => False.elim (by have := sh_two (by assumption); omega)) (fun h16 => ?_)
  refine v_aload (pc := 19) hX rfl d_LJ_copy_19 ?_
  refine v_ifnonnull (pc := 21) (tgt := 30) hX d_LJ_copy_21 rfl (fun h21 => ?_) (fun h21 => False.elim (by have := sh_two (by assumption); omega))
  refine v_aload (pc := 30) hX rfl d_LJ_copy_30 ?_
  refine g_getI (pc := 32) hX fl_LJ_225 rfl (by assumption) d_LJ_copy_32 ?_
  refine v_if_eq (pc := 35) (tgt := 46) hX d_LJ_copy_35 rfl (fun h35 => False.elim (by rw [(z3 hz).1] at h35; exact absurd h35 (by decide))) (fun h35 => ?_)
  refine v_aload (pc := 38) hX rfl d_LJ_copy_38 ?_
  refine g_getI (pc := 40) hX fl_LJ_225 rfl (by assumption) d_LJ_copy_40 ?_
  refine v_if_ne (pc := 43) (tgt := 52) hX d_LJ_copy_43 rfl (fun h43 => ?_) (fun h43 => False.elim (by rw [(w3 hz2).1] at h43; exact absurd h43 (by decide)))
  refine v_aload (pc := 52) hX rfl d_LJ_copy_52 ?_
  refine g_getI (pc := 54) hX fl_LJ_229 rfl (by assumption) d_LJ_copy_54 ?_
  rw [(z3 hz).2.1]
  refine v_aload (pc := 57) hX rfl d_LJ_copy_57 ?_
  refine g_getI (pc := 59) hX fl_LJ_229 rfl (by assumption) d_LJ_copy_59 ?_
  rw [(w3 hz2).2.1]
  refine v_icmp_eq (pc := 62) (tgt := 71) hX d_LJ_copy_62 rfl (fun h62 => False.elim (hl h62)) (fun h62 => ?_)
  refine v_aload_n (pc := 65) hX rfl d_LJ_copy_65 ?_
  refine v_iconst (pc := 66) (v := 2) hX (by decide) d_LJ_copy_66 ?_
  refine f_callV (pc := 67) hX k_LJ_failed ki_LJ_failed kv_LJ_failed ml_LJ_73 (C_LJ_failed) rfl rfl rfl rfl rfl (Nat.le_of_ble_eq_true rfl) (Nat.le_of_ble_eq_true rfl) (Nat.le_of_ble_eq_true rfl) d_LJ_copy_67 ?_
  exact f_iret (pc := 70) hX hR (rfl) (rfl) d_LJ_copy_70
theorem C_LJ_copy_ix {M : MM} {k p : Nat} {zs : Nat → Nat} {ln : Nat → Int32} {C : JT} (hZ : CZ M zs ln C) (hk : k < 4) (hp : p < 4) {i j n : Int32} (hz : zs k ≠ 0) (hz2 : zs p ≠ 0) (hl : ln k = ln p) (hh : (hcB (i3 (zs k - 1)) i n && hcB (i3 (zs p - 1)) j n) = false) : AF y_LJ_copy c_LJ_copy 8 (some .int) 3 [vR 2, vI (i3 k), vI i, vI (i3 p), vI j, vI n] (M) (some (vI (-13))) (upM M 2 6 3) := by
  have hr := sh_sheet k hk
  have hr2 := sh_sheet p hp
  obtain ⟨z1, z2, z3⟩ := hZ k hk
  obtain ⟨w1, w2, w3⟩ := hZ p hp
  refine AF.of k_LJ_copy (lo := [some (vR 2), some (vI (i3 k)), some (vI i), some (vI (i3 p)), some (vI j), some (vI n), none, none]) rfl (Nat.le_of_ble_eq_true rfl) (fun X hX hR => ?_)
  refine v_aload_n (pc := 0) hX rfl d_LJ_copy_0 ?_
  refine v_iload_n (pc := 1) hX rfl d_LJ_copy_1 ?_
  refine f_callV (pc := 2) hX k_LJ_sheetAt ki_LJ_sheetAt kv_LJ_sheetAt ml_LJ_57 (C_LJ_sheetAt_in hk) rfl rfl rfl rfl rfl (Nat.le_of_ble_eq_true rfl) (Nat.le_of_ble_eq_true rfl) (Nat.le_of_ble_eq_true rfl) d_LJ_copy_2 ?_
  refine v_astore (pc := 5) (lo' := [some (vR _), some (vI _), some (vI _), some (vI _), some (vI _), some (vI _), some (vR _), none]) hX (Nat.le_of_ble_eq_true rfl) rfl d_LJ_copy_5 ?_
  refine v_aload_n (pc := 7) hX rfl d_LJ_copy_7 ?_
  refine v_iload_n (pc := 8) hX rfl d_LJ_copy_8 ?_
  refine f_callV (pc := 9) hX k_LJ_sheetAt ki_LJ_sheetAt kv_LJ_sheetAt ml_LJ_57 (C_LJ_sheetAt_in hp) rfl rfl rfl rfl rfl (Nat.le_of_ble_eq_true rfl) (Nat.le_of_ble_eq_true rfl) (Nat.le_of_ble_eq_true rfl) d_LJ_copy_9 ?_
  refine v_astore (pc := 12) (lo' := [some (vR _), some (vI _), some (vI _), some (vI _), some (vI _), some (vI _), some (vR _), some (vR _)]) hX (Nat.le_of_ble_eq_true rfl) rfl d_LJ_copy_12 ?_
  refine v_aload (pc := 14) hX rfl d_LJ_copy_14 ?_
  refine v_ifnull (pc := 16) (tgt := 24) hX d_LJ_copy_16 rfl (fun h16 => False.elim (by have := sh_two (by assumption); omega)) (fun h16 => ?_)
  refine v_aload (pc := 19) hX rfl d_LJ_copy_19 ?_
  refine v_ifnonnull (pc := 21) (tgt := 30) hX d_LJ_copy_21 rfl (fun h21 => ?_) (fun h21 => False.elim (by have := sh_two (by assumption); omega))
  refine v_aload (pc := 30) hX rfl d_LJ_copy_30 ?_
  refine g_getI (pc := 32) hX fl_LJ_225 rfl (by assumption) d_LJ_copy_32 ?_
  refine v_if_eq (pc := 35) (tgt := 46) hX d_LJ_copy_35 rfl (fun h35 => False.elim (by rw [(z3 hz).1] at h35; exact absurd h35 (by decide))) (fun h35 => ?_)
  refine v_aload (pc := 38) hX rfl d_LJ_copy_38 ?_
  refine g_getI (pc := 40) hX fl_LJ_225 rfl (by assumption) d_LJ_copy_40 ?_
  refine v_if_ne (pc := 43) (tgt := 52) hX d_LJ_copy_43 rfl (fun h43 => ?_) (fun h43 => False.elim (by rw [(w3 hz2).1] at h43; exact absurd h43 (by decide)))
  refine v_aload (pc := 52) hX rfl d_LJ_copy_52 ?_
  refine g_getI (pc := 54) hX fl_LJ_229 rfl (by assumption) d_LJ_copy_54 ?_
  rw [(z3 hz).2.1]
  refine v_aload (pc := 57) hX rfl d_LJ_copy_57 ?_
  refine g_getI (pc := 59) hX fl_LJ_229 rfl (by assumption) d_LJ_copy_59 ?_
  rw [(w3 hz2).2.1]
  refine v_icmp_eq (pc := 62) (tgt := 71) hX d_LJ_copy_62 rfl (fun h62 => ?_) (fun h62 => False.elim (h62 hl))
  refine v_aload (pc := 71) hX rfl d_LJ_copy_71 ?_
  refine v_iload_n (pc := 73) hX rfl d_LJ_copy_73 ?_
  refine v_iload (pc := 74) hX rfl d_LJ_copy_74 ?_
  refine f_callV (pc := 76) hX k_Sh_hasCells ki_Sh_hasCells kv_Sh_hasCells ml_LJ_238 (C_Sh_hasCells (by assumption)) (by assumption) rfl rfl rfl rfl (Nat.le_of_ble_eq_true rfl) (Nat.le_of_ble_eq_true rfl) (Nat.le_of_ble_eq_true rfl) d_LJ_copy_76 ?_
  rw [(z3 hz).2.2.1]
  refine f_ifeqB (pc := 79) (tgt := 94) hX d_LJ_copy_79 rfl (fun h79 => ?_) (fun h79 => ?_)
  · refine v_aload_n (pc := 94) hX rfl d_LJ_copy_94 ?_
    refine v_iconst (pc := 95) (v := 3) hX (by decide) d_LJ_copy_95 ?_
    refine f_callV (pc := 96) hX k_LJ_failed ki_LJ_failed kv_LJ_failed ml_LJ_73 (C_LJ_failed) rfl rfl rfl rfl rfl (Nat.le_of_ble_eq_true rfl) (Nat.le_of_ble_eq_true rfl) (Nat.le_of_ble_eq_true rfl) d_LJ_copy_96 ?_
    exact f_iret (pc := 99) hX hR (rfl) (rfl) d_LJ_copy_99
  · refine v_aload (pc := 82) hX rfl d_LJ_copy_82 ?_
    refine v_iload (pc := 84) hX rfl d_LJ_copy_84 ?_
    refine v_iload (pc := 86) hX rfl d_LJ_copy_86 ?_
    refine f_callV (pc := 88) hX k_Sh_hasCells ki_Sh_hasCells kv_Sh_hasCells ml_LJ_238 (C_Sh_hasCells (by assumption)) (by assumption) rfl rfl rfl rfl (Nat.le_of_ble_eq_true rfl) (Nat.le_of_ble_eq_true rfl) (Nat.le_of_ble_eq_true rfl) d_LJ_copy_88 ?_
    rw [(w3 hz2).2.2.1]
    refine f_ifneB (pc := 91) (tgt := 100) hX d_LJ_copy_91 rfl (fun h91 => False.elim (by rw [h79, h91] at hh; cases hh)) (fun h91 => ?_)
    refine v_aload_n (pc := 94) hX rfl d_LJ_copy_94 ?_
    refine v_iconst (pc := 95) (v := 3) hX (by decide) d_LJ_copy_95 ?_
    refine f_callV (pc := 96) hX k_LJ_failed ki_LJ_failed kv_LJ_failed ml_LJ_73 (C_LJ_failed) rfl rfl rfl rfl rfl (Nat.le_of_ble_eq_true rfl) (Nat.le_of_ble_eq_true rfl) (Nat.le_of_ble_eq_true rfl) d_LJ_copy_96 ?_
    exact f_iret (pc := 99) hX hR (rfl) (rfl) d_LJ_copy_99
theorem C_LJ_copy_ok {M : MM} {k p : Nat} {zs : Nat → Nat} {ln : Nat → Int32} {C : JT} (hZ : CZ M zs ln C) (hk : k < 4) (hp : p < 4) {a b m : Nat} (hz : zs k ≠ 0) (hz2 : zs p ≠ 0) (hl : ln k = ln p) (h1 : a + m ≤ zs k - 1) (h2 : b + m ≤ zs p - 1) : AF y_LJ_copy c_LJ_copy 8 (some .int) 3 [vR 2, vI (i3 k), vI (i3 a), vI (i3 p), vI (i3 b), vI (i3 m)] (M) (some (vI (i3 m))) (cpM (upM M 2 6 0) (29 + 2 * k) (29 + 2 * p) a b m) := by
  have hr := sh_sheet k hk
  have hr2 := sh_sheet p hp
  obtain ⟨z1, z2, z3⟩ := hZ k hk
  obtain ⟨w1, w2, w3⟩ := hZ p hp
  have hc := sh_cells k hk
  have hc2 := sh_cells p hp
  refine AF.of k_LJ_copy (lo := [some (vR 2), some (vI (i3 k)), some (vI (i3 a)), some (vI (i3 p)), some (vI (i3 b)), some (vI (i3 m)), none, none]) rfl (Nat.le_of_ble_eq_true rfl) (fun X hX hR => ?_)
  refine v_aload_n (pc := 0) hX rfl d_LJ_copy_0 ?_
  refine v_iload_n (pc := 1) hX rfl d_LJ_copy_1 ?_
  refine f_callV (pc := 2) hX k_LJ_sheetAt ki_LJ_sheetAt kv_LJ_sheetAt ml_LJ_57 (C_LJ_sheetAt_in hk) rfl rfl rfl rfl rfl (Nat.le_of_ble_eq_true rfl) (Nat.le_of_ble_eq_true rfl) (Nat.le_of_ble_eq_true rfl) d_LJ_copy_2 ?_
  refine v_astore (pc := 5) (lo' := [some (vR _), some (vI _), some (vI _), some (vI _), some (vI _), some (vI _), some (vR _), none]) hX (Nat.le_of_ble_eq_true rfl) rfl d_LJ_copy_5 ?_
  refine v_aload_n (pc := 7) hX rfl d_LJ_copy_7 ?_
  refine v_iload_n (pc := 8) hX rfl d_LJ_copy_8 ?_
  refine f_callV (pc := 9) hX k_LJ_sheetAt ki_LJ_sheetAt kv_LJ_sheetAt ml_LJ_57 (C_LJ_sheetAt_in hp) rfl rfl rfl rfl rfl (Nat.le_of_ble_eq_true rfl) (Nat.le_of_ble_eq_true rfl) (Nat.le_of_ble_eq_true rfl) d_LJ_copy_9 ?_
  refine v_astore (pc := 12) (lo' := [some (vR _), some (vI _), some (vI _), some (vI _), some (vI _), some (vI _), some (vR _), some (vR _)]) hX (Nat.le_of_ble_eq_true rfl) rfl d_LJ_copy_12 ?_
  refine v_aload (pc := 14) hX rfl d_LJ_copy_14 ?_
  refine v_ifnull (pc := 16) (tgt := 24) hX d_LJ_copy_16 rfl (fun h16 => False.elim (by have := sh_two (by assumption); omega)) (fun h16 => ?_)
  refine v_aload (pc := 19) hX rfl d_LJ_copy_19 ?_
  refine v_ifnonnull (pc := 21) (tgt := 30) hX d_LJ_copy_21 rfl (fun h21 => ?_) (fun h21 => False.elim (by have := sh_two (by assumption); omega))
  refine v_aload (pc := 30) hX rfl d_LJ_copy_30 ?_
  refine g_getI (pc := 32) hX fl_LJ_225 rfl (by assumption) d_LJ_copy_32 ?_
  refine v_if_eq (pc := 35) (tgt := 46) hX d_LJ_copy_35 rfl (fun h35 => False.elim (by rw [(z3 hz).1] at h35; exact absurd h35 (by decide))) (fun h35 => ?_)
  refine v_aload (pc := 38) hX rfl d_LJ_copy_38 ?_
  refine g_getI (pc := 40) hX fl_LJ_225 rfl (by assumption) d_LJ_copy_40 ?_
  refine v_if_ne (pc := 43) (tgt := 52) hX d_LJ_copy_43 rfl (fun h43 => ?_) (fun h43 => False.elim (by rw [(w3 hz2).1] at h43; exact absurd h43 (by decide)))
  refine v_aload (pc := 52) hX rfl d_LJ_copy_52 ?_
  refine g_getI (pc := 54) hX fl_LJ_229 rfl (by assumption) d_LJ_copy_54 ?_
  rw [(z3 hz).2.1]
  refine v_aload (pc := 57) hX rfl d_LJ_copy_57 ?_
  refine g_getI (pc := 59) hX fl_LJ_229 rfl (by assumption) d_LJ_copy_59 ?_
  rw [(w3 hz2).2.1]
  refine v_icmp_eq (pc := 62) (tgt := 71) hX d_LJ_copy_62 rfl (fun h62 => ?_) (fun h62 => False.elim (h62 hl))
  refine v_aload (pc := 71) hX rfl d_LJ_copy_71 ?_
  refine v_iload_n (pc := 73) hX rfl d_LJ_copy_73 ?_
  refine v_iload (pc := 74) hX rfl d_LJ_copy_74 ?_
  refine f_callV (pc := 76) hX k_Sh_hasCells ki_Sh_hasCells kv_Sh_hasCells ml_LJ_238 (C_Sh_hasCells (by assumption)) (by assumption) rfl rfl rfl rfl (Nat.le_of_ble_eq_true rfl) (Nat.le_of_ble_eq_true rfl) (Nat.le_of_ble_eq_true rfl) d_LJ_copy_76 ?_
  rw [(z3 hz).2.2.1]
  refine f_ifeqB (pc := 79) (tgt := 94) hX d_LJ_copy_79 rfl (fun h79 => False.elim (by rw [hcB_i3 (by omega) h1] at h79; cases h79)) (fun h79 => ?_)
  refine v_aload (pc := 82) hX rfl d_LJ_copy_82 ?_
  refine v_iload (pc := 84) hX rfl d_LJ_copy_84 ?_
  refine v_iload (pc := 86) hX rfl d_LJ_copy_86 ?_
  refine f_callV (pc := 88) hX k_Sh_hasCells ki_Sh_hasCells kv_Sh_hasCells ml_LJ_238 (C_Sh_hasCells (by assumption)) (by assumption) rfl rfl rfl rfl (Nat.le_of_ble_eq_true rfl) (Nat.le_of_ble_eq_true rfl) (Nat.le_of_ble_eq_true rfl) d_LJ_copy_88 ?_
  rw [(w3 hz2).2.2.1]
  refine f_ifneB (pc := 91) (tgt := 100) hX d_LJ_copy_91 rfl (fun h91 => ?_) (fun h91 => False.elim (by rw [hcB_i3 (by omega) h2] at h91; cases h91))
  refine v_aload_n (pc := 100) hX rfl d_LJ_copy_100 ?_
  refine v_iconst (pc := 101) (v := 0) hX (by decide) d_LJ_copy_101 ?_
  refine g_putI (pc := 102) hX fl_LJ_52 rfl (finI rfl rfl) rfl rfl rfl d_LJ_copy_102 ?_
  refine v_aload (pc := 105) hX rfl d_LJ_copy_105 ?_
  refine g_getR (pc := 107) hX fl_LJ_241 rfl (by assumption) (nf_cells k hk) d_LJ_copy_107 ?_
  refine v_iload_n (pc := 110) hX rfl d_LJ_copy_110 ?_
  refine v_aload (pc := 111) hX rfl d_LJ_copy_111 ?_
  refine g_getR (pc := 113) hX fl_LJ_241 rfl (by assumption) (nf_cells p hp) d_LJ_copy_113 ?_
  refine v_iload (pc := 116) hX rfl d_LJ_copy_116 ?_
  refine v_iload (pc := 118) hX rfl d_LJ_copy_118 ?_
  refine g_copy (pc := 120) hX ml_LJ_245 hc hc2 (by omega) (by omega) rfl (Nat.le_of_ble_eq_true rfl) (Nat.le_of_ble_eq_true rfl) d_LJ_copy_120 ?_
  refine v_iload (pc := 123) hX rfl d_LJ_copy_123 ?_
  exact f_iret (pc := 125) hX hR (rfl) (rfl) d_LJ_copy_125
