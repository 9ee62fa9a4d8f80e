/-! The model: whom to serve. -/
theorem div_b {u d : Nat} (hu : u < 1000000) (hd : d < 1000000) : i3 u / i3 d = i3 (u / d) := by
  have h : u / d ≤ u := Nat.div_le_self u d
  apply Int32.toInt_inj.mp
  rw [Int32.toInt_div, i3_int (by omega), i3_int (by omega), i3_int (by omega), ← Int.ofNat_tdiv]
  generalize u / d = c at h ⊢
  exact Int.bmod_eq_of_le (by omega) (by omega)
theorem rem_b {u d : Nat} (hu : u < 1000000) (hd : d < 1000000) : i3 u - i3 u / i3 d * i3 d = i3 (u % d) := by
  rw [div_b hu hd, ← i3_mul]
  have e : i3 u = i3 (u % d) + i3 (u / d * d) := by rw [← i3_add, Nat.mod_add_div' u d]
  rw [e, Int32.add_sub_cancel]
theorem div_dg {n row m : Nat} (h : row < 1000000) (h6 : n ≤ 6) : i3 (row / (n + 1) ^ m) / i3 (n + 1) = i3 (row / (n + 1) ^ (m + 1)) := by
  have := Nat.div_le_self row ((n + 1) ^ m)
  rw [div_b (by omega) (by omega), Nat.div_div_eq_div_mul, ← Nat.pow_succ]
theorem rem_dg {n row m : Nat} (h : row < 1000000) (h6 : n ≤ 6) : i3 (row / (n + 1) ^ m) - i3 (row / (n + 1) ^ m) / i3 (n + 1) * i3 (n + 1) = i3 (dg n row m) := by
  have := Nat.div_le_self row ((n + 1) ^ m)
  rw [rem_b (by omega) (by omega)]; rfl
theorem dn_lt {nd k : Nat} (h : k < nd) : i3 nd - 1 - i3 k = i3 (nd - (k + 1)) := by
  have e : i3 nd = i3 (nd - (k + 1)) + i3 k + 1 := by rw [← i3_add, ← i3_succ]; congr 1; omega
  rw [e, Int32.add_sub_cancel, Int32.add_sub_cancel]
theorem dn_end (nd : Nat) : i3 nd - 1 - i3 nd = -1 := by
  have h : i3 nd - 1 = -1 + i3 nd := by rw [Int32.sub_eq_add_neg, Int32.add_comm]
  rw [h, Int32.add_sub_cancel]
theorem dn_s {nd k : Nat} (h : k < nd) : i3 nd - 1 - i3 (k + 1) = i3 (nd - (k + 1)) + -1 := by
  rw [← dn_lt h, i3_succ, ← Int32.sub_eq_add_neg, Int32.sub_eq_add_neg (i3 nd - 1) (i3 k + 1), Int32.neg_add, Int32.sub_eq_add_neg (-i3 k) 1, ← Int32.add_assoc, ← Int32.sub_eq_add_neg, ← Int32.sub_eq_add_neg]
theorem MJ.cp56 {M : MM} {n k : Nat} {J : JT} {f : Nat → Int32} (h : MJ M n J) : MJ (cpF M 56 f k) n J :=
  ⟨h.1, by rw [cpF_ne (by decide)]; exact h.2.1, fun j hj i hi => by rw [cpF_ne (by omega)]; exact h.2.2.1 j hj i hi, h.2.2.2⟩
theorem MB.cp56 {M : MM} {n k : Nat} {J : JT} {f : Nat → Int32} (h : MB M n J) : MB (cpF M 56 f k) n J :=
  ⟨h.1, by rw [cpF_ne (by decide)]; exact h.2.1, fun j hj i hi => by rw [cpF_ne (by omega)]; exact h.2.2.1 j hj i hi, h.2.2.2⟩
theorem TKM_s {M : MM} {n row m : Nat} : upM (cpF M 56 (fun x => i3 (TK n row m x)) (n + 1)) 56 (dg n row m) (i3 (TK n row m (dg n row m)) + 1) = cpF M 56 (fun x => i3 (TK n row (m + 1) x)) (n + 1) := by
  have hd := dg_le n row m
  funext a i
  simp only [upM, cpF, ← i3_succ]
  by_cases h : a = 56 ∧ i = dg n row m
  · rw [if_pos h, if_pos (by omega), TK_s, h.2, if_pos rfl]
  · rw [if_neg h]
    by_cases h2 : a = 56 ∧ i < n + 1
    · rw [if_pos h2, if_pos h2, TK_s, if_neg (fun w => h ⟨h2.1, w.symm⟩)]; rfl
    · rw [if_neg h2, if_neg h2]
theorem OK_f {J B : JT} {n nd row m : Nat} {hv : Nat → Nat} (h : OKr J B n nd hv row m = false) : OKr J B n nd hv row (m + 1) = false := by
  unfold OKr; rw [h]; rfl
theorem OK_n {J B : JT} {n nd row m : Nat} {hv : Nat → Nat} (h : OKr J B n nd hv row m = true) (hd : ¬ dg n row m < n) : OKr J B n nd hv row (m + 1) = true := by
  unfold OKr; rw [h, decide_eq_true hd]; rfl
theorem OK_p {J B : JT} {n nd row m : Nat} {hv : Nat → Nat} (hd : dg n row m < n) (h : ¬ J (dg n row m) 4 ≤ B (nd - (m + 1)) 2) : OKr J B n nd hv row (m + 1) = false := by
  unfold OKr; rw [decide_eq_false (fun w => w hd), decide_eq_false h]; simp
theorem OK_t {J B : JT} {n nd row m : Nat} {hv : Nat → Nat} (hd : dg n row m < n) (h : ¬ TK n row (m + 1) (dg n row m) ≤ hv (dg n row m)) : OKr J B n nd hv row (m + 1) = false := by
  unfold OKr; rw [decide_eq_false (fun w => w hd), decide_eq_false h]; simp
theorem OK_y {J B : JT} {n nd row m : Nat} {hv : Nat → Nat} (h0 : OKr J B n nd hv row m = true) (hd : dg n row m < n) (h1 : J (dg n row m) 4 ≤ B (nd - (m + 1)) 2) (h : TK n row (m + 1) (dg n row m) ≤ hv (dg n row m)) : OKr J B n nd hv row (m + 1) = true := by
  unfold OKr; rw [h0, decide_eq_true h1, decide_eq_true h]; simp
theorem dc_dk {J B : JT} {n j b : Nat} (h6 : n ≤ 6) (hj : j < n) : dcB J (B b 0) (B b 1) n (2 ^ j) = dkB J B j b := by unfold dcB dkB; rw [bl_one h6 hj]
theorem CN_y {J B : JT} {n nd row m : Nat} (hd : dg n row m < n) (h : dkB J B (dg n row m) (nd - (m + 1)) = true) : CN J B n nd row (m + 1) = CN J B n nd row m + 1 := by
  show CN J B n nd row m + _ = _
  rw [if_pos ⟨hd, h⟩]
theorem CN_no {J B : JT} {n nd row m : Nat} (h : dkB J B (dg n row m) (nd - (m + 1)) = false) : CN J B n nd row (m + 1) = CN J B n nd row m := by
  show CN J B n nd row m + _ = _
  rw [if_neg (fun w => by rw [h] at w; exact absurd w.2 (by decide))]; rfl
def eW (w : Nat) : Int32 := if w = 0 then -9 else i3 (w - 1)
theorem eW_0 : eW 0 = -9 := rfl
theorem eW_s (w : Nat) : eW (w + 1) = i3 w := by unfold eW; rw [if_neg (Nat.succ_ne_zero w)]; rfl
theorem eW_int {w : Nat} (h : w < 1000) : (eW w).toInt = if w = 0 then -9 else (w : Int) - 1 := by
  unfold eW
  by_cases e : w = 0
  · rw [if_pos e, if_pos e]; rfl
  · rw [if_neg e, if_neg e, i3_int (by omega)]; omega
theorem eW_le {a b : Nat} (ha : a < 1000) (hb : b < 1000) : eW a ≤ eW b ↔ a ≤ b := by
  rw [Int32.le_iff_toInt_le, eW_int ha, eW_int hb]
  split <;> split <;> omega
theorem d_Mo_decideBy_0 : decode c_Mo_decideBy 0 = .ok (.iconst 0, 1) := by decide +kernel
theorem d_Mo_decideBy_1 : decode c_Mo_decideBy 1 = .ok (.istore_n 3, 1) := by decide +kernel
theorem d_Mo_decideBy_2 : decode c_Mo_decideBy 2 = .ok (.iload_n 3, 1) := by decide +kernel
theorem d_Mo_decideBy_3 : decode c_Mo_decideBy 3 = .ok (.iload_n 2, 1) := by decide +kernel
theorem d_Mo_decideBy_4 : decode c_Mo_decideBy 4 = .ok (.if_icmp .ge 16, 3) := by decide +kernel
theorem d_Mo_decideBy_7 : decode c_Mo_decideBy 7 = .ok (.aload_n 0, 1) := by decide +kernel
theorem d_Mo_decideBy_8 : decode c_Mo_decideBy 8 = .ok (.getfield 67, 3) := by decide +kernel
theorem d_Mo_decideBy_11 : decode c_Mo_decideBy 11 = .ok (.iload_n 3, 1) := by decide +kernel
theorem d_Mo_decideBy_12 : decode c_Mo_decideBy 12 = .ok (.iconst 0, 1) := by decide +kernel
theorem d_Mo_decideBy_13 : decode c_Mo_decideBy 13 = .ok (.iastore, 1) := by decide +kernel
theorem d_Mo_decideBy_14 : decode c_Mo_decideBy 14 = .ok (.iinc 3 1, 3) := by decide +kernel
theorem d_Mo_decideBy_17 : decode c_Mo_decideBy 17 = .ok (.goto (-15), 3) := by decide +kernel
theorem d_Mo_decideBy_20 : decode c_Mo_decideBy 20 = .ok (.iload_n 1, 1) := by decide +kernel
theorem d_Mo_decideBy_21 : decode c_Mo_decideBy 21 = .ok (.istore_n 3, 1) := by decide +kernel
theorem d_Mo_decideBy_22 : decode c_Mo_decideBy 22 = .ok (.iconst 0, 1) := by decide +kernel
theorem d_Mo_decideBy_23 : decode c_Mo_decideBy 23 = .ok (.istore 4, 2) := by decide +kernel
theorem d_Mo_decideBy_25 : decode c_Mo_decideBy 25 = .ok (.iconst 1, 1) := by decide +kernel
theorem d_Mo_decideBy_26 : decode c_Mo_decideBy 26 = .ok (.istore 5, 2) := by decide +kernel
theorem d_Mo_decideBy_28 : decode c_Mo_decideBy 28 = .ok (.aload_n 0, 1) := by decide +kernel
theorem d_Mo_decideBy_29 : decode c_Mo_decideBy 29 = .ok (.getfield 108, 3) := by decide +kernel
theorem d_Mo_decideBy_32 : decode c_Mo_decideBy 32 = .ok (.iconst 1, 1) := by decide +kernel
theorem d_Mo_decideBy_33 : decode c_Mo_decideBy 33 = .ok (.isub, 1) := by decide +kernel
theorem d_Mo_decideBy_34 : decode c_Mo_decideBy 34 = .ok (.istore 6, 2) := by decide +kernel
theorem d_Mo_decideBy_36 : decode c_Mo_decideBy 36 = .ok (.iload 6, 2) := by decide +kernel
theorem d_Mo_decideBy_38 : decode c_Mo_decideBy 38 = .ok (.ifCond .lt 124, 3) := by decide +kernel
theorem d_Mo_decideBy_41 : decode c_Mo_decideBy 41 = .ok (.iload_n 3, 1) := by decide +kernel
theorem d_Mo_decideBy_42 : decode c_Mo_decideBy 42 = .ok (.iload_n 2, 1) := by decide +kernel
theorem d_Mo_decideBy_43 : decode c_Mo_decideBy 43 = .ok (.irem, 1) := by decide +kernel
theorem d_Mo_decideBy_44 : decode c_Mo_decideBy 44 = .ok (.istore 7, 2) := by decide +kernel
theorem d_Mo_decideBy_46 : decode c_Mo_decideBy 46 = .ok (.iload_n 3, 1) := by decide +kernel
theorem d_Mo_decideBy_47 : decode c_Mo_decideBy 47 = .ok (.iload_n 2, 1) := by decide +kernel
theorem d_Mo_decideBy_48 : decode c_Mo_decideBy 48 = .ok (.idiv, 1) := by decide +kernel
theorem d_Mo_decideBy_49 : decode c_Mo_decideBy 49 = .ok (.istore_n 3, 1) := by decide +kernel
theorem d_Mo_decideBy_50 : decode c_Mo_decideBy 50 = .ok (.aload_n 0, 1) := by decide +kernel
theorem d_Mo_decideBy_51 : decode c_Mo_decideBy 51 = .ok (.getfield 67, 3) := by decide +kernel
theorem d_Mo_decideBy_54 : decode c_Mo_decideBy 54 = .ok (.iload 7, 2) := by decide +kernel
theorem d_Mo_decideBy_56 : decode c_Mo_decideBy 56 = .ok (.dup2, 1) := by decide +kernel
theorem d_Mo_decideBy_57 : decode c_Mo_decideBy 57 = .ok (.iaload, 1) := by decide +kernel
theorem d_Mo_decideBy_58 : decode c_Mo_decideBy 58 = .ok (.iconst 1, 1) := by decide +kernel
theorem d_Mo_decideBy_59 : decode c_Mo_decideBy 59 = .ok (.iadd, 1) := by decide +kernel
theorem d_Mo_decideBy_60 : decode c_Mo_decideBy 60 = .ok (.iastore, 1) := by decide +kernel
theorem d_Mo_decideBy_61 : decode c_Mo_decideBy 61 = .ok (.iload 7, 2) := by decide +kernel
theorem d_Mo_decideBy_63 : decode c_Mo_decideBy 63 = .ok (.aload_n 0, 1) := by decide +kernel
theorem d_Mo_decideBy_64 : decode c_Mo_decideBy 64 = .ok (.getfield 101, 3) := by decide +kernel
theorem d_Mo_decideBy_67 : decode c_Mo_decideBy 67 = .ok (.if_icmp .ge 7, 3) := by decide +kernel
theorem d_Mo_decideBy_70 : decode c_Mo_decideBy 70 = .ok (.iconst 1, 1) := by decide +kernel
theorem d_Mo_decideBy_71 : decode c_Mo_decideBy 71 = .ok (.goto 4, 3) := by decide +kernel
theorem d_Mo_decideBy_74 : decode c_Mo_decideBy 74 = .ok (.iconst 0, 1) := by decide +kernel
theorem d_Mo_decideBy_75 : decode c_Mo_decideBy 75 = .ok (.istore 8, 2) := by decide +kernel
theorem d_Mo_decideBy_77 : decode c_Mo_decideBy 77 = .ok (.iload 5, 2) := by decide +kernel
theorem d_Mo_decideBy_79 : decode c_Mo_decideBy 79 = .ok (.ifCond .eq 46, 3) := by decide +kernel
theorem d_Mo_decideBy_82 : decode c_Mo_decideBy 82 = .ok (.iload 8, 2) := by decide +kernel
theorem d_Mo_decideBy_84 : decode c_Mo_decideBy 84 = .ok (.ifCond .eq 37, 3) := by decide +kernel
theorem d_Mo_decideBy_87 : decode c_Mo_decideBy 87 = .ok (.aload_n 0, 1) := by decide +kernel
theorem d_Mo_decideBy_88 : decode c_Mo_decideBy 88 = .ok (.getfield 22, 3) := by decide +kernel
theorem d_Mo_decideBy_91 : decode c_Mo_decideBy 91 = .ok (.iload 7, 2) := by decide +kernel
theorem d_Mo_decideBy_93 : decode c_Mo_decideBy 93 = .ok (.iaload, 1) := by decide +kernel
theorem d_Mo_decideBy_94 : decode c_Mo_decideBy 94 = .ok (.aload_n 0, 1) := by decide +kernel
theorem d_Mo_decideBy_95 : decode c_Mo_decideBy 95 = .ok (.getfield 31, 3) := by decide +kernel
theorem d_Mo_decideBy_98 : decode c_Mo_decideBy 98 = .ok (.iload 6, 2) := by decide +kernel
theorem d_Mo_decideBy_100 : decode c_Mo_decideBy 100 = .ok (.iaload, 1) := by decide +kernel
theorem d_Mo_decideBy_101 : decode c_Mo_decideBy 101 = .ok (.if_icmp .gt 24, 3) := by decide +kernel
theorem d_Mo_decideBy_104 : decode c_Mo_decideBy 104 = .ok (.aload_n 0, 1) := by decide +kernel
theorem d_Mo_decideBy_105 : decode c_Mo_decideBy 105 = .ok (.getfield 67, 3) := by decide +kernel
theorem d_Mo_decideBy_108 : decode c_Mo_decideBy 108 = .ok (.iload 7, 2) := by decide +kernel
theorem d_Mo_decideBy_110 : decode c_Mo_decideBy 110 = .ok (.iaload, 1) := by decide +kernel
theorem d_Mo_decideBy_111 : decode c_Mo_decideBy 111 = .ok (.aload_n 0, 1) := by decide +kernel
theorem d_Mo_decideBy_112 : decode c_Mo_decideBy 112 = .ok (.getfield 19, 3) := by decide +kernel
theorem d_Mo_decideBy_115 : decode c_Mo_decideBy 115 = .ok (.iload 7, 2) := by decide +kernel
theorem d_Mo_decideBy_117 : decode c_Mo_decideBy 117 = .ok (.iaload, 1) := by decide +kernel
theorem d_Mo_decideBy_118 : decode c_Mo_decideBy 118 = .ok (.if_icmp .gt 7, 3) := by decide +kernel
theorem d_Mo_decideBy_121 : decode c_Mo_decideBy 121 = .ok (.iconst 1, 1) := by decide +kernel
theorem d_Mo_decideBy_122 : decode c_Mo_decideBy 122 = .ok (.goto 4, 3) := by decide +kernel
theorem d_Mo_decideBy_125 : decode c_Mo_decideBy 125 = .ok (.iconst 0, 1) := by decide +kernel
theorem d_Mo_decideBy_126 : decode c_Mo_decideBy 126 = .ok (.istore 5, 2) := by decide +kernel
theorem d_Mo_decideBy_128 : decode c_Mo_decideBy 128 = .ok (.iload 4, 2) := by decide +kernel
theorem d_Mo_decideBy_130 : decode c_Mo_decideBy 130 = .ok (.iload 8, 2) := by decide +kernel
theorem d_Mo_decideBy_132 : decode c_Mo_decideBy 132 = .ok (.ifCond .eq 20, 3) := by decide +kernel
theorem d_Mo_decideBy_135 : decode c_Mo_decideBy 135 = .ok (.aload_n 0, 1) := by decide +kernel
theorem d_Mo_decideBy_136 : decode c_Mo_decideBy 136 = .ok (.iload 6, 2) := by decide +kernel
theorem d_Mo_decideBy_138 : decode c_Mo_decideBy 138 = .ok (.iconst 1, 1) := by decide +kernel
theorem d_Mo_decideBy_139 : decode c_Mo_decideBy 139 = .ok (.iload 7, 2) := by decide +kernel
theorem d_Mo_decideBy_141 : decode c_Mo_decideBy 141 = .ok (.ishl, 1) := by decide +kernel
theorem d_Mo_decideBy_142 : decode c_Mo_decideBy 142 = .ok (.invokevirtual 193, 3) := by decide +kernel
theorem d_Mo_decideBy_145 : decode c_Mo_decideBy 145 = .ok (.ifCond .eq 7, 3) := by decide +kernel
theorem d_Mo_decideBy_148 : decode c_Mo_decideBy 148 = .ok (.iconst 1, 1) := by decide +kernel
theorem d_Mo_decideBy_149 : decode c_Mo_decideBy 149 = .ok (.goto 4, 3) := by decide +kernel
theorem d_Mo_decideBy_152 : decode c_Mo_decideBy 152 = .ok (.iconst 0, 1) := by decide +kernel
theorem d_Mo_decideBy_153 : decode c_Mo_decideBy 153 = .ok (.iadd, 1) := by decide +kernel
theorem d_Mo_decideBy_154 : decode c_Mo_decideBy 154 = .ok (.istore 4, 2) := by decide +kernel
theorem d_Mo_decideBy_156 : decode c_Mo_decideBy 156 = .ok (.iinc 6 (-1), 3) := by decide +kernel
theorem d_Mo_decideBy_159 : decode c_Mo_decideBy 159 = .ok (.goto (-123), 3) := by decide +kernel
theorem d_Mo_decideBy_162 : decode c_Mo_decideBy 162 = .ok (.iload 5, 2) := by decide +kernel
theorem d_Mo_decideBy_164 : decode c_Mo_decideBy 164 = .ok (.ifCond .eq 8, 3) := by decide +kernel
theorem d_Mo_decideBy_167 : decode c_Mo_decideBy 167 = .ok (.iload 4, 2) := by decide +kernel
theorem d_Mo_decideBy_169 : decode c_Mo_decideBy 169 = .ok (.goto 5, 3) := by decide +kernel
theorem d_Mo_decideBy_172 : decode c_Mo_decideBy 172 = .ok (.bipush (-9), 2) := by decide +kernel
theorem d_Mo_decideBy_174 : decode c_Mo_decideBy 174 = .ok (.ireturn, 1) := by decide +kernel
set_option maxHeartbeats 4000000 in
theorem C_Mo_decideBy {M : MM} {n nd row : Nat} {J B : JT} {hv : Nat → Nat} (hJ : MJ M n J) (hB : MB M nd B) (hH : HV n J hv) (hr : row < 1000000) : AF y_Mo_decideBy c_Mo_decideBy 9 (some .int) 5 [vR 36, vI (i3 row), vI (i3 (n + 1))] (M) (some (vI (eW (vR1 J B n nd hv row)))) (cpF M 56 (fun x => i3 (TK n row nd x)) (n + 1)) := by
  have h6 := hJ.1
  have h4 := hB.1
  have hb0 : ¬ i3 (n + 1) = 0 := fun w => by have := (i3_inj (a := n + 1) (b := 0) (by omega) (by decide)).mp w; omega
  refine AF.of k_Mo_decideBy (lo := [some (vR 36), some (vI (i3 row)), some (vI (i3 (n + 1))), none, none, none, none, none, none]) rfl (Nat.le_of_ble_eq_true rfl) (fun X hX hR => ?_)
  refine v_iconst (pc := 0) (v := 0) hX (by decide) d_Mo_decideBy_0 ?_
  refine v_istore_n (pc := 1) (lo' := [some (vR _), some (vI _), some (vI _), some (vI _), none, none, none, none, none]) hX (Nat.le_of_ble_eq_true rfl) rfl d_Mo_decideBy_1 ?_
  refine VW.cast (lo' := [some (vR 36), some (vI (i3 row)), some (vI (i3 (n + 1))), some (vI (i3 0)), none, none, none, none, none]) (st' := []) (G' := gM (cpF M 56 (fun _ => 0) 0)) rfl rfl (by rw [cpF_0]) ?_
  refine v_for (X := X) (head := 2) (n + 1) (fun kk => [some (vR 36), some (vI (i3 row)), some (vI (i3 (n + 1))), some (vI (i3 kk)), none, none, none, none, none]) (fun kk => cpF M 56 (fun _ => 0) kk) (fun k hk ih2 => ?_) ?_
  · show VW X 2 [some (vR 36), some (vI (i3 row)), some (vI (i3 (n + 1))), some (vI (i3 k)), none, none, none, none, none] [] (gM (cpF M 56 (fun _ => 0) k))
    refine v_iload_n (pc := 2) hX rfl d_Mo_decideBy_2 ?_
    refine v_iload_n (pc := 3) hX rfl d_Mo_decideBy_3 ?_
    refine v_icmp_ge (pc := 4) (tgt := 20) hX d_Mo_decideBy_4 rfl (fun h4 => False.elim (i3_ge_abs hk (by omega) h4)) (fun h4 => ?_)
    refine v_aload_n (pc := 7) hX rfl d_Mo_decideBy_7 ?_
    refine g_getR (pc := 8) hX fl_Mo_67 rfl rfl nf_36_25 d_Mo_decideBy_8 ?_
    refine v_iload_n (pc := 11) hX rfl d_Mo_decideBy_11 ?_
    refine v_iconst (pc := 12) (v := 0) hX (by decide) d_Mo_decideBy_12 ?_
    refine g_iast (pc := 13) hX rfl (IX.of (n := 7) (by omega) (by decide)) d_Mo_decideBy_13 ?_
    refine v_iinc (pc := 14) (lo' := [some (vR _), some (vI _), some (vI _), some (vI _), none, none, none, none, none]) hX rfl rfl d_Mo_decideBy_14 ?_
    refine v_goto (pc := 17) (tgt := 2) hX d_Mo_decideBy_17 rfl ?_
    exact VW.cast (by rw [i3_succ k]; rfl) rfl (by rw [cpF_s]) ih2
  · show VW X 2 [some (vR 36), some (vI (i3 row)), some (vI (i3 (n + 1))), some (vI (i3 (n + 1))), none, none, none, none, none] [] (gM (cpF M 56 (fun _ => 0) (n + 1)))
    refine v_iload_n (pc := 2) hX rfl d_Mo_decideBy_2 ?_
    refine v_iload_n (pc := 3) hX rfl d_Mo_decideBy_3 ?_
    refine v_icmp_ge (pc := 4) (tgt := 20) hX d_Mo_decideBy_4 rfl (fun h4 => ?_) (fun h4 => False.elim (absurd (Int32.le_refl _) h4))
    refine v_iload_n (pc := 20) hX rfl d_Mo_decideBy_20 ?_
    refine v_istore_n (pc := 21) (lo' := [some (vR _), some (vI _), some (vI _), some (vI _), none, none, none, none, none]) hX (Nat.le_of_ble_eq_true rfl) rfl d_Mo_decideBy_21 ?_
    refine v_iconst (pc := 22) (v := 0) hX (by decide) d_Mo_decideBy_22 ?_
    refine v_istore (pc := 23) (lo' := [some (vR _), some (vI _), some (vI _), some (vI _), some (vI _), none, none, none, none]) hX (Nat.le_of_ble_eq_true rfl) rfl d_Mo_decideBy_23 ?_
    refine v_iconst (pc := 25) (v := 1) hX (by decide) d_Mo_decideBy_25 ?_
    refine v_istore (pc := 26) (lo' := [some (vR _), some (vI _), some (vI _), some (vI _), some (vI _), some (vI _), none, none, none]) hX (Nat.le_of_ble_eq_true rfl) rfl d_Mo_decideBy_26 ?_
    refine v_aload_n (pc := 28) hX rfl d_Mo_decideBy_28 ?_
    refine g_getI (pc := 29) hX fl_Mo_108 rfl rfl d_Mo_decideBy_29 ?_
    rw [cpF_ne (by decide), hB.2.1]
    refine v_iconst (pc := 32) (v := 1) hX (by decide) d_Mo_decideBy_32 ?_
    refine v_isub (pc := 33) hX d_Mo_decideBy_33 ?_
    refine v_istore (pc := 34) (lo' := [some (vR _), some (vI _), some (vI _), some (vI _), some (vI _), some (vI _), some (vI _), none, none]) hX (Nat.le_of_ble_eq_true rfl) rfl d_Mo_decideBy_34 ?_
    refine VW.cast (lo' := [some (vR 36), some (vI (i3 row)), some (vI (i3 (n + 1))), some (vI (i3 (row / (n + 1) ^ 0))), some (vI (i3 (CN J B n nd row 0))), some (vI (bI (OKr J B n nd hv row 0))), some (vI (i3 nd - 1 - i3 0)), none, none]) (st' := []) (G' := gM (cpF M 56 (fun x => i3 (TK n row 0 x)) (n + 1))) (by rw [Nat.pow_zero, Nat.div_one, show i3 nd - 1 - i3 0 = i3 nd - 1 from Int32.sub_zero _]; rfl) rfl rfl ?_
    refine v_for (X := X) (head := 36) (nd) (fun kk => [some (vR 36), some (vI (i3 row)), some (vI (i3 (n + 1))), some (vI (i3 (row / (n + 1) ^ kk))), some (vI (i3 (CN J B n nd row kk))), some (vI (bI (OKr J B n nd hv row kk))), some (vI (i3 nd - 1 - i3 kk)), none, none]) (fun kk => cpF M 56 (fun x => i3 (TK n row kk x)) (n + 1)) (fun m hm ih36 => ?_) ?_
    · show VW X 36 [some (vR 36), some (vI (i3 row)), some (vI (i3 (n + 1))), some (vI (i3 (row / (n + 1) ^ m))), some (vI (i3 (CN J B n nd row m))), some (vI (bI (OKr J B n nd hv row m))), some (vI (i3 nd - 1 - i3 m)), none, none] [] (gM (cpF M 56 (fun x => i3 (TK n row m x)) (n + 1)))
      rw [dn_lt hm]
      have hdg := dg_le n row m
      have hJ1 : ∀ f, MJ (cpF M 56 f (n + 1)) n J := fun f => hJ.cp56
      have hB1 : ∀ f, MB (cpF M 56 f (n + 1)) nd B := fun f => hB.cp56
      have htk := TK_le n row (dg n row m) (m + 1)
      refine v_iload (pc := 36) hX rfl d_Mo_decideBy_36 ?_
      refine v_if_lt (pc := 38) (tgt := 162) hX d_Mo_decideBy_38 rfl (fun h38 => False.elim (by have := (i3_lt (b := 0) (by omega) (by decide)).mp h38; omega)) (fun h38 => ?_)
      refine v_iload_n (pc := 41) hX rfl d_Mo_decideBy_41 ?_
      refine v_iload_n (pc := 42) hX rfl d_Mo_decideBy_42 ?_
      refine v_irem (pc := 43) hX hb0 d_Mo_decideBy_43 ?_
      rw [rem_dg hr h6]
      refine v_istore (pc := 44) (lo' := [some (vR _), some (vI _), some (vI _), some (vI _), some (vI _), some (vI _), some (vI _), some (vI _), none]) hX (Nat.le_of_ble_eq_true rfl) rfl d_Mo_decideBy_44 ?_
      refine v_iload_n (pc := 46) hX rfl d_Mo_decideBy_46 ?_
      refine v_iload_n (pc := 47) hX rfl d_Mo_decideBy_47 ?_
      refine v_idiv (pc := 48) hX hb0 d_Mo_decideBy_48 ?_
      rw [div_dg hr h6]
      refine v_istore_n (pc := 49) (lo' := [some (vR _), some (vI _), some (vI _), some (vI _), some (vI _), some (vI _), some (vI _), some (vI _), none]) hX (Nat.le_of_ble_eq_true rfl) rfl d_Mo_decideBy_49 ?_
      refine v_aload_n (pc := 50) hX rfl d_Mo_decideBy_50 ?_
      refine g_getR (pc := 51) hX fl_Mo_67 rfl rfl nf_36_25 d_Mo_decideBy_51 ?_
      refine v_iload (pc := 54) hX rfl d_Mo_decideBy_54 ?_
      refine v_dup2 (pc := 56) hX rfl rfl d_Mo_decideBy_56 ?_
      refine g_iald (pc := 57) hX rfl (IX.of (n := 7) (by omega) (by decide)) d_Mo_decideBy_57 ?_
      rw [cpF_in (by omega)]
      refine v_iconst (pc := 58) (v := 1) hX (by decide) d_Mo_decideBy_58 ?_
      refine v_iadd (pc := 59) hX d_Mo_decideBy_59 ?_
      refine g_iast (pc := 60) hX rfl (IX.of (n := 7) (by omega) (by decide)) d_Mo_decideBy_60 ?_
      rw [TKM_s]
      refine v_iload (pc := 61) hX rfl d_Mo_decideBy_61 ?_
      refine v_aload_n (pc := 63) hX rfl d_Mo_decideBy_63 ?_
      refine g_getI (pc := 64) hX fl_Mo_101 rfl rfl d_Mo_decideBy_64 ?_
      rw [cpF_ne (by decide), hJ.2.1]
      refine v_icmp_ge (pc := 67) (tgt := 74) hX d_Mo_decideBy_67 rfl (fun h67 => ?_) (fun h67 => ?_)
      · have hd : ¬ dg n row m < n := fun w => i3_ge_abs w (by omega) h67
        have eC := CN_n (J := J) (B := B) (nd := nd) hd
        refine v_iconst (pc := 74) (v := 0) hX (by decide) d_Mo_decideBy_74 ?_
        refine v_istore (pc := 75) (lo' := [some (vR _), some (vI _), some (vI _), some (vI _), some (vI _), some (vI _), some (vI _), some (vI _), some (vI _)]) hX (Nat.le_of_ble_eq_true rfl) rfl d_Mo_decideBy_75 ?_
        refine v_iload (pc := 77) hX rfl d_Mo_decideBy_77 ?_
        refine f_ifeqB (pc := 79) (tgt := 125) hX d_Mo_decideBy_79 rfl (fun h79 => ?_) (fun h79 => ?_)
        · have eO := OK_f h79
          refine v_iconst (pc := 125) (v := 0) hX (by decide) d_Mo_decideBy_125 ?_
          refine v_istore (pc := 126) (lo' := [some (vR _), some (vI _), some (vI _), some (vI _), some (vI _), some (vI _), some (vI _), some (vI _), some (vI _)]) hX (Nat.le_of_ble_eq_true rfl) rfl d_Mo_decideBy_126 ?_
          refine v_iload (pc := 128) hX rfl d_Mo_decideBy_128 ?_
          refine v_iload (pc := 130) hX rfl d_Mo_decideBy_130 ?_
          refine v_if_eq (pc := 132) (tgt := 152) hX d_Mo_decideBy_132 rfl (fun h132 => ?_) (fun h132 => False.elim (by revert h132; decide))
          refine v_iconst (pc := 152) (v := 0) hX (by decide) d_Mo_decideBy_152 ?_
          refine v_iadd (pc := 153) hX d_Mo_decideBy_153 ?_
          first | rw [Int32.add_zero] | rw [← i3_succ]
          refine v_istore (pc := 154) (lo' := [some (vR _), some (vI _), some (vI _), some (vI _), some (vI _), some (vI _), some (vI _), some (vI _), some (vI _)]) hX (Nat.le_of_ble_eq_true rfl) rfl d_Mo_decideBy_154 ?_
          refine v_iinc (pc := 156) (lo' := [some (vR _), some (vI _), some (vI _), some (vI _), some (vI _), some (vI _), some (vI _), some (vI _), some (vI _)]) hX rfl rfl d_Mo_decideBy_156 ?_
          refine v_goto (pc := 159) (tgt := 36) hX d_Mo_decideBy_159 rfl ?_
          refine VW.fg [true, true, true, true, true, true, true, false, false] ?_
          exact VW.cast (by first | (rw [eO, eC, dn_s hm]; rfl) | (rw [eO1 hd, eC, dn_s hm]; rfl)) rfl rfl ih36
        · have eO1 := OK_n h79
          refine v_iload (pc := 82) hX rfl d_Mo_decideBy_82 ?_
          refine v_if_eq (pc := 84) (tgt := 121) hX d_Mo_decideBy_84 rfl (fun h84 => ?_) (fun h84 => False.elim (by revert h84; decide))
          refine v_iconst (pc := 121) (v := 1) hX (by decide) d_Mo_decideBy_121 ?_
          refine v_goto (pc := 122) (tgt := 126) hX d_Mo_decideBy_122 rfl ?_
          refine v_istore (pc := 126) (lo' := [some (vR _), some (vI _), some (vI _), some (vI _), some (vI _), some (vI _), some (vI _), some (vI _), some (vI _)]) hX (Nat.le_of_ble_eq_true rfl) rfl d_Mo_decideBy_126 ?_
          refine v_iload (pc := 128) hX rfl d_Mo_decideBy_128 ?_
          refine v_iload (pc := 130) hX rfl d_Mo_decideBy_130 ?_
          refine v_if_eq (pc := 132) (tgt := 152) hX d_Mo_decideBy_132 rfl (fun h132 => ?_) (fun h132 => False.elim (by revert h132; decide))
          refine v_iconst (pc := 152) (v := 0) hX (by decide) d_Mo_decideBy_152 ?_
          refine v_iadd (pc := 153) hX d_Mo_decideBy_153 ?_
          first | rw [Int32.add_zero] | rw [← i3_succ]
          refine v_istore (pc := 154) (lo' := [some (vR _), some (vI _), some (vI _), some (vI _), some (vI _), some (vI _), some (vI _), some (vI _), some (vI _)]) hX (Nat.le_of_ble_eq_true rfl) rfl d_Mo_decideBy_154 ?_
          refine v_iinc (pc := 156) (lo' := [some (vR _), some (vI _), some (vI _), some (vI _), some (vI _), some (vI _), some (vI _), some (vI _), some (vI _)]) hX rfl rfl d_Mo_decideBy_156 ?_
          refine v_goto (pc := 159) (tgt := 36) hX d_Mo_decideBy_159 rfl ?_
          refine VW.fg [true, true, true, true, true, true, true, false, false] ?_
          exact VW.cast (by first | (rw [eO, eC, dn_s hm]; rfl) | (rw [eO1 hd, eC, dn_s hm]; rfl)) rfl rfl ih36
      · have hd : dg n row m < n := Nat.lt_of_not_le (fun w => h67 ((i3_le (by omega) (by omega)).mpr w))
        have hhv := (hH _ hd).2
        refine v_iconst (pc := 70) (v := 1) hX (by decide) d_Mo_decideBy_70 ?_
        refine v_goto (pc := 71) (tgt := 75) hX d_Mo_decideBy_71 rfl ?_
        refine v_istore (pc := 75) (lo' := [some (vR _), some (vI _), some (vI _), some (vI _), some (vI _), some (vI _), some (vI _), some (vI _), some (vI _)]) hX (Nat.le_of_ble_eq_true rfl) rfl d_Mo_decideBy_75 ?_
        refine v_iload (pc := 77) hX rfl d_Mo_decideBy_77 ?_
        refine f_ifeqB (pc := 79) (tgt := 125) hX d_Mo_decideBy_79 rfl (fun h79 => ?_) (fun h79 => ?_)
        · have eO := OK_f h79
          refine v_iconst (pc := 125) (v := 0) hX (by decide) d_Mo_decideBy_125 ?_
          refine v_istore (pc := 126) (lo' := [some (vR _), some (vI _), some (vI _), some (vI _), some (vI _), some (vI _), some (vI _), some (vI _), some (vI _)]) hX (Nat.le_of_ble_eq_true rfl) rfl d_Mo_decideBy_126 ?_
          refine v_iload (pc := 128) hX rfl d_Mo_decideBy_128 ?_
          refine v_iload (pc := 130) hX rfl d_Mo_decideBy_130 ?_
          refine v_if_eq (pc := 132) (tgt := 152) hX d_Mo_decideBy_132 rfl (fun h132 => False.elim (by revert h132; decide)) (fun h132 => ?_)
          refine v_aload_n (pc := 135) hX rfl d_Mo_decideBy_135 ?_
          refine v_iload (pc := 136) hX rfl d_Mo_decideBy_136 ?_
          refine v_iconst (pc := 138) (v := 1) hX (by decide) d_Mo_decideBy_138 ?_
          refine v_iload (pc := 139) hX rfl d_Mo_decideBy_139 ?_
          refine v_ishl (pc := 141) hX d_Mo_decideBy_141 ?_
          rw [shl_i3 _ (by omega)]
          refine f_callV (pc := 142) hX k_Mo_decides ki_Mo_decides kv_Mo_decides ml_Mo_193 (C_Mo_decides (hJ1 _) (hB1 _) (b := nd - (m + 1)) (by omega) (Nat.pow_pos (by decide)) (Nat.pow_lt_pow_right (by decide) hd)) rfl rfl rfl rfl rfl (Nat.le_of_ble_eq_true rfl) (Nat.le_of_ble_eq_true rfl) (Nat.le_of_ble_eq_true rfl) d_Mo_decideBy_142 ?_
          rw [dc_dk h6 hd]
          refine f_ifeqB (pc := 145) (tgt := 152) hX d_Mo_decideBy_145 rfl (fun h145 => ?_) (fun h145 => ?_)
          · have eC := CN_no h145
            refine v_iconst (pc := 152) (v := 0) hX (by decide) d_Mo_decideBy_152 ?_
            refine v_iadd (pc := 153) hX d_Mo_decideBy_153 ?_
            first | rw [Int32.add_zero] | rw [← i3_succ]
            refine v_istore (pc := 154) (lo' := [some (vR _), some (vI _), some (vI _), some (vI _), some (vI _), some (vI _), some (vI _), some (vI _), some (vI _)]) hX (Nat.le_of_ble_eq_true rfl) rfl d_Mo_decideBy_154 ?_
            refine v_iinc (pc := 156) (lo' := [some (vR _), some (vI _), some (vI _), some (vI _), some (vI _), some (vI _), some (vI _), some (vI _), some (vI _)]) hX rfl rfl d_Mo_decideBy_156 ?_
            refine v_goto (pc := 159) (tgt := 36) hX d_Mo_decideBy_159 rfl ?_
            refine VW.fg [true, true, true, true, true, true, true, false, false] ?_
            exact VW.cast (by first | (rw [eO, eC, dn_s hm]; rfl) | (rw [eO1 hd, eC, dn_s hm]; rfl)) rfl rfl ih36
          · have eC := CN_y hd h145
            refine v_iconst (pc := 148) (v := 1) hX (by decide) d_Mo_decideBy_148 ?_
            refine v_goto (pc := 149) (tgt := 153) hX d_Mo_decideBy_149 rfl ?_
            refine v_iadd (pc := 153) hX d_Mo_decideBy_153 ?_
            first | rw [Int32.add_zero] | rw [← i3_succ]
            refine v_istore (pc := 154) (lo' := [some (vR _), some (vI _), some (vI _), some (vI _), some (vI _), some (vI _), some (vI _), some (vI _), some (vI _)]) hX (Nat.le_of_ble_eq_true rfl) rfl d_Mo_decideBy_154 ?_
            refine v_iinc (pc := 156) (lo' := [some (vR _), some (vI _), some (vI _), some (vI _), some (vI _), some (vI _), some (vI _), some (vI _), some (vI _)]) hX rfl rfl d_Mo_decideBy_156 ?_
            refine v_goto (pc := 159) (tgt := 36) hX d_Mo_decideBy_159 rfl ?_
            refine VW.fg [true, true, true, true, true, true, true, false, false] ?_
            exact VW.cast (by first | (rw [eO, eC, dn_s hm]; rfl) | (rw [eO1 hd, eC, dn_s hm]; rfl)) rfl rfl ih36
        · have eO1 := OK_n h79
          refine v_iload (pc := 82) hX rfl d_Mo_decideBy_82 ?_
          refine v_if_eq (pc := 84) (tgt := 121) hX d_Mo_decideBy_84 rfl (fun h84 => False.elim (by revert h84; decide)) (fun h84 => ?_)
          refine v_aload_n (pc := 87) hX rfl d_Mo_decideBy_87 ?_
          refine g_getR (pc := 88) hX fl_Mo_22 rfl rfl nf_36_6 d_Mo_decideBy_88 ?_
          refine v_iload (pc := 91) hX rfl d_Mo_decideBy_91 ?_
          refine g_iald (pc := 93) hX rfl (IX.of (n := 6) (by omega) (by decide)) d_Mo_decideBy_93 ?_
          rw [cpF_ne (by decide), show M 41 (dg n row m) = J (dg n row m) 4 from hJ.2.2.1 _ hd 4 (by decide)]
          refine v_aload_n (pc := 94) hX rfl d_Mo_decideBy_94 ?_
          refine g_getR (pc := 95) hX fl_Mo_31 rfl rfl nf_36_10 d_Mo_decideBy_95 ?_
          refine v_iload (pc := 98) hX rfl d_Mo_decideBy_98 ?_
          refine g_iald (pc := 100) hX rfl (IX.of (n := 4) (by omega) (by decide)) d_Mo_decideBy_100 ?_
          rw [cpF_ne (by decide), show M 44 (nd - (m + 1)) = B (nd - (m + 1)) 2 from hB.2.2.1 _ (by omega) 2 (by decide)]
          refine v_icmp_gt (pc := 101) (tgt := 125) hX d_Mo_decideBy_101 rfl (fun h101 => ?_) (fun h101 => ?_)
          · have eO := OK_p (hv := hv) hd (Int32.not_le.mpr h101)
            refine v_iconst (pc := 125) (v := 0) hX (by decide) d_Mo_decideBy_125 ?_
            refine v_istore (pc := 126) (lo' := [some (vR _), some (vI _), some (vI _), some (vI _), some (vI _), some (vI _), some (vI _), some (vI _), some (vI _)]) hX (Nat.le_of_ble_eq_true rfl) rfl d_Mo_decideBy_126 ?_
            refine v_iload (pc := 128) hX rfl d_Mo_decideBy_128 ?_
            refine v_iload (pc := 130) hX rfl d_Mo_decideBy_130 ?_
            refine v_if_eq (pc := 132) (tgt := 152) hX d_Mo_decideBy_132 rfl (fun h132 => False.elim (by revert h132; decide)) (fun h132 => ?_)
            refine v_aload_n (pc := 135) hX rfl d_Mo_decideBy_135 ?_
            refine v_iload (pc := 136) hX rfl d_Mo_decideBy_136 ?_
            refine v_iconst (pc := 138) (v := 1) hX (by decide) d_Mo_decideBy_138 ?_
            refine v_iload (pc := 139) hX rfl d_Mo_decideBy_139 ?_
            refine v_ishl (pc := 141) hX d_Mo_decideBy_141 ?_
            rw [shl_i3 _ (by omega)]
            refine f_callV (pc := 142) hX k_Mo_decides ki_Mo_decides kv_Mo_decides ml_Mo_193 (C_Mo_decides (hJ1 _) (hB1 _) (b := nd - (m + 1)) (by omega) (Nat.pow_pos (by decide)) (Nat.pow_lt_pow_right (by decide) hd)) rfl rfl rfl rfl rfl (Nat.le_of_ble_eq_true rfl) (Nat.le_of_ble_eq_true rfl) (Nat.le_of_ble_eq_true rfl) d_Mo_decideBy_142 ?_
            rw [dc_dk h6 hd]
            refine f_ifeqB (pc := 145) (tgt := 152) hX d_Mo_decideBy_145 rfl (fun h145 => ?_) (fun h145 => ?_)
            · have eC := CN_no h145
              refine v_iconst (pc := 152) (v := 0) hX (by decide) d_Mo_decideBy_152 ?_
              refine v_iadd (pc := 153) hX d_Mo_decideBy_153 ?_
              first | rw [Int32.add_zero] | rw [← i3_succ]
              refine v_istore (pc := 154) (lo' := [some (vR _), some (vI _), some (vI _), some (vI _), some (vI _), some (vI _), some (vI _), some (vI _), some (vI _)]) hX (Nat.le_of_ble_eq_true rfl) rfl d_Mo_decideBy_154 ?_
              refine v_iinc (pc := 156) (lo' := [some (vR _), some (vI _), some (vI _), some (vI _), some (vI _), some (vI _), some (vI _), some (vI _), some (vI _)]) hX rfl rfl d_Mo_decideBy_156 ?_
              refine v_goto (pc := 159) (tgt := 36) hX d_Mo_decideBy_159 rfl ?_
              refine VW.fg [true, true, true, true, true, true, true, false, false] ?_
              exact VW.cast (by first | (rw [eO, eC, dn_s hm]; rfl) | (rw [eO1 hd, eC, dn_s hm]; rfl)) rfl rfl ih36
            · have eC := CN_y hd h145
              refine v_iconst (pc := 148) (v := 1) hX (by decide) d_Mo_decideBy_148 ?_
              refine v_goto (pc := 149) (tgt := 153) hX d_Mo_decideBy_149 rfl ?_
              refine v_iadd (pc := 153) hX d_Mo_decideBy_153 ?_
              first | rw [Int32.add_zero] | rw [← i3_succ]
              refine v_istore (pc := 154) (lo' := [some (vR _), some (vI _), some (vI _), some (vI _), some (vI _), some (vI _), some (vI _), some (vI _), some (vI _)]) hX (Nat.le_of_ble_eq_true rfl) rfl d_Mo_decideBy_154 ?_
              refine v_iinc (pc := 156) (lo' := [some (vR _), some (vI _), some (vI _), some (vI _), some (vI _), some (vI _), some (vI _), some (vI _), some (vI _)]) hX rfl rfl d_Mo_decideBy_156 ?_
              refine v_goto (pc := 159) (tgt := 36) hX d_Mo_decideBy_159 rfl ?_
              refine VW.fg [true, true, true, true, true, true, true, false, false] ?_
              exact VW.cast (by first | (rw [eO, eC, dn_s hm]; rfl) | (rw [eO1 hd, eC, dn_s hm]; rfl)) rfl rfl ih36
          · refine v_aload_n (pc := 104) hX rfl d_Mo_decideBy_104 ?_
            refine g_getR (pc := 105) hX fl_Mo_67 rfl rfl nf_36_25 d_Mo_decideBy_105 ?_
            refine v_iload (pc := 108) hX rfl d_Mo_decideBy_108 ?_
            refine g_iald (pc := 110) hX rfl (IX.of (n := 7) (by omega) (by decide)) d_Mo_decideBy_110 ?_
            rw [cpF_in (by omega)]
            refine v_aload_n (pc := 111) hX rfl d_Mo_decideBy_111 ?_
            refine g_getR (pc := 112) hX fl_Mo_19 rfl rfl nf_36_5 d_Mo_decideBy_112 ?_
            refine v_iload (pc := 115) hX rfl d_Mo_decideBy_115 ?_
            refine g_iald (pc := 117) hX rfl (IX.of (n := 6) (by omega) (by decide)) d_Mo_decideBy_117 ?_
            rw [cpF_ne (by decide), show M 40 (dg n row m) = J (dg n row m) 3 from hJ.2.2.1 _ hd 3 (by decide), (hH _ hd).1]
            refine v_icmp_gt (pc := 118) (tgt := 125) hX d_Mo_decideBy_118 rfl (fun h118 => ?_) (fun h118 => ?_)
            · have eO := OK_t (J := J) (B := B) (nd := nd) hd (fun w => absurd ((i3_le (by omega) (by omega)).mpr w) (Int32.not_le.mpr h118))
              refine v_iconst (pc := 125) (v := 0) hX (by decide) d_Mo_decideBy_125 ?_
              refine v_istore (pc := 126) (lo' := [some (vR _), some (vI _), some (vI _), some (vI _), some (vI _), some (vI _), some (vI _), some (vI _), some (vI _)]) hX (Nat.le_of_ble_eq_true rfl) rfl d_Mo_decideBy_126 ?_
              refine v_iload (pc := 128) hX rfl d_Mo_decideBy_128 ?_
              refine v_iload (pc := 130) hX rfl d_Mo_decideBy_130 ?_
              refine v_if_eq (pc := 132) (tgt := 152) hX d_Mo_decideBy_132 rfl (fun h132 => False.elim (by revert h132; decide)) (fun h132 => ?_)
              refine v_aload_n (pc := 135) hX rfl d_Mo_decideBy_135 ?_
              refine v_iload (pc := 136) hX rfl d_Mo_decideBy_136 ?_
              refine v_iconst (pc := 138) (v := 1) hX (by decide) d_Mo_decideBy_138 ?_
              refine v_iload (pc := 139) hX rfl d_Mo_decideBy_139 ?_
              refine v_ishl (pc := 141) hX d_Mo_decideBy_141 ?_
              rw [shl_i3 _ (by omega)]
              refine f_callV (pc := 142) hX k_Mo_decides ki_Mo_decides kv_Mo_decides ml_Mo_193 (C_Mo_decides (hJ1 _) (hB1 _) (b := nd - (m + 1)) (by omega) (Nat.pow_pos (by decide)) (Nat.pow_lt_pow_right (by decide) hd)) rfl rfl rfl rfl rfl (Nat.le_of_ble_eq_true rfl) (Nat.le_of_ble_eq_true rfl) (Nat.le_of_ble_eq_true rfl) d_Mo_decideBy_142 ?_
              rw [dc_dk h6 hd]
              refine f_ifeqB (pc := 145) (tgt := 152) hX d_Mo_decideBy_145 rfl (fun h145 => ?_) (fun h145 => ?_)
              · have eC := CN_no h145
                refine v_iconst (pc := 152) (v := 0) hX (by decide) d_Mo_decideBy_152 ?_
                refine v_iadd (pc := 153) hX d_Mo_decideBy_153 ?_
                first | rw [Int32.add_zero] | rw [← i3_succ]
                refine v_istore (pc := 154) (lo' := [some (vR _), some (vI _), some (vI _), some (vI _), some (vI _), some (vI _), some (vI _), some (vI _), some (vI _)]) hX (Nat.le_of_ble_eq_true rfl) rfl d_Mo_decideBy_154 ?_
                refine v_iinc (pc := 156) (lo' := [some (vR _), some (vI _), some (vI _), some (vI _), some (vI _), some (vI _), some (vI _), some (vI _), some (vI _)]) hX rfl rfl d_Mo_decideBy_156 ?_
                refine v_goto (pc := 159) (tgt := 36) hX d_Mo_decideBy_159 rfl ?_
                refine VW.fg [true, true, true, true, true, true, true, false, false] ?_
                exact VW.cast (by first | (rw [eO, eC, dn_s hm]; rfl) | (rw [eO1 hd, eC, dn_s hm]; rfl)) rfl rfl ih36
              · have eC := CN_y hd h145
                refine v_iconst (pc := 148) (v := 1) hX (by decide) d_Mo_decideBy_148 ?_
                refine v_goto (pc := 149) (tgt := 153) hX d_Mo_decideBy_149 rfl ?_
                refine v_iadd (pc := 153) hX d_Mo_decideBy_153 ?_
                first | rw [Int32.add_zero] | rw [← i3_succ]
                refine v_istore (pc := 154) (lo' := [some (vR _), some (vI _), some (vI _), some (vI _), some (vI _), some (vI _), some (vI _), some (vI _), some (vI _)]) hX (Nat.le_of_ble_eq_true rfl) rfl d_Mo_decideBy_154 ?_
                refine v_iinc (pc := 156) (lo' := [some (vR _), some (vI _), some (vI _), some (vI _), some (vI _), some (vI _), some (vI _), some (vI _), some (vI _)]) hX rfl rfl d_Mo_decideBy_156 ?_
                refine v_goto (pc := 159) (tgt := 36) hX d_Mo_decideBy_159 rfl ?_
                refine VW.fg [true, true, true, true, true, true, true, false, false] ?_
                exact VW.cast (by first | (rw [eO, eC, dn_s hm]; rfl) | (rw [eO1 hd, eC, dn_s hm]; rfl)) rfl rfl ih36
            · have eO := OK_y h79 hd (Int32.not_lt.mp h101) ((i3_le (by omega) (by omega)).mp (Int32.not_lt.mp h118))
              refine v_iconst (pc := 121) (v := 1) hX (by decide) d_Mo_decideBy_121 ?_
              refine v_goto (pc := 122) (tgt := 126) hX d_Mo_decideBy_122 rfl ?_
              refine v_istore (pc := 126) (lo' := [some (vR _), some (vI _), some (vI _), some (vI _), some (vI _), some (vI _), some (vI _), some (vI _), some (vI _)]) hX (Nat.le_of_ble_eq_true rfl) rfl d_Mo_decideBy_126 ?_
              refine v_iload (pc := 128) hX rfl d_Mo_decideBy_128 ?_
              refine v_iload (pc := 130) hX rfl d_Mo_decideBy_130 ?_
              refine v_if_eq (pc := 132) (tgt := 152) hX d_Mo_decideBy_132 rfl (fun h132 => False.elim (by revert h132; decide)) (fun h132 => ?_)
              refine v_aload_n (pc := 135) hX rfl d_Mo_decideBy_135 ?_
              refine v_iload (pc := 136) hX rfl d_Mo_decideBy_136 ?_
              refine v_iconst (pc := 138) (v := 1) hX (by decide) d_Mo_decideBy_138 ?_
              refine v_iload (pc := 139) hX rfl d_Mo_decideBy_139 ?_
              refine v_ishl (pc := 141) hX d_Mo_decideBy_141 ?_
              rw [shl_i3 _ (by omega)]
              refine f_callV (pc := 142) hX k_Mo_decides ki_Mo_decides kv_Mo_decides ml_Mo_193 (C_Mo_decides (hJ1 _) (hB1 _) (b := nd - (m + 1)) (by omega) (Nat.pow_pos (by decide)) (Nat.pow_lt_pow_right (by decide) hd)) rfl rfl rfl rfl rfl (Nat.le_of_ble_eq_true rfl) (Nat.le_of_ble_eq_true rfl) (Nat.le_of_ble_eq_true rfl) d_Mo_decideBy_142 ?_
              rw [dc_dk h6 hd]
              refine f_ifeqB (pc := 145) (tgt := 152) hX d_Mo_decideBy_145 rfl (fun h145 => ?_) (fun h145 => ?_)
              · have eC := CN_no h145
                refine v_iconst (pc := 152) (v := 0) hX (by decide) d_Mo_decideBy_152 ?_
                refine v_iadd (pc := 153) hX d_Mo_decideBy_153 ?_
                first | rw [Int32.add_zero] | rw [← i3_succ]
                refine v_istore (pc := 154) (lo' := [some (vR _), some (vI _), some (vI _), some (vI _), some (vI _), some (vI _), some (vI _), some (vI _), some (vI _)]) hX (Nat.le_of_ble_eq_true rfl) rfl d_Mo_decideBy_154 ?_
                refine v_iinc (pc := 156) (lo' := [some (vR _), some (vI _), some (vI _), some (vI _), some (vI _), some (vI _), some (vI _), some (vI _), some (vI _)]) hX rfl rfl d_Mo_decideBy_156 ?_
                refine v_goto (pc := 159) (tgt := 36) hX d_Mo_decideBy_159 rfl ?_
                refine VW.fg [true, true, true, true, true, true, true, false, false] ?_
                exact VW.cast (by first | (rw [eO, eC, dn_s hm]; rfl) | (rw [eO1 hd, eC, dn_s hm]; rfl)) rfl rfl ih36
              · have eC := CN_y hd h145
                refine v_iconst (pc := 148) (v := 1) hX (by decide) d_Mo_decideBy_148 ?_
                refine v_goto (pc := 149) (tgt := 153) hX d_Mo_decideBy_149 rfl ?_
                refine v_iadd (pc := 153) hX d_Mo_decideBy_153 ?_
                first | rw [Int32.add_zero] | rw [← i3_succ]
                refine v_istore (pc := 154) (lo' := [some (vR _), some (vI _), some (vI _), some (vI _), some (vI _), some (vI _), some (vI _), some (vI _), some (vI _)]) hX (Nat.le_of_ble_eq_true rfl) rfl d_Mo_decideBy_154 ?_
                refine v_iinc (pc := 156) (lo' := [some (vR _), some (vI _), some (vI _), some (vI _), some (vI _), some (vI _), some (vI _), some (vI _), some (vI _)]) hX rfl rfl d_Mo_decideBy_156 ?_
                refine v_goto (pc := 159) (tgt := 36) hX d_Mo_decideBy_159 rfl ?_
                refine VW.fg [true, true, true, true, true, true, true, false, false] ?_
                exact VW.cast (by first | (rw [eO, eC, dn_s hm]; rfl) | (rw [eO1 hd, eC, dn_s hm]; rfl)) rfl rfl ih36
    · show VW X 36 [some (vR 36), some (vI (i3 row)), some (vI (i3 (n + 1))), some (vI (i3 (row / (n + 1) ^ (nd)))), some (vI (i3 (CN J B n nd row (nd)))), some (vI (bI (OKr J B n nd hv row (nd)))), some (vI (i3 nd - 1 - i3 (nd))), none, none] [] (gM (cpF M 56 (fun x => i3 (TK n row (nd) x)) (n + 1)))
      rw [dn_end]
      refine v_iload (pc := 36) hX rfl d_Mo_decideBy_36 ?_
      refine v_if_lt (pc := 38) (tgt := 162) hX d_Mo_decideBy_38 rfl (fun h38 => ?_) (fun h38 => False.elim (h38 (by decide)))
      refine v_iload (pc := 162) hX rfl d_Mo_decideBy_162 ?_
      refine f_ifeqB (pc := 164) (tgt := 172) hX d_Mo_decideBy_164 rfl (fun h164 => ?_) (fun h164 => ?_)
      · refine v_bipush (pc := 172) (v := (-9)) hX (by decide) d_Mo_decideBy_172 ?_
        exact f_iret (pc := 174) hX hR (by unfold vR1; first | (rw [if_pos h164, eW_s]) | (rw [if_neg (by rw [h164]; decide)]; rfl)) (rfl) d_Mo_decideBy_174
      · refine v_iload (pc := 167) hX rfl d_Mo_decideBy_167 ?_
        refine v_goto (pc := 169) (tgt := 174) hX d_Mo_decideBy_169 rfl ?_
        exact f_iret (pc := 174) hX hR (by unfold vR1; first | (rw [if_pos h164, eW_s]) | (rw [if_neg (by rw [h164]; decide)]; rfl)) (rfl) d_Mo_decideBy_174
def msM (J B : JT) (n nd : Nat) (hv : Nat → Nat) (M : MM) (k : Nat) : MM := fun a i => if a = 36 ∧ i = 26 then (if (mx (vR1 J B n nd hv) k).1 = 0 then M 36 26 else i3 (mx (vR1 J B n nd hv) k).2) else if a = 56 ∧ i < n + 1 ∧ 0 < k then i3 (TK n (k - 1) nd i) else M a i
theorem msM_0 (J B : JT) (n nd : Nat) (hv : Nat → Nat) (M : MM) : msM J B n nd hv M 0 = M := by
  funext a i
  unfold msM
  by_cases h : a = 36 ∧ i = 26
  · rw [if_pos h, if_pos (show (mx (vR1 J B n nd hv) 0).1 = 0 from rfl), h.1, h.2]
  · rw [if_neg h, if_neg (by omega)]
theorem msM_ne {J B : JT} {n nd k a i : Nat} {hv : Nat → Nat} {M : MM} (h : ¬ (a = 36 ∧ i = 26)) (h2 : a ≠ 56) : msM J B n nd hv M k a i = M a i := by
  unfold msM; rw [if_neg h, if_neg (fun w => h2 w.1)]
theorem msM_26 {J B : JT} {n nd k : Nat} {hv : Nat → Nat} {M : MM} : msM J B n nd hv M k 36 26 = if (mx (vR1 J B n nd hv) k).1 = 0 then M 36 26 else i3 (mx (vR1 J B n nd hv) k).2 := if_pos ⟨rfl, rfl⟩
theorem msM_s {J B : JT} {n nd k : Nat} {hv : Nat → Nat} {M : MM} {v : Int32} (hv' : v = if (mx (vR1 J B n nd hv) (k + 1)).1 = 0 then M 36 26 else i3 (mx (vR1 J B n nd hv) (k + 1)).2) : upM (cpF (msM J B n nd hv M k) 56 (fun x => i3 (TK n k nd x)) (n + 1)) 36 26 v = msM J B n nd hv M (k + 1) := by
  subst hv'
  funext a i
  simp only [upM, cpF, msM]
  by_cases h : a = 36 ∧ i = 26
  · rw [if_pos h, if_pos h]
  · rw [if_neg h, if_neg h, if_neg h]
    by_cases h2 : a = 56 ∧ i < n + 1
    · rw [if_pos h2, if_pos (by omega)]; rfl
    · rw [if_neg h2, if_neg (by omega), if_neg (by omega)]
theorem mx_y {f : Nat → Nat} {k : Nat} (h : (mx f k).1 < f k) : mx f (k + 1) = (f k, k) := if_pos h
theorem mx_n {f : Nat → Nat} {k : Nat} (h : ¬ (mx f k).1 < f k) : mx f (k + 1) = mx f k := if_neg h
theorem vR1_le (J B : JT) (n nd : Nat) (hv : Nat → Nat) (r : Nat) : vR1 J B n nd hv r ≤ nd + 1 := by
  have := CN_le J B n nd r nd
  unfold vR1; split <;> omega
theorem mx_le {f : Nat → Nat} {c : Nat} (h : ∀ r, f r ≤ c) : ∀ k, (mx f k).1 ≤ c
  | 0 => Nat.zero_le _
  | k + 1 => by
    have := mx_le h k
    have := h k
    unfold mx; split
    · exact h k
    · exact mx_le h k
theorem pow_b {n nd : Nat} (h6 : n ≤ 6) (h4 : nd ≤ 4) : (n + 1) ^ nd ≤ 2401 :=
  Nat.le_trans (Nat.pow_le_pow_left (show n + 1 ≤ 7 by omega) nd) (show 7 ^ nd ≤ 7 ^ 4 from Nat.pow_le_pow_right (by decide) h4)
theorem i3_lt_abs {k n : Nat} (h : k < n) (hn : n < 2147483648) (hc : i3 n ≤ i3 k) : False := by
  have := (i3_le hn (by omega)).mp hc; omega
theorem d_Mo_mostServed_0 : decode c_Mo_mostServed 0 = .ok (.aload_n 0, 1) := by decide +kernel
theorem d_Mo_mostServed_1 : decode c_Mo_mostServed 1 = .ok (.getfield 101, 3) := by decide +kernel
theorem d_Mo_mostServed_4 : decode c_Mo_mostServed 4 = .ok (.iconst 1, 1) := by decide +kernel
theorem d_Mo_mostServed_5 : decode c_Mo_mostServed 5 = .ok (.iadd, 1) := by decide +kernel
theorem d_Mo_mostServed_6 : decode c_Mo_mostServed 6 = .ok (.istore_n 1, 1) := by decide +kernel
theorem d_Mo_mostServed_7 : decode c_Mo_mostServed 7 = .ok (.iconst 1, 1) := by decide +kernel
theorem d_Mo_mostServed_8 : decode c_Mo_mostServed 8 = .ok (.istore_n 2, 1) := by decide +kernel
theorem d_Mo_mostServed_9 : decode c_Mo_mostServed 9 = .ok (.iconst 0, 1) := by decide +kernel
theorem d_Mo_mostServed_10 : decode c_Mo_mostServed 10 = .ok (.istore_n 3, 1) := by decide +kernel
theorem d_Mo_mostServed_11 : decode c_Mo_mostServed 11 = .ok (.iload_n 3, 1) := by decide +kernel
theorem d_Mo_mostServed_12 : decode c_Mo_mostServed 12 = .ok (.aload_n 0, 1) := by decide +kernel
theorem d_Mo_mostServed_13 : decode c_Mo_mostServed 13 = .ok (.getfield 108, 3) := by decide +kernel
theorem d_Mo_mostServed_16 : decode c_Mo_mostServed 16 = .ok (.if_icmp .ge 13, 3) := by decide +kernel
theorem d_Mo_mostServed_19 : decode c_Mo_mostServed 19 = .ok (.iload_n 2, 1) := by decide +kernel
theorem d_Mo_mostServed_20 : decode c_Mo_mostServed 20 = .ok (.iload_n 1, 1) := by decide +kernel
theorem d_Mo_mostServed_21 : decode c_Mo_mostServed 21 = .ok (.imul, 1) := by decide +kernel
theorem d_Mo_mostServed_22 : decode c_Mo_mostServed 22 = .ok (.istore_n 2, 1) := by decide +kernel
theorem d_Mo_mostServed_23 : decode c_Mo_mostServed 23 = .ok (.iinc 3 1, 3) := by decide +kernel
theorem d_Mo_mostServed_26 : decode c_Mo_mostServed 26 = .ok (.goto (-15), 3) := by decide +kernel
theorem d_Mo_mostServed_29 : decode c_Mo_mostServed 29 = .ok (.bipush (-9), 2) := by decide +kernel
theorem d_Mo_mostServed_31 : decode c_Mo_mostServed 31 = .ok (.istore_n 3, 1) := by decide +kernel
theorem d_Mo_mostServed_32 : decode c_Mo_mostServed 32 = .ok (.iconst 0, 1) := by decide +kernel
theorem d_Mo_mostServed_33 : decode c_Mo_mostServed 33 = .ok (.istore 4, 2) := by decide +kernel
theorem d_Mo_mostServed_35 : decode c_Mo_mostServed 35 = .ok (.iload 4, 2) := by decide +kernel
theorem d_Mo_mostServed_37 : decode c_Mo_mostServed 37 = .ok (.iload_n 2, 1) := by decide +kernel
theorem d_Mo_mostServed_38 : decode c_Mo_mostServed 38 = .ok (.if_icmp .ge 50, 3) := by decide +kernel
theorem d_Mo_mostServed_41 : decode c_Mo_mostServed 41 = .ok (.aload_n 0, 1) := by decide +kernel
theorem d_Mo_mostServed_42 : decode c_Mo_mostServed 42 = .ok (.iload 4, 2) := by decide +kernel
theorem d_Mo_mostServed_44 : decode c_Mo_mostServed 44 = .ok (.iload_n 1, 1) := by decide +kernel
theorem d_Mo_mostServed_45 : decode c_Mo_mostServed 45 = .ok (.invokevirtual 238, 3) := by decide +kernel
theorem d_Mo_mostServed_48 : decode c_Mo_mostServed 48 = .ok (.istore 5, 2) := by decide +kernel
theorem d_Mo_mostServed_50 : decode c_Mo_mostServed 50 = .ok (.aload_n 0, 1) := by decide +kernel
theorem d_Mo_mostServed_51 : decode c_Mo_mostServed 51 = .ok (.iload 5, 2) := by decide +kernel
theorem d_Mo_mostServed_53 : decode c_Mo_mostServed 53 = .ok (.iload_n 3, 1) := by decide +kernel
theorem d_Mo_mostServed_54 : decode c_Mo_mostServed 54 = .ok (.if_icmp .le 8, 3) := by decide +kernel
theorem d_Mo_mostServed_57 : decode c_Mo_mostServed 57 = .ok (.iload 4, 2) := by decide +kernel
theorem d_Mo_mostServed_59 : decode c_Mo_mostServed 59 = .ok (.goto 7, 3) := by decide +kernel
theorem d_Mo_mostServed_62 : decode c_Mo_mostServed 62 = .ok (.aload_n 0, 1) := by decide +kernel
theorem d_Mo_mostServed_63 : decode c_Mo_mostServed 63 = .ok (.getfield 241, 3) := by decide +kernel
theorem d_Mo_mostServed_66 : decode c_Mo_mostServed 66 = .ok (.putfield 241, 3) := by decide +kernel
theorem d_Mo_mostServed_69 : decode c_Mo_mostServed 69 = .ok (.iload 5, 2) := by decide +kernel
theorem d_Mo_mostServed_71 : decode c_Mo_mostServed 71 = .ok (.iload_n 3, 1) := by decide +kernel
theorem d_Mo_mostServed_72 : decode c_Mo_mostServed 72 = .ok (.if_icmp .le 8, 3) := by decide +kernel
theorem d_Mo_mostServed_75 : decode c_Mo_mostServed 75 = .ok (.iload 5, 2) := by decide +kernel
theorem d_Mo_mostServed_77 : decode c_Mo_mostServed 77 = .ok (.goto 4, 3) := by decide +kernel
theorem d_Mo_mostServed_80 : decode c_Mo_mostServed 80 = .ok (.iload_n 3, 1) := by decide +kernel
theorem d_Mo_mostServed_81 : decode c_Mo_mostServed 81 = .ok (.istore_n 3, 1) := by decide +kernel
theorem d_Mo_mostServed_82 : decode c_Mo_mostServed 82 = .ok (.iinc 4 1, 3) := by decide +kernel
theorem d_Mo_mostServed_85 : decode c_Mo_mostServed 85 = .ok (.goto (-50), 3) := by decide +kernel
theorem d_Mo_mostServed_88 : decode c_Mo_mostServed 88 = .ok (.iload_n 3, 1) := by decide +kernel
theorem d_Mo_mostServed_89 : decode c_Mo_mostServed 89 = .ok (.ireturn, 1) := by decide +kernel
set_option maxHeartbeats 4000000 in
theorem C_Mo_mostServed {M : MM} {n nd : Nat} {J B : JT} {hv : Nat → Nat} (hJ : MJ M n J) (hB : MB M nd B) (hH : HV n J hv) : AF y_Mo_mostServed c_Mo_mostServed 6 (some .int) 6 [vR 36] (M) (some (vI (i3 (mostN (okB J B) n nd nd hv)))) (msM J B n nd hv M ((n + 1) ^ nd)) := by
  have h6 := hJ.1
  have h4 := hB.1
  have hpw := pow_b h6 h4
  refine AF.of k_Mo_mostServed (lo := [some (vR 36), none, none, none, none, none]) rfl (Nat.le_of_ble_eq_true rfl) (fun X hX hR => ?_)
  refine v_aload_n (pc := 0) hX rfl d_Mo_mostServed_0 ?_
  refine g_getI (pc := 1) hX fl_Mo_101 rfl rfl d_Mo_mostServed_1 ?_
  rw [hJ.2.1]
  refine v_iconst (pc := 4) (v := 1) hX (by decide) d_Mo_mostServed_4 ?_
  refine v_iadd (pc := 5) hX d_Mo_mostServed_5 ?_
  rw [← i3_succ]
  refine v_istore_n (pc := 6) (lo' := [some (vR _), some (vI _), none, none, none, none]) hX (Nat.le_of_ble_eq_true rfl) rfl d_Mo_mostServed_6 ?_
  refine v_iconst (pc := 7) (v := 1) hX (by decide) d_Mo_mostServed_7 ?_
  refine v_istore_n (pc := 8) (lo' := [some (vR _), some (vI _), some (vI _), none, none, none]) hX (Nat.le_of_ble_eq_true rfl) rfl d_Mo_mostServed_8 ?_
  refine v_iconst (pc := 9) (v := 0) hX (by decide) d_Mo_mostServed_9 ?_
  refine v_istore_n (pc := 10) (lo' := [some (vR _), some (vI _), some (vI _), some (vI _), none, none]) hX (Nat.le_of_ble_eq_true rfl) rfl d_Mo_mostServed_10 ?_
  refine VW.cast (lo' := [some (vR 36), some (vI (i3 (n + 1))), some (vI (i3 ((n + 1) ^ 0))), some (vI (i3 0)), none, none]) (st' := []) (G' := gM (M)) (by rw [Nat.pow_zero]; rfl) rfl rfl ?_
  refine v_for (X := X) (head := 11) (nd) (fun kk => [some (vR 36), some (vI (i3 (n + 1))), some (vI (i3 ((n + 1) ^ kk))), some (vI (i3 kk)), none, none]) (fun kk => M) (fun k hk ih11 => ?_) ?_
  · show VW X 11 [some (vR 36), some (vI (i3 (n + 1))), some (vI (i3 ((n + 1) ^ k))), some (vI (i3 k)), none, none] [] (gM (M))
    refine v_iload_n (pc := 11) hX rfl d_Mo_mostServed_11 ?_
    refine v_aload_n (pc := 12) hX rfl d_Mo_mostServed_12 ?_
    refine g_getI (pc := 13) hX fl_Mo_108 rfl rfl d_Mo_mostServed_13 ?_
    rw [hB.2.1]
    refine v_icmp_ge (pc := 16) (tgt := 29) hX d_Mo_mostServed_16 rfl (fun h16 => False.elim (i3_ge_abs hk (by omega) h16)) (fun h16 => ?_)
    refine v_iload_n (pc := 19) hX rfl d_Mo_mostServed_19 ?_
    refine v_iload_n (pc := 20) hX rfl d_Mo_mostServed_20 ?_
    refine v_imul (pc := 21) hX d_Mo_mostServed_21 ?_
    rw [← i3_mul, ← Nat.pow_succ]
    refine v_istore_n (pc := 22) (lo' := [some (vR _), some (vI _), some (vI _), some (vI _), none, none]) hX (Nat.le_of_ble_eq_true rfl) rfl d_Mo_mostServed_22 ?_
    refine v_iinc (pc := 23) (lo' := [some (vR _), some (vI _), some (vI _), some (vI _), none, none]) hX rfl rfl d_Mo_mostServed_23 ?_
    refine v_goto (pc := 26) (tgt := 11) hX d_Mo_mostServed_26 rfl ?_
    exact VW.cast (by rw [i3_succ k]; rfl) rfl rfl ih11
  · show VW X 11 [some (vR 36), some (vI (i3 (n + 1))), some (vI (i3 ((n + 1) ^ (nd)))), some (vI (i3 (nd))), none, none] [] (gM (M))
    refine v_iload_n (pc := 11) hX rfl d_Mo_mostServed_11 ?_
    refine v_aload_n (pc := 12) hX rfl d_Mo_mostServed_12 ?_
    refine g_getI (pc := 13) hX fl_Mo_108 rfl rfl d_Mo_mostServed_13 ?_
    rw [hB.2.1]
    refine v_icmp_ge (pc := 16) (tgt := 29) hX d_Mo_mostServed_16 rfl (fun h16 => ?_) (fun h16 => False.elim (absurd (Int32.le_refl _) h16))
    refine v_bipush (pc := 29) (v := (-9)) hX (by decide) d_Mo_mostServed_29 ?_
    refine v_istore_n (pc := 31) (lo' := [some (vR _), some (vI _), some (vI _), some (vI _), none, none]) hX (Nat.le_of_ble_eq_true rfl) rfl d_Mo_mostServed_31 ?_
    refine v_iconst (pc := 32) (v := 0) hX (by decide) d_Mo_mostServed_32 ?_
    refine v_istore (pc := 33) (lo' := [some (vR _), some (vI _), some (vI _), some (vI _), some (vI _), none]) hX (Nat.le_of_ble_eq_true rfl) rfl d_Mo_mostServed_33 ?_
    refine VW.cast (lo' := [some (vR 36), some (vI (i3 (n + 1))), some (vI (i3 ((n + 1) ^ nd))), some (vI (eW (mx (vR1 J B n nd hv) 0).1)), some (vI (i3 0)), none]) (st' := []) (G' := gM (msM J B n nd hv M 0)) rfl rfl (by rw [msM_0]) ?_
    refine v_for (X := X) (head := 35) ((n + 1) ^ nd) (fun kk => [some (vR 36), some (vI (i3 (n + 1))), some (vI (i3 ((n + 1) ^ nd))), some (vI (eW (mx (vR1 J B n nd hv) kk).1)), some (vI (i3 kk)), none]) (fun kk => msM J B n nd hv M kk) (fun k hk ih35 => ?_) ?_
    · show VW X 35 [some (vR 36), some (vI (i3 (n + 1))), some (vI (i3 ((n + 1) ^ nd))), some (vI (eW (mx (vR1 J B n nd hv) k).1)), some (vI (i3 k)), none] [] (gM (msM J B n nd hv M k))
      have hJ1 : MJ (msM J B n nd hv M k) n J := hJ.eq (msM_ne (by omega) (by omega)) (fun a h1 h2 i => msM_ne (by omega) (by omega))
      have hB1 : MB (msM J B n nd hv M k) nd B := hB.eq (msM_ne (by omega) (by omega)) (fun a h1 h2 i => msM_ne (by omega) (by omega))
      have hv1 := vR1_le J B n nd hv k
      have hv2 := mx_le (vR1_le J B n nd hv) k
      refine v_iload (pc := 35) hX rfl d_Mo_mostServed_35 ?_
      refine v_iload_n (pc := 37) hX rfl d_Mo_mostServed_37 ?_
      refine v_icmp_ge (pc := 38) (tgt := 88) hX d_Mo_mostServed_38 rfl (fun h38 => False.elim (i3_lt_abs hk (by omega) h38)) (fun h38 => ?_)
      refine v_aload_n (pc := 41) hX rfl d_Mo_mostServed_41 ?_
      refine v_iload (pc := 42) hX rfl d_Mo_mostServed_42 ?_
      refine v_iload_n (pc := 44) hX rfl d_Mo_mostServed_44 ?_
      refine f_callV (pc := 45) hX k_Mo_decideBy ki_Mo_decideBy kv_Mo_decideBy ml_Mo_238 (C_Mo_decideBy (row := k) hJ1 hB1 hH (by omega)) rfl rfl rfl rfl rfl (Nat.le_of_ble_eq_true rfl) (Nat.le_of_ble_eq_true rfl) (Nat.le_of_ble_eq_true rfl) d_Mo_mostServed_45 ?_
      refine v_istore (pc := 48) (lo' := [some (vR _), some (vI _), some (vI _), some (vI _), some (vI _), some (vI _)]) hX (Nat.le_of_ble_eq_true rfl) rfl d_Mo_mostServed_48 ?_
      refine v_aload_n (pc := 50) hX rfl d_Mo_mostServed_50 ?_
      refine v_iload (pc := 51) hX rfl d_Mo_mostServed_51 ?_
      refine v_iload_n (pc := 53) hX rfl d_Mo_mostServed_53 ?_
      refine v_icmp_le (pc := 54) (tgt := 62) hX d_Mo_mostServed_54 rfl (fun h54 => ?_) (fun h54 => ?_)
      · have hle : ¬ (mx (vR1 J B n nd hv) k).1 < (vR1 J B n nd hv) k := Nat.not_lt.mpr ((eW_le (by omega) (by omega)).mp h54)
        have e := mx_n hle
        have ev : (if (mx (vR1 J B n nd hv) k).1 = 0 then M 36 26 else i3 (mx (vR1 J B n nd hv) k).2) = if (mx (vR1 J B n nd hv) (k + 1)).1 = 0 then M 36 26 else i3 (mx (vR1 J B n nd hv) (k + 1)).2 := by rw [e]
        refine v_aload_n (pc := 62) hX rfl d_Mo_mostServed_62 ?_
        refine g_getI (pc := 63) hX fl_Mo_241 rfl rfl d_Mo_mostServed_63 ?_
        rw [cpF_ne (by decide), msM_26]
        refine g_putI (pc := 66) hX fl_Mo_241 rfl (finI rfl rfl) rfl rfl rfl d_Mo_mostServed_66 ?_
        refine v_iload (pc := 69) hX rfl d_Mo_mostServed_69 ?_
        refine v_iload_n (pc := 71) hX rfl d_Mo_mostServed_71 ?_
        refine v_icmp_le (pc := 72) (tgt := 80) hX d_Mo_mostServed_72 rfl (fun h72 => ?_) (fun h72 => ?_)
        · refine v_iload_n (pc := 80) hX rfl d_Mo_mostServed_80 ?_
          refine v_istore_n (pc := 81) (lo' := [some (vR _), some (vI _), some (vI _), some (vI _), some (vI _), some (vI _)]) hX (Nat.le_of_ble_eq_true rfl) rfl d_Mo_mostServed_81 ?_
          refine v_iinc (pc := 82) (lo' := [some (vR _), some (vI _), some (vI _), some (vI _), some (vI _), some (vI _)]) hX rfl rfl d_Mo_mostServed_82 ?_
          refine v_goto (pc := 85) (tgt := 35) hX d_Mo_mostServed_85 rfl ?_
          refine VW.fg [true, true, true, true, true, false] ?_
          exact VW.cast (by first | exact absurd h72 h54 | exact absurd h54 h72 | (rw [e, i3_succ k]; rfl)) rfl (by first | exact absurd h72 h54 | exact absurd h54 h72 | exact congrArg gM (msM_s ev).symm) ih35
        · refine v_iload (pc := 75) hX rfl d_Mo_mostServed_75 ?_
          refine v_goto (pc := 77) (tgt := 81) hX d_Mo_mostServed_77 rfl ?_
          refine v_istore_n (pc := 81) (lo' := [some (vR _), some (vI _), some (vI _), some (vI _), some (vI _), some (vI _)]) hX (Nat.le_of_ble_eq_true rfl) rfl d_Mo_mostServed_81 ?_
          refine v_iinc (pc := 82) (lo' := [some (vR _), some (vI _), some (vI _), some (vI _), some (vI _), some (vI _)]) hX rfl rfl d_Mo_mostServed_82 ?_
          refine v_goto (pc := 85) (tgt := 35) hX d_Mo_mostServed_85 rfl ?_
          refine VW.fg [true, true, true, true, true, false] ?_
          exact VW.cast (by first | exact absurd h72 h54 | exact absurd h54 h72 | (rw [e, i3_succ k]; rfl)) rfl (by first | exact absurd h72 h54 | exact absurd h54 h72 | exact congrArg gM (msM_s ev).symm) ih35
      · have hlt : (mx (vR1 J B n nd hv) k).1 < (vR1 J B n nd hv) k := Nat.lt_of_not_le (fun w => h54 ((eW_le (by omega) (by omega)).mpr w))
        have e := mx_y hlt
        have ev : i3 k = if (mx (vR1 J B n nd hv) (k + 1)).1 = 0 then M 36 26 else i3 (mx (vR1 J B n nd hv) (k + 1)).2 := by rw [e, if_neg (show ¬ ((vR1 J B n nd hv) k, k).1 = 0 from fun w => by have w2 : (vR1 J B n nd hv) k = 0 := w; omega)]
        refine v_iload (pc := 57) hX rfl d_Mo_mostServed_57 ?_
        refine v_goto (pc := 59) (tgt := 66) hX d_Mo_mostServed_59 rfl ?_
        refine g_putI (pc := 66) hX fl_Mo_241 rfl (finI rfl rfl) rfl rfl rfl d_Mo_mostServed_66 ?_
        refine v_iload (pc := 69) hX rfl d_Mo_mostServed_69 ?_
        refine v_iload_n (pc := 71) hX rfl d_Mo_mostServed_71 ?_
        refine v_icmp_le (pc := 72) (tgt := 80) hX d_Mo_mostServed_72 rfl (fun h72 => ?_) (fun h72 => ?_)
        · refine v_iload_n (pc := 80) hX rfl d_Mo_mostServed_80 ?_
          refine v_istore_n (pc := 81) (lo' := [some (vR _), some (vI _), some (vI _), some (vI _), some (vI _), some (vI _)]) hX (Nat.le_of_ble_eq_true rfl) rfl d_Mo_mostServed_81 ?_
          refine v_iinc (pc := 82) (lo' := [some (vR _), some (vI _), some (vI _), some (vI _), some (vI _), some (vI _)]) hX rfl rfl d_Mo_mostServed_82 ?_
          refine v_goto (pc := 85) (tgt := 35) hX d_Mo_mostServed_85 rfl ?_
          refine VW.fg [true, true, true, true, true, false] ?_
          exact VW.cast (by first | exact absurd h72 h54 | exact absurd h54 h72 | (rw [e, i3_succ k]; rfl)) rfl (by first | exact absurd h72 h54 | exact absurd h54 h72 | exact congrArg gM (msM_s ev).symm) ih35
        · refine v_iload (pc := 75) hX rfl d_Mo_mostServed_75 ?_
          refine v_goto (pc := 77) (tgt := 81) hX d_Mo_mostServed_77 rfl ?_
          refine v_istore_n (pc := 81) (lo' := [some (vR _), some (vI _), some (vI _), some (vI _), some (vI _), some (vI _)]) hX (Nat.le_of_ble_eq_true rfl) rfl d_Mo_mostServed_81 ?_
          refine v_iinc (pc := 82) (lo' := [some (vR _), some (vI _), some (vI _), some (vI _), some (vI _), some (vI _)]) hX rfl rfl d_Mo_mostServed_82 ?_
          refine v_goto (pc := 85) (tgt := 35) hX d_Mo_mostServed_85 rfl ?_
          refine VW.fg [true, true, true, true, true, false] ?_
          exact VW.cast (by first | exact absurd h72 h54 | exact absurd h54 h72 | (rw [e, i3_succ k]; rfl)) rfl (by first | exact absurd h72 h54 | exact absurd h54 h72 | exact congrArg gM (msM_s ev).symm) ih35
    · show VW X 35 [some (vR 36), some (vI (i3 (n + 1))), some (vI (i3 ((n + 1) ^ nd))), some (vI (eW (mx (vR1 J B n nd hv) ((n + 1) ^ nd)).1)), some (vI (i3 ((n + 1) ^ nd))), none] [] (gM (msM J B n nd hv M ((n + 1) ^ nd)))
      refine v_iload (pc := 35) hX rfl d_Mo_mostServed_35 ?_
      refine v_iload_n (pc := 37) hX rfl d_Mo_mostServed_37 ?_
      refine v_icmp_ge (pc := 38) (tgt := 88) hX d_Mo_mostServed_38 rfl (fun h38 => ?_) (fun h38 => False.elim (absurd (Int32.le_refl _) h38))
      refine v_iload_n (pc := 88) hX rfl d_Mo_mostServed_88 ?_
      exact f_iret (pc := 89) hX hR (by rw [mx_row, eW_s]) (rfl) d_Mo_mostServed_89
theorem msM_end {J B : JT} {n nd : Nat} {hv : Nat → Nat} {M : MM} : msM J B n nd hv M ((n + 1) ^ nd) 36 26 = i3 (bR J B n nd nd hv) := by
  rw [msM_26, mx_row, if_neg (Nat.succ_ne_zero _)]
theorem rg_m1 {k : Nat} (hk : k < 4) : rg (i3 k) (-1) 3 = true := by
  unfold rg; rw [i3_int (by omega)]; simp; omega
theorem d_Mo_serve_0 : decode c_Mo_serve 0 = .ok (.iload_n 1, 1) := by decide +kernel
theorem d_Mo_serve_1 : decode c_Mo_serve 1 = .ok (.i2l, 1) := by decide +kernel
theorem d_Mo_serve_2 : decode c_Mo_serve 2 = .ok (.ldc2_w 244, 3) := by decide +kernel
theorem d_Mo_serve_5 : decode c_Mo_serve 5 = .ok (.ldc2_w 202, 3) := by decide +kernel
theorem d_Mo_serve_8 : decode c_Mo_serve 8 = .ok (.invokestatic 104, 3) := by decide +kernel
theorem d_Mo_serve_11 : decode c_Mo_serve 11 = .ok (.ifCond .ne 6, 3) := by decide +kernel
theorem d_Mo_serve_14 : decode c_Mo_serve 14 = .ok (.bipush (-2), 2) := by decide +kernel
theorem d_Mo_serve_16 : decode c_Mo_serve 16 = .ok (.ireturn, 1) := by decide +kernel
theorem d_Mo_serve_17 : decode c_Mo_serve 17 = .ok (.aload_n 0, 1) := by decide +kernel
theorem d_Mo_serve_18 : decode c_Mo_serve 18 = .ok (.getfield 101, 3) := by decide +kernel
theorem d_Mo_serve_21 : decode c_Mo_serve 21 = .ok (.ifCond .ne 6, 3) := by decide +kernel
theorem d_Mo_serve_24 : decode c_Mo_serve 24 = .ok (.bipush (-3), 2) := by decide +kernel
theorem d_Mo_serve_26 : decode c_Mo_serve 26 = .ok (.ireturn, 1) := by decide +kernel
theorem d_Mo_serve_27 : decode c_Mo_serve 27 = .ok (.aload_n 0, 1) := by decide +kernel
theorem d_Mo_serve_28 : decode c_Mo_serve 28 = .ok (.invokevirtual 246, 3) := by decide +kernel
theorem d_Mo_serve_31 : decode c_Mo_serve 31 = .ok (.istore_n 2, 1) := by decide +kernel
theorem d_Mo_serve_32 : decode c_Mo_serve 32 = .ok (.iload_n 1, 1) := by decide +kernel
theorem d_Mo_serve_33 : decode c_Mo_serve 33 = .ok (.ifCond .ge 5, 3) := by decide +kernel
theorem d_Mo_serve_36 : decode c_Mo_serve 36 = .ok (.iload_n 2, 1) := by decide +kernel
theorem d_Mo_serve_37 : decode c_Mo_serve 37 = .ok (.ireturn, 1) := by decide +kernel
theorem d_Mo_serve_38 : decode c_Mo_serve 38 = .ok (.aload_n 0, 1) := by decide +kernel
theorem d_Mo_serve_39 : decode c_Mo_serve 39 = .ok (.iload_n 1, 1) := by decide +kernel
theorem d_Mo_serve_40 : decode c_Mo_serve 40 = .ok (.invokevirtual 176, 3) := by decide +kernel
theorem d_Mo_serve_43 : decode c_Mo_serve 43 = .ok (.ifCond .eq 6, 3) := by decide +kernel
theorem d_Mo_serve_46 : decode c_Mo_serve 46 = .ok (.bipush (-9), 2) := by decide +kernel
theorem d_Mo_serve_48 : decode c_Mo_serve 48 = .ok (.ireturn, 1) := by decide +kernel
theorem d_Mo_serve_49 : decode c_Mo_serve 49 = .ok (.aload_n 0, 1) := by decide +kernel
theorem d_Mo_serve_50 : decode c_Mo_serve 50 = .ok (.getfield 241, 3) := by decide +kernel
theorem d_Mo_serve_53 : decode c_Mo_serve 53 = .ok (.istore_n 3, 1) := by decide +kernel
theorem d_Mo_serve_54 : decode c_Mo_serve 54 = .ok (.aload_n 0, 1) := by decide +kernel
theorem d_Mo_serve_55 : decode c_Mo_serve 55 = .ok (.getfield 108, 3) := by decide +kernel
theorem d_Mo_serve_58 : decode c_Mo_serve 58 = .ok (.iconst 1, 1) := by decide +kernel
theorem d_Mo_serve_59 : decode c_Mo_serve 59 = .ok (.isub, 1) := by decide +kernel
theorem d_Mo_serve_60 : decode c_Mo_serve 60 = .ok (.istore 4, 2) := by decide +kernel
theorem d_Mo_serve_62 : decode c_Mo_serve 62 = .ok (.iload 4, 2) := by decide +kernel
theorem d_Mo_serve_64 : decode c_Mo_serve 64 = .ok (.iload_n 1, 1) := by decide +kernel
theorem d_Mo_serve_65 : decode c_Mo_serve 65 = .ok (.if_icmp .le 18, 3) := by decide +kernel
theorem d_Mo_serve_68 : decode c_Mo_serve 68 = .ok (.iload_n 3, 1) := by decide +kernel
theorem d_Mo_serve_69 : decode c_Mo_serve 69 = .ok (.aload_n 0, 1) := by decide +kernel
theorem d_Mo_serve_70 : decode c_Mo_serve 70 = .ok (.getfield 101, 3) := by decide +kernel
theorem d_Mo_serve_73 : decode c_Mo_serve 73 = .ok (.iconst 1, 1) := by decide +kernel
theorem d_Mo_serve_74 : decode c_Mo_serve 74 = .ok (.iadd, 1) := by decide +kernel
theorem d_Mo_serve_75 : decode c_Mo_serve 75 = .ok (.idiv, 1) := by decide +kernel
theorem d_Mo_serve_76 : decode c_Mo_serve 76 = .ok (.istore_n 3, 1) := by decide +kernel
theorem d_Mo_serve_77 : decode c_Mo_serve 77 = .ok (.iinc 4 (-1), 3) := by decide +kernel
theorem d_Mo_serve_80 : decode c_Mo_serve 80 = .ok (.goto (-18), 3) := by decide +kernel
theorem d_Mo_serve_83 : decode c_Mo_serve 83 = .ok (.iload_n 3, 1) := by decide +kernel
theorem d_Mo_serve_84 : decode c_Mo_serve 84 = .ok (.aload_n 0, 1) := by decide +kernel
theorem d_Mo_serve_85 : decode c_Mo_serve 85 = .ok (.getfield 101, 3) := by decide +kernel
theorem d_Mo_serve_88 : decode c_Mo_serve 88 = .ok (.iconst 1, 1) := by decide +kernel
theorem d_Mo_serve_89 : decode c_Mo_serve 89 = .ok (.iadd, 1) := by decide +kernel
theorem d_Mo_serve_90 : decode c_Mo_serve 90 = .ok (.irem, 1) := by decide +kernel
theorem d_Mo_serve_91 : decode c_Mo_serve 91 = .ok (.istore 4, 2) := by decide +kernel
theorem d_Mo_serve_93 : decode c_Mo_serve 93 = .ok (.iload 4, 2) := by decide +kernel
theorem d_Mo_serve_95 : decode c_Mo_serve 95 = .ok (.aload_n 0, 1) := by decide +kernel
theorem d_Mo_serve_96 : decode c_Mo_serve 96 = .ok (.getfield 101, 3) := by decide +kernel
theorem d_Mo_serve_99 : decode c_Mo_serve 99 = .ok (.if_icmp .ge 8, 3) := by decide +kernel
theorem d_Mo_serve_102 : decode c_Mo_serve 102 = .ok (.iload 4, 2) := by decide +kernel
theorem d_Mo_serve_104 : decode c_Mo_serve 104 = .ok (.goto 5, 3) := by decide +kernel
theorem d_Mo_serve_107 : decode c_Mo_serve 107 = .ok (.bipush (-9), 2) := by decide +kernel
theorem d_Mo_serve_109 : decode c_Mo_serve 109 = .ok (.ireturn, 1) := by decide +kernel
theorem C_Mo_serve_bad {M : MM} {x : Int32} (hx : rg x (-1) 3 = false) : AF y_Mo_serve c_Mo_serve 5 (some .int) 7 [vR 36, vI x] (M) (some (vI (-2))) (M) := by
  refine AF.of k_Mo_serve (lo := [some (vR 36), some (vI x), none, none, none]) rfl (Nat.le_of_ble_eq_true rfl) (fun X hX hR => ?_)
  refine v_iload_n (pc := 0) hX rfl d_Mo_serve_0 ?_
  refine v_i2l (pc := 1) hX d_Mo_serve_1 ?_
  refine v_ldc2_w (pc := 2) hX kl_Mo_244 d_Mo_serve_2 ?_
  refine v_ldc2_w (pc := 5) hX kl_Mo_202 d_Mo_serve_5 ?_
  refine f_callS (pc := 8) hX k_Mo_in ks_Mo_in ml_Mo_104 (C_Mo_in) rfl rfl rfl (Nat.le_of_ble_eq_true rfl) (Nat.le_of_ble_eq_true rfl) (Nat.le_of_ble_eq_true rfl) d_Mo_serve_8 ?_
  rw [rL_rg (L := -1) (H := 3) rfl rfl]
  refine f_ifneB (pc := 11) (tgt := 17) hX d_Mo_serve_11 rfl (fun h11 => False.elim (by rw [hx] at h11; cases h11)) (fun h11 => ?_)
  refine v_bipush (pc := 14) (v := (-2)) hX (by decide) d_Mo_serve_14 ?_
  exact f_iret (pc := 16) hX hR (rfl) (rfl) d_Mo_serve_16
theorem C_Mo_serve_no {M : MM} {n : Nat} {J : JT} (hJ : MJ M n J) {x : Int32} (hx : rg x (-1) 3 = true) (h0 : n = 0) : AF y_Mo_serve c_Mo_serve 5 (some .int) 7 [vR 36, vI x] (M) (some (vI (-3))) (M) := by
  refine AF.of k_Mo_serve (lo := [some (vR 36), some (vI x), none, none, none]) rfl (Nat.le_of_ble_eq_true rfl) (fun X hX hR => ?_)
  refine v_iload_n (pc := 0) hX rfl d_Mo_serve_0 ?_
  refine v_i2l (pc := 1) hX d_Mo_serve_1 ?_
  refine v_ldc2_w (pc := 2) hX kl_Mo_244 d_Mo_serve_2 ?_
  refine v_ldc2_w (pc := 5) hX kl_Mo_202 d_Mo_serve_5 ?_
  refine f_callS (pc := 8) hX k_Mo_in ks_Mo_in ml_Mo_104 (C_Mo_in) rfl rfl rfl (Nat.le_of_ble_eq_true rfl) (Nat.le_of_ble_eq_true rfl) (Nat.le_of_ble_eq_true rfl) d_Mo_serve_8 ?_
  rw [rL_rg (L := -1) (H := 3) rfl rfl]
  refine f_ifneB (pc := 11) (tgt := 17) hX d_Mo_serve_11 rfl (fun h11 => ?_) (fun h11 => False.elim (by rw [hx] at h11; cases h11))
  refine v_aload_n (pc := 17) hX rfl d_Mo_serve_17 ?_
  refine g_getI (pc := 18) hX fl_Mo_101 rfl rfl d_Mo_serve_18 ?_
  rw [hJ.2.1, h0]
  refine v_if_ne (pc := 21) (tgt := 27) hX d_Mo_serve_21 rfl (fun h21 => False.elim (absurd rfl h21)) (fun h21 => ?_)
  refine v_bipush (pc := 24) (v := (-3)) hX (by decide) d_Mo_serve_24 ?_
  exact f_iret (pc := 26) hX hR (rfl) (rfl) d_Mo_serve_26
theorem C_Mo_serve_all {M : MM} {n nd : Nat} {J B : JT} {hv : Nat → Nat} (hJ : MJ M n J) (hB : MB M nd B) (hH : HV n J hv) (h0 : ¬ n = 0) : AF y_Mo_serve c_Mo_serve 5 (some .int) 7 [vR 36, vI (-1)] (M) (some (vI (i3 (mostN (okB J B) n nd nd hv)))) (msM J B n nd hv M ((n + 1) ^ nd)) := by
  have h6 := hJ.1
  have h4 := hB.1
  have hpw := pow_b h6 h4
  have hJ1 : MJ (msM J B n nd hv M ((n + 1) ^ nd)) n J := hJ.eq (msM_ne (by omega) (by omega)) (fun a h1 h2 i => msM_ne (by omega) (by omega))
  have hB1 : MB (msM J B n nd hv M ((n + 1) ^ nd)) nd B := hB.eq (msM_ne (by omega) (by omega)) (fun a h1 h2 i => msM_ne (by omega) (by omega))
  refine AF.of k_Mo_serve (lo := [some (vR 36), some (vI (-1)), none, none, none]) rfl (Nat.le_of_ble_eq_true rfl) (fun X hX hR => ?_)
  refine v_iload_n (pc := 0) hX rfl d_Mo_serve_0 ?_
  refine v_i2l (pc := 1) hX d_Mo_serve_1 ?_
  refine v_ldc2_w (pc := 2) hX kl_Mo_244 d_Mo_serve_2 ?_
  refine v_ldc2_w (pc := 5) hX kl_Mo_202 d_Mo_serve_5 ?_
  refine f_callS (pc := 8) hX k_Mo_in ks_Mo_in ml_Mo_104 (C_Mo_in) rfl rfl rfl (Nat.le_of_ble_eq_true rfl) (Nat.le_of_ble_eq_true rfl) (Nat.le_of_ble_eq_true rfl) d_Mo_serve_8 ?_
  rw [show rL (Int32.toInt64 (-1)) (-1) 3 = true from rfl]
  refine f_ifneB (pc := 11) (tgt := 17) hX d_Mo_serve_11 rfl (fun h11 => ?_) (fun h11 => False.elim (by cases h11))
  refine v_aload_n (pc := 17) hX rfl d_Mo_serve_17 ?_
  refine g_getI (pc := 18) hX fl_Mo_101 rfl rfl d_Mo_serve_18 ?_
  rw [hJ.2.1]
  refine v_if_ne (pc := 21) (tgt := 27) hX d_Mo_serve_21 rfl (fun h21 => ?_) (fun h21 => False.elim (h0 ((i3_inj (a := n) (b := 0) (by omega) (by decide)).mp h21)))
  refine v_aload_n (pc := 27) hX rfl d_Mo_serve_27 ?_
  refine f_callV (pc := 28) hX k_Mo_mostServed ki_Mo_mostServed kv_Mo_mostServed ml_Mo_246 (C_Mo_mostServed hJ hB hH) rfl rfl rfl rfl rfl (Nat.le_of_ble_eq_true rfl) (Nat.le_of_ble_eq_true rfl) (Nat.le_of_ble_eq_true rfl) d_Mo_serve_28 ?_
  refine v_istore_n (pc := 31) (lo' := [some (vR _), some (vI _), some (vI _), none, none]) hX (Nat.le_of_ble_eq_true rfl) rfl d_Mo_serve_31 ?_
  refine v_iload_n (pc := 32) hX rfl d_Mo_serve_32 ?_
  refine v_if_ge (pc := 33) (tgt := 38) hX d_Mo_serve_33 rfl (fun h33 => False.elim (absurd h33 (by decide))) (fun h33 => ?_)
  refine v_iload_n (pc := 36) hX rfl d_Mo_serve_36 ?_
  exact f_iret (pc := 37) hX hR (rfl) (rfl) d_Mo_serve_37
theorem C_Mo_serve_out {M : MM} {n nd : Nat} {J B : JT} {hv : Nat → Nat} (hJ : MJ M n J) (hB : MB M nd B) (hH : HV n J hv) {k : Nat} (h0 : ¬ n = 0) (hk : nd ≤ k) (hk4 : k < 4) : AF y_Mo_serve c_Mo_serve 5 (some .int) 7 [vR 36, vI (i3 k)] (M) (some (vI (-9))) (msM J B n nd hv M ((n + 1) ^ nd)) := by
  have h6 := hJ.1
  have h4 := hB.1
  have hpw := pow_b h6 h4
  have hJ1 : MJ (msM J B n nd hv M ((n + 1) ^ nd)) n J := hJ.eq (msM_ne (by omega) (by omega)) (fun a h1 h2 i => msM_ne (by omega) (by omega))
  have hB1 : MB (msM J B n nd hv M ((n + 1) ^ nd)) nd B := hB.eq (msM_ne (by omega) (by omega)) (fun a h1 h2 i => msM_ne (by omega) (by omega))
  refine AF.of k_Mo_serve (lo := [some (vR 36), some (vI (i3 k)), none, none, none]) rfl (Nat.le_of_ble_eq_true rfl) (fun X hX hR => ?_)
  refine v_iload_n (pc := 0) hX rfl d_Mo_serve_0 ?_
  refine v_i2l (pc := 1) hX d_Mo_serve_1 ?_
  refine v_ldc2_w (pc := 2) hX kl_Mo_244 d_Mo_serve_2 ?_
  refine v_ldc2_w (pc := 5) hX kl_Mo_202 d_Mo_serve_5 ?_
  refine f_callS (pc := 8) hX k_Mo_in ks_Mo_in ml_Mo_104 (C_Mo_in) rfl rfl rfl (Nat.le_of_ble_eq_true rfl) (Nat.le_of_ble_eq_true rfl) (Nat.le_of_ble_eq_true rfl) d_Mo_serve_8 ?_
  rw [rL_rg (L := -1) (H := 3) rfl rfl, rg_m1 hk4]
  refine f_ifneB (pc := 11) (tgt := 17) hX d_Mo_serve_11 rfl (fun h11 => ?_) (fun h11 => False.elim (by cases h11))
  refine v_aload_n (pc := 17) hX rfl d_Mo_serve_17 ?_
  refine g_getI (pc := 18) hX fl_Mo_101 rfl rfl d_Mo_serve_18 ?_
  rw [hJ.2.1]
  refine v_if_ne (pc := 21) (tgt := 27) hX d_Mo_serve_21 rfl (fun h21 => ?_) (fun h21 => False.elim (h0 ((i3_inj (a := n) (b := 0) (by omega) (by decide)).mp h21)))
  refine v_aload_n (pc := 27) hX rfl d_Mo_serve_27 ?_
  refine f_callV (pc := 28) hX k_Mo_mostServed ki_Mo_mostServed kv_Mo_mostServed ml_Mo_246 (C_Mo_mostServed hJ hB hH) rfl rfl rfl rfl rfl (Nat.le_of_ble_eq_true rfl) (Nat.le_of_ble_eq_true rfl) (Nat.le_of_ble_eq_true rfl) d_Mo_serve_28 ?_
  refine v_istore_n (pc := 31) (lo' := [some (vR _), some (vI _), some (vI _), none, none]) hX (Nat.le_of_ble_eq_true rfl) rfl d_Mo_serve_31 ?_
  refine v_iload_n (pc := 32) hX rfl d_Mo_serve_32 ?_
  refine v_if_ge (pc := 33) (tgt := 38) hX d_Mo_serve_33 rfl (fun h33 => ?_) (fun h33 => False.elim (h33 ((i3_le (a := 0) (by decide) (by omega)).mpr (Nat.zero_le _))))
  refine v_aload_n (pc := 38) hX rfl d_Mo_serve_38 ?_
  refine v_iload_n (pc := 39) hX rfl d_Mo_serve_39 ?_
  refine f_callV (pc := 40) hX k_Mo_noDecider ki_Mo_noDecider kv_Mo_noDecider ml_Mo_176 (C_Mo_noDecider h4 hB1.2.1) rfl rfl rfl rfl rfl (Nat.le_of_ble_eq_true rfl) (Nat.le_of_ble_eq_true rfl) (Nat.le_of_ble_eq_true rfl) d_Mo_serve_40 ?_
  rw [show rg (i3 k) 0 ((nd : Int) - 1) = false from by unfold rg; rw [i3_int (by omega)]; simp; omega]
  refine f_ifeqB (pc := 43) (tgt := 49) hX d_Mo_serve_43 rfl (fun h43 => False.elim (by cases h43)) (fun h43 => ?_)
  refine v_bipush (pc := 46) (v := (-9)) hX (by decide) d_Mo_serve_46 ?_
  exact f_iret (pc := 48) hX hR (rfl) (rfl) d_Mo_serve_48
set_option maxHeartbeats 4000000 in
theorem C_Mo_serve_in {M : MM} {n nd : Nat} {J B : JT} {hv : Nat → Nat} (hJ : MJ M n J) (hB : MB M nd B) (hH : HV n J hv) {k : Nat} (h0 : ¬ n = 0) (hk : k < nd) (hk4 : k < 4) : AF y_Mo_serve c_Mo_serve 5 (some .int) 7 [vR 36, vI (i3 k)] (M) (some (vI (ec n (cho J B n nd hv k)))) (msM J B n nd hv M ((n + 1) ^ nd)) := by
  have h6 := hJ.1
  have h4 := hB.1
  have hpw := pow_b h6 h4
  have hJ1 : MJ (msM J B n nd hv M ((n + 1) ^ nd)) n J := hJ.eq (msM_ne (by omega) (by omega)) (fun a h1 h2 i => msM_ne (by omega) (by omega))
  have hB1 : MB (msM J B n nd hv M ((n + 1) ^ nd)) nd B := hB.eq (msM_ne (by omega) (by omega)) (fun a h1 h2 i => msM_ne (by omega) (by omega))
  have hbr := bR_lt (J := J) (B := B) (n := n) (nd := nd) nd hv
  have hb0 : ¬ i3 (n + 1) = 0 := fun w => by have := (i3_inj (a := n + 1) (b := 0) (by omega) (by decide)).mp w; omega
  refine AF.of k_Mo_serve (lo := [some (vR 36), some (vI (i3 k)), none, none, none]) rfl (Nat.le_of_ble_eq_true rfl) (fun X hX hR => ?_)
  refine v_iload_n (pc := 0) hX rfl d_Mo_serve_0 ?_
  refine v_i2l (pc := 1) hX d_Mo_serve_1 ?_
  refine v_ldc2_w (pc := 2) hX kl_Mo_244 d_Mo_serve_2 ?_
  refine v_ldc2_w (pc := 5) hX kl_Mo_202 d_Mo_serve_5 ?_
  refine f_callS (pc := 8) hX k_Mo_in ks_Mo_in ml_Mo_104 (C_Mo_in) rfl rfl rfl (Nat.le_of_ble_eq_true rfl) (Nat.le_of_ble_eq_true rfl) (Nat.le_of_ble_eq_true rfl) d_Mo_serve_8 ?_
  rw [rL_rg (L := -1) (H := 3) rfl rfl, rg_m1 hk4]
  refine f_ifneB (pc := 11) (tgt := 17) hX d_Mo_serve_11 rfl (fun h11 => ?_) (fun h11 => False.elim (by cases h11))
  refine v_aload_n (pc := 17) hX rfl d_Mo_serve_17 ?_
  refine g_getI (pc := 18) hX fl_Mo_101 rfl rfl d_Mo_serve_18 ?_
  rw [hJ.2.1]
  refine v_if_ne (pc := 21) (tgt := 27) hX d_Mo_serve_21 rfl (fun h21 => ?_) (fun h21 => False.elim (h0 ((i3_inj (a := n) (b := 0) (by omega) (by decide)).mp h21)))
  refine v_aload_n (pc := 27) hX rfl d_Mo_serve_27 ?_
  refine f_callV (pc := 28) hX k_Mo_mostServed ki_Mo_mostServed kv_Mo_mostServed ml_Mo_246 (C_Mo_mostServed hJ hB hH) rfl rfl rfl rfl rfl (Nat.le_of_ble_eq_true rfl) (Nat.le_of_ble_eq_true rfl) (Nat.le_of_ble_eq_true rfl) d_Mo_serve_28 ?_
  refine v_istore_n (pc := 31) (lo' := [some (vR _), some (vI _), some (vI _), none, none]) hX (Nat.le_of_ble_eq_true rfl) rfl d_Mo_serve_31 ?_
  refine v_iload_n (pc := 32) hX rfl d_Mo_serve_32 ?_
  refine v_if_ge (pc := 33) (tgt := 38) hX d_Mo_serve_33 rfl (fun h33 => ?_) (fun h33 => False.elim (h33 ((i3_le (a := 0) (by decide) (by omega)).mpr (Nat.zero_le _))))
  refine v_aload_n (pc := 38) hX rfl d_Mo_serve_38 ?_
  refine v_iload_n (pc := 39) hX rfl d_Mo_serve_39 ?_
  refine f_callV (pc := 40) hX k_Mo_noDecider ki_Mo_noDecider kv_Mo_noDecider ml_Mo_176 (C_Mo_noDecider h4 hB1.2.1) rfl rfl rfl rfl rfl (Nat.le_of_ble_eq_true rfl) (Nat.le_of_ble_eq_true rfl) (Nat.le_of_ble_eq_true rfl) d_Mo_serve_40 ?_
  rw [show rg (i3 k) 0 ((nd : Int) - 1) = true from by unfold rg; rw [i3_int (by omega)]; simp; omega]
  refine f_ifeqB (pc := 43) (tgt := 49) hX d_Mo_serve_43 rfl (fun h43 => ?_) (fun h43 => False.elim (by cases h43))
  refine v_aload_n (pc := 49) hX rfl d_Mo_serve_49 ?_
  refine g_getI (pc := 50) hX fl_Mo_241 rfl rfl d_Mo_serve_50 ?_
  rw [msM_end]
  refine v_istore_n (pc := 53) (lo' := [some (vR _), some (vI _), some (vI _), some (vI _), none]) hX (Nat.le_of_ble_eq_true rfl) rfl d_Mo_serve_53 ?_
  refine v_aload_n (pc := 54) hX rfl d_Mo_serve_54 ?_
  refine g_getI (pc := 55) hX fl_Mo_108 rfl rfl d_Mo_serve_55 ?_
  rw [hB1.2.1]
  refine v_iconst (pc := 58) (v := 1) hX (by decide) d_Mo_serve_58 ?_
  refine v_isub (pc := 59) hX d_Mo_serve_59 ?_
  refine v_istore (pc := 60) (lo' := [some (vR _), some (vI _), some (vI _), some (vI _), some (vI _)]) hX (Nat.le_of_ble_eq_true rfl) rfl d_Mo_serve_60 ?_
  refine VW.cast (lo' := [some (vR 36), some (vI (i3 k)), some (vI (i3 (mostN (okB J B) n nd nd hv))), some (vI (i3 (bR J B n nd nd hv / (n + 1) ^ 0))), some (vI (i3 nd - 1 - i3 0))]) (st' := []) (G' := gM (msM J B n nd hv M ((n + 1) ^ nd))) (by rw [Nat.pow_zero, Nat.div_one, show i3 nd - 1 - i3 0 = i3 nd - 1 from Int32.sub_zero _]) rfl rfl ?_
  refine v_for (X := X) (head := 62) (nd - (k + 1)) (fun kk => [some (vR 36), some (vI (i3 k)), some (vI (i3 (mostN (okB J B) n nd nd hv))), some (vI (i3 (bR J B n nd nd hv / (n + 1) ^ kk))), some (vI (i3 nd - 1 - i3 kk))]) (fun kk => msM J B n nd hv M ((n + 1) ^ nd)) (fun y hy ih62 => ?_) ?_
  · show VW X 62 [some (vR 36), some (vI (i3 k)), some (vI (i3 (mostN (okB J B) n nd nd hv))), some (vI (i3 (bR J B n nd nd hv / (n + 1) ^ y))), some (vI (i3 nd - 1 - i3 y))] [] (gM (msM J B n nd hv M ((n + 1) ^ nd)))
    rw [dn_lt (show y < nd by omega)]
    refine v_iload (pc := 62) hX rfl d_Mo_serve_62 ?_
    refine v_iload_n (pc := 64) hX rfl d_Mo_serve_64 ?_
    refine v_icmp_le (pc := 65) (tgt := 83) hX d_Mo_serve_65 rfl (fun h65 => False.elim (by have := (i3_le (by omega) (by omega)).mp h65; omega)) (fun h65 => ?_)
    refine v_iload_n (pc := 68) hX rfl d_Mo_serve_68 ?_
    refine v_aload_n (pc := 69) hX rfl d_Mo_serve_69 ?_
    refine g_getI (pc := 70) hX fl_Mo_101 rfl rfl d_Mo_serve_70 ?_
    rw [hJ1.2.1]
    refine v_iconst (pc := 73) (v := 1) hX (by decide) d_Mo_serve_73 ?_
    refine v_iadd (pc := 74) hX d_Mo_serve_74 ?_
    rw [← i3_succ]
    refine v_idiv (pc := 75) hX hb0 d_Mo_serve_75 ?_
    rw [div_dg (by omega) h6]
    refine v_istore_n (pc := 76) (lo' := [some (vR _), some (vI _), some (vI _), some (vI _), some (vI _)]) hX (Nat.le_of_ble_eq_true rfl) rfl d_Mo_serve_76 ?_
    refine v_iinc (pc := 77) (lo' := [some (vR _), some (vI _), some (vI _), some (vI _), some (vI _)]) hX rfl rfl d_Mo_serve_77 ?_
    refine v_goto (pc := 80) (tgt := 62) hX d_Mo_serve_80 rfl ?_
    exact VW.cast (by rw [dn_s (show y < nd by omega)]; rfl) rfl rfl ih62
  · show VW X 62 [some (vR 36), some (vI (i3 k)), some (vI (i3 (mostN (okB J B) n nd nd hv))), some (vI (i3 (bR J B n nd nd hv / (n + 1) ^ (nd - (k + 1))))), some (vI (i3 nd - 1 - i3 (nd - (k + 1))))] [] (gM (msM J B n nd hv M ((n + 1) ^ nd)))
    rw [dn_lt (show nd - (k + 1) < nd by omega), show nd - (nd - (k + 1) + 1) = k by omega]
    refine v_iload (pc := 62) hX rfl d_Mo_serve_62 ?_
    refine v_iload_n (pc := 64) hX rfl d_Mo_serve_64 ?_
    refine v_icmp_le (pc := 65) (tgt := 83) hX d_Mo_serve_65 rfl (fun h65 => ?_) (fun h65 => False.elim (absurd (Int32.le_refl _) h65))
    refine v_iload_n (pc := 83) hX rfl d_Mo_serve_83 ?_
    refine v_aload_n (pc := 84) hX rfl d_Mo_serve_84 ?_
    refine g_getI (pc := 85) hX fl_Mo_101 rfl rfl d_Mo_serve_85 ?_
    rw [hJ1.2.1]
    refine v_iconst (pc := 88) (v := 1) hX (by decide) d_Mo_serve_88 ?_
    refine v_iadd (pc := 89) hX d_Mo_serve_89 ?_
    rw [← i3_succ]
    refine v_irem (pc := 90) hX hb0 d_Mo_serve_90 ?_
    rw [rem_dg (by omega) h6, cho_dg hk]
    refine v_istore (pc := 91) (lo' := [some (vR _), some (vI _), some (vI _), some (vI _), some (vI _)]) hX (Nat.le_of_ble_eq_true rfl) rfl d_Mo_serve_91 ?_
    refine v_iload (pc := 93) hX rfl d_Mo_serve_93 ?_
    refine v_aload_n (pc := 95) hX rfl d_Mo_serve_95 ?_
    refine g_getI (pc := 96) hX fl_Mo_101 rfl rfl d_Mo_serve_96 ?_
    rw [hJ1.2.1]
    refine v_icmp_ge (pc := 99) (tgt := 107) hX d_Mo_serve_99 rfl (fun h99 => ?_) (fun h99 => ?_)
    · have e99 : ¬ cho J B n nd hv k < n := fun w => i3_lt_abs w (by omega) h99
      refine v_bipush (pc := 107) (v := (-9)) hX (by decide) d_Mo_serve_107 ?_
      exact f_iret (pc := 109) hX hR (by unfold ec; first | (rw [if_pos e99]) | (rw [if_neg e99])) (rfl) d_Mo_serve_109
    · have hcl : cho J B n nd hv k ≤ n := chs_le _ n
      have e99 : cho J B n nd hv k < n := Nat.lt_of_not_le (fun w => h99 ((i3_le (by omega) (by omega)).mpr w))
      refine v_iload (pc := 102) hX rfl d_Mo_serve_102 ?_
      refine v_goto (pc := 104) (tgt := 109) hX d_Mo_serve_104 rfl ?_
      exact f_iret (pc := 109) hX hR (by unfold ec; first | (rw [if_pos e99]) | (rw [if_neg e99])) (rfl) d_Mo_serve_109
def drH (J B : JT) (n nd : Nat) (hv : Nat → Nat) (j : Nat) (M : MM) : Nat → MM
  | 0 => msM J B n nd hv M ((n + 1) ^ nd)
  | v + 1 => msM (upM J j 4 (i3 v)) B n nd hv (upM (drH J B n nd hv j M v) 41 j (i3 v)) ((n + 1) ^ nd)
theorem drH_ne {J B : JT} {n nd j a i : Nat} {hv : Nat → Nat} {M : MM} (h : ¬ (a = 36 ∧ i = 26)) (h2 : a ≠ 56) (h3 : ¬ (a = 41 ∧ i = j)) : ∀ v, drH J B n nd hv j M v a i = M a i
  | 0 => msM_ne h h2
  | v + 1 => by
    show msM _ _ _ _ _ _ _ a i = _
    rw [msM_ne h h2, upM_ne h3]; exact drH_ne h h2 h3 v
theorem drH_J {J B : JT} {n nd j : Nat} {hv : Nat → Nat} {M : MM} (hJ : MJ M n J) (v : Nat) (x : Int32) : MJ (upM (drH J B n nd hv j M v) 41 j x) n (upM J j 4 x) := by
  refine ⟨hJ.1, by rw [upM_ne (by omega), drH_ne (by omega) (by omega) (by omega)]; exact hJ.2.1, fun t ht k hk => ?_, fun t ht => by rw [upM_ne (by omega)]; exact hJ.2.2.2 t ht⟩
  by_cases e : t = j ∧ k = 4
  · rw [e.1, e.2, upM_same, upM_same]
  · rw [upM_ne (by omega), upM_ne e, drH_ne (by omega) (by omega) (by omega)]; exact hJ.2.2.1 t ht k hk
theorem drH_B {J B : JT} {n nd j : Nat} {hv : Nat → Nat} {M : MM} (hB : MB M nd B) (v : Nat) (x : Int32) : MB (upM (drH J B n nd hv j M v) 41 j x) nd B :=
  hB.eq (by rw [upM_ne (by omega), drH_ne (by omega) (by omega) (by omega)]) (fun a h1 h2 i => by rw [upM_ne (by omega), drH_ne (by omega) (by omega) (by omega)])
theorem HV.p4 {n j : Nat} {J : JT} {hv : Nat → Nat} {x : Int32} (h : HV n J hv) : HV n (upM J j 4 x) hv := fun t ht => by
  rw [upM_ne (by omega)]; exact h t ht
def laF (f : Nat → Bool) : Nat → Nat
  | 0 => 0
  | k + 1 => if f k = true then k else laF f k
theorem la_dr {f : Nat → Bool} {p : Nat} (hp : f p = true) : ∀ d, laF f (p + d + 1) = drN f p (p + d)
  | 0 => by
    show laF f (p + 1) = drN f p p
    rw [dr_low f p p (Nat.le_refl _)]; exact if_pos hp
  | d + 1 => by
    show (if f (p + (d + 1)) = true then p + (d + 1) else laF f (p + d + 1)) = (if p < p + d + 1 ∧ f (p + d + 1) = true then p + d + 1 else drN f p (p + d))
    rw [la_dr hp d, show p + (d + 1) = p + d + 1 by omega]
    by_cases e : f (p + d + 1) = true
    · rw [if_pos e, if_pos ⟨by omega, e⟩]
    · rw [if_neg e, if_neg (fun w => e w.2)]
theorem upM_id {J : JT} {a i : Nat} {x : Int32} (h : J a i = x) : upM J a i x = J := by
  funext p q
  unfold upM
  by_cases e : p = a ∧ q = i
  · rw [if_pos e, e.1, e.2, h]
  · rw [if_neg e]
theorem laF_le {f : Nat → Bool} : ∀ k, laF f k ≤ k
  | 0 => Nat.le_refl _
  | k + 1 => by
    have := laF_le (f := f) k
    unfold laF; split <;> omega
theorem d_Mo_dear_0 : decode c_Mo_dear 0 = .ok (.aload_n 0, 1) := by decide +kernel
theorem d_Mo_dear_1 : decode c_Mo_dear 1 = .ok (.iload_n 1, 1) := by decide +kernel
theorem d_Mo_dear_2 : decode c_Mo_dear 2 = .ok (.invokevirtual 170, 3) := by decide +kernel
theorem d_Mo_dear_5 : decode c_Mo_dear 5 = .ok (.ifCond .eq 5, 3) := by decide +kernel
theorem d_Mo_dear_8 : decode c_Mo_dear 8 = .ok (.iconst (-1), 1) := by decide +kernel
theorem d_Mo_dear_9 : decode c_Mo_dear 9 = .ok (.ireturn, 1) := by decide +kernel
theorem d_Mo_dear_10 : decode c_Mo_dear 10 = .ok (.aload_n 0, 1) := by decide +kernel
theorem d_Mo_dear_11 : decode c_Mo_dear 11 = .ok (.invokevirtual 246, 3) := by decide +kernel
theorem d_Mo_dear_14 : decode c_Mo_dear 14 = .ok (.istore_n 2, 1) := by decide +kernel
theorem d_Mo_dear_15 : decode c_Mo_dear 15 = .ok (.aload_n 0, 1) := by decide +kernel
theorem d_Mo_dear_16 : decode c_Mo_dear 16 = .ok (.getfield 22, 3) := by decide +kernel
theorem d_Mo_dear_19 : decode c_Mo_dear 19 = .ok (.iload_n 1, 1) := by decide +kernel
theorem d_Mo_dear_20 : decode c_Mo_dear 20 = .ok (.iaload, 1) := by decide +kernel
theorem d_Mo_dear_21 : decode c_Mo_dear 21 = .ok (.istore_n 3, 1) := by decide +kernel
theorem d_Mo_dear_22 : decode c_Mo_dear 22 = .ok (.iconst 0, 1) := by decide +kernel
theorem d_Mo_dear_23 : decode c_Mo_dear 23 = .ok (.istore 4, 2) := by decide +kernel
theorem d_Mo_dear_25 : decode c_Mo_dear 25 = .ok (.iconst 0, 1) := by decide +kernel
theorem d_Mo_dear_26 : decode c_Mo_dear 26 = .ok (.istore 5, 2) := by decide +kernel
theorem d_Mo_dear_28 : decode c_Mo_dear 28 = .ok (.iload 5, 2) := by decide +kernel
theorem d_Mo_dear_30 : decode c_Mo_dear 30 = .ok (.bipush 10, 2) := by decide +kernel
theorem d_Mo_dear_32 : decode c_Mo_dear 32 = .ok (.if_icmp .ge 34, 3) := by decide +kernel
theorem d_Mo_dear_35 : decode c_Mo_dear 35 = .ok (.aload_n 0, 1) := by decide +kernel
theorem d_Mo_dear_36 : decode c_Mo_dear 36 = .ok (.getfield 22, 3) := by decide +kernel
theorem d_Mo_dear_39 : decode c_Mo_dear 39 = .ok (.iload_n 1, 1) := by decide +kernel
theorem d_Mo_dear_40 : decode c_Mo_dear 40 = .ok (.iload 5, 2) := by decide +kernel
theorem d_Mo_dear_42 : decode c_Mo_dear 42 = .ok (.iastore, 1) := by decide +kernel
theorem d_Mo_dear_43 : decode c_Mo_dear 43 = .ok (.aload_n 0, 1) := by decide +kernel
theorem d_Mo_dear_44 : decode c_Mo_dear 44 = .ok (.invokevirtual 246, 3) := by decide +kernel
theorem d_Mo_dear_47 : decode c_Mo_dear 47 = .ok (.iload_n 2, 1) := by decide +kernel
theorem d_Mo_dear_48 : decode c_Mo_dear 48 = .ok (.if_icmp .lt 8, 3) := by decide +kernel
theorem d_Mo_dear_51 : decode c_Mo_dear 51 = .ok (.iload 5, 2) := by decide +kernel
theorem d_Mo_dear_53 : decode c_Mo_dear 53 = .ok (.goto 5, 3) := by decide +kernel
theorem d_Mo_dear_56 : decode c_Mo_dear 56 = .ok (.iload 4, 2) := by decide +kernel
theorem d_Mo_dear_58 : decode c_Mo_dear 58 = .ok (.istore 4, 2) := by decide +kernel
theorem d_Mo_dear_60 : decode c_Mo_dear 60 = .ok (.iinc 5 1, 3) := by decide +kernel
theorem d_Mo_dear_63 : decode c_Mo_dear 63 = .ok (.goto (-35), 3) := by decide +kernel
theorem d_Mo_dear_66 : decode c_Mo_dear 66 = .ok (.aload_n 0, 1) := by decide +kernel
theorem d_Mo_dear_67 : decode c_Mo_dear 67 = .ok (.getfield 22, 3) := by decide +kernel
theorem d_Mo_dear_70 : decode c_Mo_dear 70 = .ok (.iload_n 1, 1) := by decide +kernel
theorem d_Mo_dear_71 : decode c_Mo_dear 71 = .ok (.iload_n 3, 1) := by decide +kernel
theorem d_Mo_dear_72 : decode c_Mo_dear 72 = .ok (.iastore, 1) := by decide +kernel
theorem d_Mo_dear_73 : decode c_Mo_dear 73 = .ok (.iload 4, 2) := by decide +kernel
theorem d_Mo_dear_75 : decode c_Mo_dear 75 = .ok (.ireturn, 1) := by decide +kernel
theorem C_Mo_dear_out {M : MM} {n : Nat} {J : JT} {x : Int32} (hJ : MJ M n J) (hx : rg x 0 ((n : Int) - 1) = false) : AF y_Mo_dear c_Mo_dear 6 (some .int) 7 [vR 36, vI x] (M) (some (vI (-1))) (M) := by
  refine AF.of k_Mo_dear (lo := [some (vR 36), some (vI x), none, none, none, none]) rfl (Nat.le_of_ble_eq_true rfl) (fun X hX hR => ?_)
  refine v_aload_n (pc := 0) hX rfl d_Mo_dear_0 ?_
  refine v_iload_n (pc := 1) hX rfl d_Mo_dear_1 ?_
  refine f_callV (pc := 2) hX k_Mo_noJar ki_Mo_noJar kv_Mo_noJar ml_Mo_170 (C_Mo_noJar hJ.1 hJ.2.1) rfl rfl rfl rfl rfl (Nat.le_of_ble_eq_true rfl) (Nat.le_of_ble_eq_true rfl) (Nat.le_of_ble_eq_true rfl) d_Mo_dear_2 ?_
  rw [hx]
  refine f_ifeqB (pc := 5) (tgt := 10) hX d_Mo_dear_5 rfl (fun h5 => False.elim (absurd h5 (by decide))) (fun h5 => ?_)
  refine v_iconst (pc := 8) (v := (-1)) hX (by decide) d_Mo_dear_8 ?_
  exact f_iret (pc := 9) hX hR (rfl) (rfl) d_Mo_dear_9
set_option maxHeartbeats 4000000 in
theorem C_Mo_dear_in {M : MM} {n nd : Nat} {J B : JT} {hv : Nat → Nat} (hJ : MJ M n J) (hB : MB M nd B) (hH : HV n J hv) {j p : Nat} (hj : j < n) (hp : J j 4 = i3 p) (hp9 : p ≤ 9) : AF y_Mo_dear c_Mo_dear 6 (some .int) 7 [vR 36, vI (i3 j)] (M) (some (vI (i3 (drN (fun v => decide (mostN (okB J B) n nd nd hv ≤ mvN J B n nd hv j v)) p 9)))) (upM (drH J B n nd hv j M 10) 41 j (i3 p)) := by
  have h6 := hJ.1
  have h4 := hB.1
  have hpw := pow_b h6 h4
  have hmo := mostN_le (okB J B) n nd nd hv
  have hfp : (fun v => decide (mostN (okB J B) n nd nd hv ≤ mvN J B n nd hv j v)) p = true := decide_eq_true (by unfold mvN; rw [upM_id hp]; exact Nat.le_refl _)
  have hla : laF (fun v => decide (mostN (okB J B) n nd nd hv ≤ mvN J B n nd hv j v)) 10 = drN (fun v => decide (mostN (okB J B) n nd nd hv ≤ mvN J B n nd hv j v)) p 9 := by
    have := la_dr (f := (fun v => decide (mostN (okB J B) n nd nd hv ≤ mvN J B n nd hv j v))) (p := p) hfp (9 - p)
    rw [show p + (9 - p) = 9 by omega] at this
    exact this
  refine AF.of k_Mo_dear (lo := [some (vR 36), some (vI (i3 j)), none, none, none, none]) rfl (Nat.le_of_ble_eq_true rfl) (fun X hX hR => ?_)
  refine v_aload_n (pc := 0) hX rfl d_Mo_dear_0 ?_
  refine v_iload_n (pc := 1) hX rfl d_Mo_dear_1 ?_
  refine f_callV (pc := 2) hX k_Mo_noJar ki_Mo_noJar kv_Mo_noJar ml_Mo_170 (C_Mo_noJar hJ.1 hJ.2.1) rfl rfl rfl rfl rfl (Nat.le_of_ble_eq_true rfl) (Nat.le_of_ble_eq_true rfl) (Nat.le_of_ble_eq_true rfl) d_Mo_dear_2 ?_
  rw [show rg (i3 j) 0 ((n : Int) - 1) = true from by unfold rg; rw [i3_int (by omega)]; simp; omega]
  refine f_ifeqB (pc := 5) (tgt := 10) hX d_Mo_dear_5 rfl (fun h5 => ?_) (fun h5 => False.elim (by cases h5))
  refine v_aload_n (pc := 10) hX rfl d_Mo_dear_10 ?_
  refine f_callV (pc := 11) hX k_Mo_mostServed ki_Mo_mostServed kv_Mo_mostServed ml_Mo_246 (C_Mo_mostServed hJ hB hH) rfl rfl rfl rfl rfl (Nat.le_of_ble_eq_true rfl) (Nat.le_of_ble_eq_true rfl) (Nat.le_of_ble_eq_true rfl) d_Mo_dear_11 ?_
  refine v_istore_n (pc := 14) (lo' := [some (vR _), some (vI _), some (vI _), none, none, none]) hX (Nat.le_of_ble_eq_true rfl) rfl d_Mo_dear_14 ?_
  refine v_aload_n (pc := 15) hX rfl d_Mo_dear_15 ?_
  refine g_getR (pc := 16) hX fl_Mo_22 rfl rfl nf_36_6 d_Mo_dear_16 ?_
  refine v_iload_n (pc := 19) hX rfl d_Mo_dear_19 ?_
  refine g_iald (pc := 20) hX rfl (IX.of (n := 6) (by omega) (by decide)) d_Mo_dear_20 ?_
  rw [msM_ne (by omega) (by omega), show M 41 j = J j 4 from hJ.2.2.1 j hj 4 (by decide), hp]
  refine v_istore_n (pc := 21) (lo' := [some (vR _), some (vI _), some (vI _), some (vI _), none, none]) hX (Nat.le_of_ble_eq_true rfl) rfl d_Mo_dear_21 ?_
  refine v_iconst (pc := 22) (v := 0) hX (by decide) d_Mo_dear_22 ?_
  refine v_istore (pc := 23) (lo' := [some (vR _), some (vI _), some (vI _), some (vI _), some (vI _), none]) hX (Nat.le_of_ble_eq_true rfl) rfl d_Mo_dear_23 ?_
  refine v_iconst (pc := 25) (v := 0) hX (by decide) d_Mo_dear_25 ?_
  refine v_istore (pc := 26) (lo' := [some (vR _), some (vI _), some (vI _), some (vI _), some (vI _), some (vI _)]) hX (Nat.le_of_ble_eq_true rfl) rfl d_Mo_dear_26 ?_
  refine VW.cast (lo' := [some (vR 36), some (vI (i3 j)), some (vI (i3 (mostN (okB J B) n nd nd hv))), some (vI (i3 p)), some (vI (i3 (laF (fun v => decide (mostN (okB J B) n nd nd hv ≤ mvN J B n nd hv j v)) 0))), some (vI (i3 0))]) (st' := []) (G' := gM (drH J B n nd hv j M 0)) rfl rfl rfl ?_
  refine v_for (X := X) (head := 28) (10) (fun kk => [some (vR 36), some (vI (i3 j)), some (vI (i3 (mostN (okB J B) n nd nd hv))), some (vI (i3 p)), some (vI (i3 (laF (fun v => decide (mostN (okB J B) n nd nd hv ≤ mvN J B n nd hv j v)) kk))), some (vI (i3 kk))]) (fun kk => drH J B n nd hv j M kk) (fun v hvv ih28 => ?_) ?_
  · show VW X 28 [some (vR 36), some (vI (i3 j)), some (vI (i3 (mostN (okB J B) n nd nd hv))), some (vI (i3 p)), some (vI (i3 (laF (fun v => decide (mostN (okB J B) n nd nd hv ≤ mvN J B n nd hv j v)) v))), some (vI (i3 v))] [] (gM (drH J B n nd hv j M v))
    have hmv : mvN J B n nd hv j v ≤ nd := mostN_le _ n nd nd hv
    have hmv2 : mostN (okB (upM J j 4 (i3 v)) B) n nd nd hv ≤ nd := mostN_le _ n nd nd hv
    refine v_iload (pc := 28) hX rfl d_Mo_dear_28 ?_
    refine v_bipush (pc := 30) (v := 10) hX (by decide) d_Mo_dear_30 ?_
    refine v_icmp_ge (pc := 32) (tgt := 66) hX d_Mo_dear_32 rfl (fun h32 => False.elim (i3_ge_abs (n := 10) hvv (by decide) h32)) (fun h32 => ?_)
    refine v_aload_n (pc := 35) hX rfl d_Mo_dear_35 ?_
    refine g_getR (pc := 36) hX fl_Mo_22 rfl rfl nf_36_6 d_Mo_dear_36 ?_
    refine v_iload_n (pc := 39) hX rfl d_Mo_dear_39 ?_
    refine v_iload (pc := 40) hX rfl d_Mo_dear_40 ?_
    refine g_iast (pc := 42) hX rfl (IX.of (n := 6) (by omega) (by decide)) d_Mo_dear_42 ?_
    refine v_aload_n (pc := 43) hX rfl d_Mo_dear_43 ?_
    refine f_callV (pc := 44) hX k_Mo_mostServed ki_Mo_mostServed kv_Mo_mostServed ml_Mo_246 (C_Mo_mostServed (drH_J hJ v (i3 v)) (drH_B hB v (i3 v)) hH.p4) rfl rfl rfl rfl rfl (Nat.le_of_ble_eq_true rfl) (Nat.le_of_ble_eq_true rfl) (Nat.le_of_ble_eq_true rfl) d_Mo_dear_44 ?_
    refine v_iload_n (pc := 47) hX rfl d_Mo_dear_47 ?_
    refine v_icmp_lt (pc := 48) (tgt := 56) hX d_Mo_dear_48 rfl (fun h48 => ?_) (fun h48 => ?_)
    · have e : laF (fun v => decide (mostN (okB J B) n nd nd hv ≤ mvN J B n nd hv j v)) (v + 1) = laF (fun v => decide (mostN (okB J B) n nd nd hv ≤ mvN J B n nd hv j v)) v := if_neg (fun w => absurd ((i3_lt (by omega) (by omega)).mp h48) (Nat.not_lt.mpr (of_decide_eq_true w)))
      refine v_iload (pc := 56) hX rfl d_Mo_dear_56 ?_
      refine v_istore (pc := 58) (lo' := [some (vR _), some (vI _), some (vI _), some (vI _), some (vI _), some (vI _)]) hX (Nat.le_of_ble_eq_true rfl) rfl d_Mo_dear_58 ?_
      refine v_iinc (pc := 60) (lo' := [some (vR _), some (vI _), some (vI _), some (vI _), some (vI _), some (vI _)]) hX rfl rfl d_Mo_dear_60 ?_
      refine v_goto (pc := 63) (tgt := 28) hX d_Mo_dear_63 rfl ?_
      exact VW.cast (by rw [e, i3_succ v]; rfl) rfl rfl ih28
    · have e : laF (fun v => decide (mostN (okB J B) n nd nd hv ≤ mvN J B n nd hv j v)) (v + 1) = v := if_pos (decide_eq_true (Nat.le_of_not_lt (fun w => h48 ((i3_lt (by omega) (by omega)).mpr w))))
      refine v_iload (pc := 51) hX rfl d_Mo_dear_51 ?_
      refine v_goto (pc := 53) (tgt := 58) hX d_Mo_dear_53 rfl ?_
      refine v_istore (pc := 58) (lo' := [some (vR _), some (vI _), some (vI _), some (vI _), some (vI _), some (vI _)]) hX (Nat.le_of_ble_eq_true rfl) rfl d_Mo_dear_58 ?_
      refine v_iinc (pc := 60) (lo' := [some (vR _), some (vI _), some (vI _), some (vI _), some (vI _), some (vI _)]) hX rfl rfl d_Mo_dear_60 ?_
      refine v_goto (pc := 63) (tgt := 28) hX d_Mo_dear_63 rfl ?_
      exact VW.cast (by rw [e, i3_succ v]; rfl) rfl rfl ih28
  · show VW X 28 [some (vR 36), some (vI (i3 j)), some (vI (i3 (mostN (okB J B) n nd nd hv))), some (vI (i3 p)), some (vI (i3 (laF (fun v => decide (mostN (okB J B) n nd nd hv ≤ mvN J B n nd hv j v)) (10)))), some (vI (i3 (10)))] [] (gM (drH J B n nd hv j M (10)))
    refine v_iload (pc := 28) hX rfl d_Mo_dear_28 ?_
    refine v_bipush (pc := 30) (v := 10) hX (by decide) d_Mo_dear_30 ?_
    refine v_icmp_ge (pc := 32) (tgt := 66) hX d_Mo_dear_32 rfl (fun h32 => ?_) (fun h32 => False.elim (h32 (by decide)))
    refine v_aload_n (pc := 66) hX rfl d_Mo_dear_66 ?_
    refine g_getR (pc := 67) hX fl_Mo_22 rfl rfl nf_36_6 d_Mo_dear_67 ?_
    refine v_iload_n (pc := 70) hX rfl d_Mo_dear_70 ?_
    refine v_iload_n (pc := 71) hX rfl d_Mo_dear_71 ?_
    refine g_iast (pc := 72) hX rfl (IX.of (n := 6) (by omega) (by decide)) d_Mo_dear_72 ?_
    refine v_iload (pc := 73) hX rfl d_Mo_dear_73 ?_
    exact f_iret (pc := 75) hX hR (by rw [hla]) (rfl) d_Mo_dear_75
