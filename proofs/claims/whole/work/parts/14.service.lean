/-! Whom to serve: most. -/
-- whom to serve
def okB (J B : JT) (j b : Nat) : Bool := decide (J j 4 ≤ B b 2) && decide (B b 0 ≤ mk J j (B b 1))
def dcr (l : Nat → Nat) (j : Nat) : Nat → Nat := fun i => if i = j then l i - 1 else l i
def bsN (f : Nat → Nat) (b0 : Nat) : Nat → Nat
  | 0 => b0
  | k + 1 => if bsN f b0 k < f k then f k else bsN f b0 k
def mostN (ok : Nat → Nat → Bool) (n nd : Nat) : Nat → (Nat → Nat) → Nat
  | 0, _ => 0
  | m + 1, l => bsN (fun j => if 0 < l j ∧ ok j (nd - (m + 1)) = true then 1 + mostN ok n nd m (dcr l j) else 0) (mostN ok n nd m l) n
theorem bsN_le {f : Nat → Nat} {b0 c : Nat} (h0 : b0 ≤ c) (hf : ∀ k, f k ≤ c) : ∀ k, bsN f b0 k ≤ c
  | 0 => h0
  | k + 1 => by
    have := bsN_le h0 hf k
    have := hf k
    unfold bsN
    split <;> omega
theorem bsN_mono {f : Nat → Nat} {b0 : Nat} : ∀ {k k' : Nat}, k ≤ k' → bsN f b0 k ≤ bsN f b0 k' := by
  intro k k' h
  induction k' with
  | zero => rw [show k = 0 by omega]; exact Nat.le_refl _
  | succ k' ih =>
    by_cases e : k = k' + 1
    · rw [e]; exact Nat.le_refl _
    · have := ih (by omega)
      have h2 : bsN f b0 k' ≤ bsN f b0 (k' + 1) := by
        conv => rhs; unfold bsN
        split <;> omega
      omega
theorem mostN_le (ok : Nat → Nat → Bool) (n nd : Nat) : ∀ m l, mostN ok n nd m l ≤ m
  | 0, _ => Nat.le_refl _
  | m + 1, l => by
    refine bsN_le (Nat.le_succ_of_le (mostN_le ok n nd m l)) (fun k => ?_) n
    split
    · have := mostN_le ok n nd m (dcr l k); omega
    · omega
theorem CJ.up {M : MM} {n r k : Nat} {J : JT} {x : Int32} (h : CJ M n J) (hr : 12 ≤ r) : CJ (upM M r k x) n J := by
  obtain ⟨h1, h2, h3⟩ := h
  exact ⟨h1, by rw [upM_ne (by omega)]; exact h2, fun j hj i hi => by rw [upM_ne (by omega)]; exact h3 j hj i hi⟩
theorem CB.up {M : MM} {n r k : Nat} {B : JT} {x : Int32} (h : CB M n B) (hr : 16 ≤ r) : CB (upM M r k x) n B := by
  obtain ⟨h1, h2, h3⟩ := h
  exact ⟨h1, by rw [upM_ne (by omega)]; exact h2, fun j hj i hi => by rw [upM_ne (by omega)]; exact h3 j hj i hi⟩
/-- the row of what is left -/
def LF (M : MM) (n : Nat) (l : Nat → Nat) : Prop := ∀ j, j < n → M 20 j = i3 (l j) ∧ l j ≤ 9
theorem LF.dcr {M : MM} {n k : Nat} {l : Nat → Nat} (h : LF M n l) : LF (upM M 20 k (i3 (l k - 1))) n (dcr l k) := by
  intro j hj
  obtain ⟨h1, h2⟩ := h j hj
  show _ = i3 (if j = k then l j - 1 else l j) ∧ (if j = k then l j - 1 else l j) ≤ 9
  by_cases e : j = k
  · subst e
    rw [if_pos rfl]
    exact ⟨upM_same, by omega⟩
  · rw [if_neg e, upM_ne (by omega)]
    exact ⟨h1, h2⟩
theorem i3_sub1 {k : Nat} (h : 0 < k) : i3 k - 1 = i3 (k - 1) := by
  generalize hd : k - 1 = d
  rw [show k = d + 1 by omega, i3_succ, Int32.add_sub_cancel]
theorem i3_back {k : Nat} (h : 0 < k) : i3 (k - 1) + 1 = i3 k := by rw [← i3_succ, show k - 1 + 1 = k by omega]
theorem i3_nb {m nd : Nat} (h : m + 1 ≤ nd) : i3 (nd - (m + 1)) + 1 = i3 (nd - m) := by rw [← i3_succ, show nd - (m + 1) + 1 = nd - m by omega]
theorem i3_dif {m nd : Nat} (h : m + 1 ≤ nd) : i3 nd - i3 (nd - (m + 1)) = i3 (m + 1) := by
  generalize hd : nd - (m + 1) = d
  rw [show nd = (m + 1) + d by omega, i3_add, Int32.add_sub_cancel]
theorem upM_back {M : MM} {r k : Nat} {x y : Int32} (h : M r k = y) : upM (upM M r k x) r k y = M := by
  funext a i
  unfold upM
  by_cases e : a = r ∧ i = k
  · rw [if_pos e, e.1, e.2, h]
  · rw [if_neg e, if_neg e]
theorem i3_max {a b : Nat} (ha : a < 1000) (hb : b < 1000) : (if i3 a < 1 + i3 b then 1 + i3 b else i3 a) = i3 (if a < 1 + b then 1 + b else a) := by
  rw [show (1 : Int32) + i3 b = i3 (1 + b) from (i3_add 1 b).symm]
  by_cases h : a < 1 + b
  · rw [if_pos h, if_pos ((i3_lt (by omega) (by omega)).mpr h)]
  · rw [if_neg h, if_neg (fun q => h ((i3_lt (by omega) (by omega)).mp q))]
theorem bs_no {f : Nat → Nat} {b0 k : Nat} (h : f k = 0) : bsN f b0 (k + 1) = bsN f b0 k := by
  conv => lhs; unfold bsN
  rw [h, if_neg (by omega)]
theorem bs_yes {f : Nat → Nat} {b0 k v : Nat} (h : f k = v) : bsN f b0 (k + 1) = if bsN f b0 k < v then v else bsN f b0 k := by subst h; rfl
theorem d_Se_most_0 : decode c_Se_most 0 = .ok (.iload_n 2, 1) := by decide +kernel
theorem d_Se_most_1 : decode c_Se_most 1 = .ok (.aload_n 0, 1) := by decide +kernel
theorem d_Se_most_2 : decode c_Se_most 2 = .ok (.getfield 26, 3) := by decide +kernel
theorem d_Se_most_5 : decode c_Se_most 5 = .ok (.invokestatic 32, 3) := by decide +kernel
theorem d_Se_most_8 : decode c_Se_most 8 = .ok (.ifCond .ne 5, 3) := by decide +kernel
theorem d_Se_most_11 : decode c_Se_most 11 = .ok (.iconst 0, 1) := by decide +kernel
theorem d_Se_most_12 : decode c_Se_most 12 = .ok (.ireturn, 1) := by decide +kernel
theorem d_Se_most_13 : decode c_Se_most 13 = .ok (.aload_n 0, 1) := by decide +kernel
theorem d_Se_most_14 : decode c_Se_most 14 = .ok (.getfield 52, 3) := by decide +kernel
theorem d_Se_most_17 : decode c_Se_most 17 = .ok (.iload_n 2, 1) := by decide +kernel
theorem d_Se_most_18 : decode c_Se_most 18 = .ok (.aaload, 1) := by decide +kernel
theorem d_Se_most_19 : decode c_Se_most 19 = .ok (.astore_n 3, 1) := by decide +kernel
theorem d_Se_most_20 : decode c_Se_most 20 = .ok (.aload_n 0, 1) := by decide +kernel
theorem d_Se_most_21 : decode c_Se_most 21 = .ok (.aload_n 1, 1) := by decide +kernel
theorem d_Se_most_22 : decode c_Se_most 22 = .ok (.iload_n 2, 1) := by decide +kernel
theorem d_Se_most_23 : decode c_Se_most 23 = .ok (.iconst 1, 1) := by decide +kernel
theorem d_Se_most_24 : decode c_Se_most 24 = .ok (.iadd, 1) := by decide +kernel
theorem d_Se_most_25 : decode c_Se_most 25 = .ok (.invokestatic 22, 3) := by decide +kernel
theorem d_Se_most_28 : decode c_Se_most 28 = .ok (.istore 4, 2) := by decide +kernel
theorem d_Se_most_30 : decode c_Se_most 30 = .ok (.iconst 0, 1) := by decide +kernel
theorem d_Se_most_31 : decode c_Se_most 31 = .ok (.istore 5, 2) := by decide +kernel
theorem d_Se_most_33 : decode c_Se_most 33 = .ok (.iload 5, 2) := by decide +kernel
theorem d_Se_most_35 : decode c_Se_most 35 = .ok (.aload_n 0, 1) := by decide +kernel
theorem d_Se_most_36 : decode c_Se_most 36 = .ok (.getfield 56, 3) := by decide +kernel
theorem d_Se_most_39 : decode c_Se_most 39 = .ok (.if_icmp .ge 90, 3) := by decide +kernel
theorem d_Se_most_42 : decode c_Se_most 42 = .ok (.iload 4, 2) := by decide +kernel
theorem d_Se_most_44 : decode c_Se_most 44 = .ok (.aload_n 0, 1) := by decide +kernel
theorem d_Se_most_45 : decode c_Se_most 45 = .ok (.getfield 26, 3) := by decide +kernel
theorem d_Se_most_48 : decode c_Se_most 48 = .ok (.iload_n 2, 1) := by decide +kernel
theorem d_Se_most_49 : decode c_Se_most 49 = .ok (.isub, 1) := by decide +kernel
theorem d_Se_most_50 : decode c_Se_most 50 = .ok (.if_icmp .ge 79, 3) := by decide +kernel
theorem d_Se_most_53 : decode c_Se_most 53 = .ok (.aload_n 0, 1) := by decide +kernel
theorem d_Se_most_54 : decode c_Se_most 54 = .ok (.getfield 45, 3) := by decide +kernel
theorem d_Se_most_57 : decode c_Se_most 57 = .ok (.iload 5, 2) := by decide +kernel
theorem d_Se_most_59 : decode c_Se_most 59 = .ok (.aaload, 1) := by decide +kernel
theorem d_Se_most_60 : decode c_Se_most 60 = .ok (.astore 6, 2) := by decide +kernel
theorem d_Se_most_62 : decode c_Se_most 62 = .ok (.aload_n 1, 1) := by decide +kernel
theorem d_Se_most_63 : decode c_Se_most 63 = .ok (.iload 5, 2) := by decide +kernel
theorem d_Se_most_65 : decode c_Se_most 65 = .ok (.iaload, 1) := by decide +kernel
theorem d_Se_most_66 : decode c_Se_most 66 = .ok (.ifCond .le 57, 3) := by decide +kernel
theorem d_Se_most_69 : decode c_Se_most 69 = .ok (.aload 6, 2) := by decide +kernel
theorem d_Se_most_71 : decode c_Se_most 71 = .ok (.getfield 36, 3) := by decide +kernel
theorem d_Se_most_74 : decode c_Se_most 74 = .ok (.aload_n 3, 1) := by decide +kernel
theorem d_Se_most_75 : decode c_Se_most 75 = .ok (.getfield 59, 3) := by decide +kernel
theorem d_Se_most_78 : decode c_Se_most 78 = .ok (.if_icmp .gt 45, 3) := by decide +kernel
theorem d_Se_most_81 : decode c_Se_most 81 = .ok (.aload_n 3, 1) := by decide +kernel
theorem d_Se_most_82 : decode c_Se_most 82 = .ok (.aload 6, 2) := by decide +kernel
theorem d_Se_most_84 : decode c_Se_most 84 = .ok (.invokevirtual 64, 3) := by decide +kernel
theorem d_Se_most_87 : decode c_Se_most 87 = .ok (.ifCond .eq 36, 3) := by decide +kernel
theorem d_Se_most_90 : decode c_Se_most 90 = .ok (.aload_n 1, 1) := by decide +kernel
theorem d_Se_most_91 : decode c_Se_most 91 = .ok (.iload 5, 2) := by decide +kernel
theorem d_Se_most_93 : decode c_Se_most 93 = .ok (.dup2, 1) := by decide +kernel
theorem d_Se_most_94 : decode c_Se_most 94 = .ok (.iaload, 1) := by decide +kernel
theorem d_Se_most_95 : decode c_Se_most 95 = .ok (.iconst 1, 1) := by decide +kernel
theorem d_Se_most_96 : decode c_Se_most 96 = .ok (.isub, 1) := by decide +kernel
theorem d_Se_most_97 : decode c_Se_most 97 = .ok (.iastore, 1) := by decide +kernel
theorem d_Se_most_98 : decode c_Se_most 98 = .ok (.iload 4, 2) := by decide +kernel
theorem d_Se_most_100 : decode c_Se_most 100 = .ok (.iconst 1, 1) := by decide +kernel
theorem d_Se_most_101 : decode c_Se_most 101 = .ok (.aload_n 0, 1) := by decide +kernel
theorem d_Se_most_102 : decode c_Se_most 102 = .ok (.aload_n 1, 1) := by decide +kernel
theorem d_Se_most_103 : decode c_Se_most 103 = .ok (.iload_n 2, 1) := by decide +kernel
theorem d_Se_most_104 : decode c_Se_most 104 = .ok (.iconst 1, 1) := by decide +kernel
theorem d_Se_most_105 : decode c_Se_most 105 = .ok (.iadd, 1) := by decide +kernel
theorem d_Se_most_106 : decode c_Se_most 106 = .ok (.invokestatic 22, 3) := by decide +kernel
theorem d_Se_most_109 : decode c_Se_most 109 = .ok (.iadd, 1) := by decide +kernel
theorem d_Se_most_110 : decode c_Se_most 110 = .ok (.invokestatic 68, 3) := by decide +kernel
theorem d_Se_most_113 : decode c_Se_most 113 = .ok (.istore 4, 2) := by decide +kernel
theorem d_Se_most_115 : decode c_Se_most 115 = .ok (.aload_n 1, 1) := by decide +kernel
theorem d_Se_most_116 : decode c_Se_most 116 = .ok (.iload 5, 2) := by decide +kernel
theorem d_Se_most_118 : decode c_Se_most 118 = .ok (.dup2, 1) := by decide +kernel
theorem d_Se_most_119 : decode c_Se_most 119 = .ok (.iaload, 1) := by decide +kernel
theorem d_Se_most_120 : decode c_Se_most 120 = .ok (.iconst 1, 1) := by decide +kernel
theorem d_Se_most_121 : decode c_Se_most 121 = .ok (.iadd, 1) := by decide +kernel
theorem d_Se_most_122 : decode c_Se_most 122 = .ok (.iastore, 1) := by decide +kernel
theorem d_Se_most_123 : decode c_Se_most 123 = .ok (.iinc 5 1, 3) := by decide +kernel
theorem d_Se_most_126 : decode c_Se_most 126 = .ok (.goto (-93), 3) := by decide +kernel
theorem d_Se_most_129 : decode c_Se_most 129 = .ok (.iload 4, 2) := by decide +kernel
theorem d_Se_most_131 : decode c_Se_most 131 = .ok (.ireturn, 1) := by decide +kernel
theorem C_Se_most_0 {M : MM} {nd : Nat} (h4 : nd ≤ 4) (hM : M 3 3 = i3 nd) : AF y_Se_most c_Se_most 7 (some .int) (0 + 6) [vR 3, vR 20, vI (i3 (nd - 0))] (M) (some (vI (i3 0))) (M) := by
  refine AF.of k_Se_most (lo := [some (vR 3), some (vR 20), some (vI (i3 (nd - 0))), none, none, none, none]) rfl (Nat.le_of_ble_eq_true rfl) (fun X hX hR => ?_)
  refine v_iload_n (pc := 0) hX rfl d_Se_most_0 ?_
  refine v_aload_n (pc := 1) hX rfl d_Se_most_1 ?_
  refine g_getI (pc := 2) hX fl_Se_26 rfl rfl d_Se_most_2 ?_
  refine f_callN (pc := 5) hX k_LJ_isBelow ks_LJ_isBelow (by decide) (C_LJ_isBelow) rfl rfl rfl (by omega) (Nat.le_of_ble_eq_true rfl) (Nat.le_of_ble_eq_true rfl) d_Se_most_5 ?_
  refine f_ifneB (pc := 8) (tgt := 13) hX d_Se_most_8 rfl (fun h8 => False.elim (absurd h8 (by rw [hM, i3_int (by omega), show rg (i3 (nd - 0)) 0 ((nd : Int) - 1) = false from rg_false.mpr (by rw [i3_int (by omega)]; omega)]; decide))) (fun h8 => ?_)
  refine v_iconst (pc := 11) (v := 0) hX (by decide) d_Se_most_11 ?_
  exact f_iret (pc := 12) hX hR (rfl) (rfl) d_Se_most_12
set_option maxHeartbeats 4000000 in
theorem C_Se_most_s {M : MM} {n nd m : Nat} {J B : JT} {l : Nat → Nat} (hm : m + 1 ≤ nd) (hJ : CJ M n J) (hB : CB M nd B) (hL : LF M n l) (ih : ∀ (M : MM) (l : Nat → Nat), CJ M n J → CB M nd B → LF M n l → AF y_Se_most c_Se_most 7 (some .int) (m + 6) [vR 3, vR 20, vI (i3 (nd - m))] M (some (vI (i3 (mostN (okB J B) n nd m l)))) M) : AF y_Se_most c_Se_most 7 (some .int) (m + 1 + 6) [vR 3, vR 20, vI (i3 (nd - (m + 1)))] (M) (some (vI (i3 (mostN (okB J B) n nd (m + 1) l)))) (M) := by
  have h6 := hJ.1
  have hM := hJ.2.1
  have h4 := hB.1
  have hM3 := hB.2.1
  have hb4 : nd - (m + 1) < nd := by omega
  have hsd := sh_dec (nd - (m + 1)) (by omega)
  have hml : ∀ l, mostN (okB J B) n nd m l ≤ m := mostN_le (okB J B) n nd m
  have hfl : ∀ k, (fun j => if 0 < l j ∧ okB J B j (nd - (m + 1)) = true then 1 + mostN (okB J B) n nd m (dcr l j) else 0) k ≤ m + 1 := fun k => by
    have := hml (dcr l k)
    show (if 0 < l k ∧ okB J B k (nd - (m + 1)) = true then 1 + mostN (okB J B) n nd m (dcr l k) else 0) ≤ m + 1
    split <;> omega
  have hbl : ∀ k, bsN (fun j => if 0 < l j ∧ okB J B j (nd - (m + 1)) = true then 1 + mostN (okB J B) n nd m (dcr l j) else 0) (mostN (okB J B) n nd m l) k ≤ m + 1 := bsN_le (Nat.le_succ_of_le (hml l)) hfl
  refine AF.of k_Se_most (lo := [some (vR 3), some (vR 20), some (vI (i3 (nd - (m + 1)))), none, none, none, none]) rfl (Nat.le_of_ble_eq_true rfl) (fun X hX hR => ?_)
  refine v_iload_n (pc := 0) hX rfl d_Se_most_0 ?_
  refine v_aload_n (pc := 1) hX rfl d_Se_most_1 ?_
  refine g_getI (pc := 2) hX fl_Se_26 rfl rfl d_Se_most_2 ?_
  refine f_callN (pc := 5) hX k_LJ_isBelow ks_LJ_isBelow (by decide) (C_LJ_isBelow) rfl rfl rfl (by omega) (Nat.le_of_ble_eq_true rfl) (Nat.le_of_ble_eq_true rfl) d_Se_most_5 ?_
  refine f_ifneB (pc := 8) (tgt := 13) hX d_Se_most_8 rfl (fun h8 => ?_) (fun h8 => False.elim (absurd h8 (by rw [hM3, i3_int (by omega), rg_i3 hb4 (by omega)]; decide)))
  refine v_aload_n (pc := 13) hX rfl d_Se_most_13 ?_
  refine g_getR (pc := 14) hX fl_Se_52 rfl rfl nf_3_1 d_Se_most_14 ?_
  refine v_iload_n (pc := 17) hX rfl d_Se_most_17 ?_
  refine g_aald (pc := 18) (c := 0) hX (by decide) (by decide) rfl (IX.of (by omega) (by decide)) (nf_dec _ (by omega)) d_Se_most_18 ?_
  refine v_astore_n (pc := 19) (lo' := [some (vR _), some (vR _), some (vI _), some (vR _), none, none, none]) hX (Nat.le_of_ble_eq_true rfl) rfl d_Se_most_19 ?_
  refine v_aload_n (pc := 20) hX rfl d_Se_most_20 ?_
  refine v_aload_n (pc := 21) hX rfl d_Se_most_21 ?_
  refine v_iload_n (pc := 22) hX rfl d_Se_most_22 ?_
  refine v_iconst (pc := 23) (v := 1) hX (by decide) d_Se_most_23 ?_
  refine v_iadd (pc := 24) hX d_Se_most_24 ?_
  rw [i3_nb hm]
  refine f_callS (pc := 25) hX k_Se_most ks_Se_most ml_Se_22 (ih M l hJ hB hL) rfl rfl rfl (by omega) (Nat.le_of_ble_eq_true rfl) (Nat.le_of_ble_eq_true rfl) d_Se_most_25 ?_
  refine v_istore (pc := 28) (lo' := [some (vR _), some (vR _), some (vI _), some (vR _), some (vI _), none, none]) hX (Nat.le_of_ble_eq_true rfl) rfl d_Se_most_28 ?_
  refine v_iconst (pc := 30) (v := 0) hX (by decide) d_Se_most_30 ?_
  refine v_istore (pc := 31) (lo' := [some (vR _), some (vR _), some (vI _), some (vR _), some (vI _), some (vI _), none]) hX (Nat.le_of_ble_eq_true rfl) rfl d_Se_most_31 ?_
  refine VW.cast (lo' := [some (vR 3), some (vR 20), some (vI (i3 (nd - (m + 1)))), some (vR (12 + (nd - (m + 1)))), some (vI (i3 (bsN (fun j => if 0 < l j ∧ okB J B j (nd - (m + 1)) = true then 1 + mostN (okB J B) n nd m (dcr l j) else 0) (mostN (okB J B) n nd m l) 0))), some (vI (i3 0)), none]) (st' := []) (G' := gM (M)) rfl rfl rfl ?_
  refine v_for (X := X) (head := 33) (n) (fun kk => [some (vR 3), some (vR 20), some (vI (i3 (nd - (m + 1)))), some (vR (12 + (nd - (m + 1)))), some (vI (i3 (bsN (fun j => if 0 < l j ∧ okB J B j (nd - (m + 1)) = true then 1 + mostN (okB J B) n nd m (dcr l j) else 0) (mostN (okB J B) n nd m l) kk))), some (vI (i3 kk)), none]) (fun kk => M) (fun k hk ih33 => ?_) ?_
  · show VW X 33 [some (vR 3), some (vR 20), some (vI (i3 (nd - (m + 1)))), some (vR (12 + (nd - (m + 1)))), some (vI (i3 (bsN (fun j => if 0 < l j ∧ okB J B j (nd - (m + 1)) = true then 1 + mostN (okB J B) n nd m (dcr l j) else 0) (mostN (okB J B) n nd m l) k))), some (vI (i3 k)), none] [] (gM (M))
    have hsj := sh_jar k (by omega)
    obtain ⟨hl1, hl2⟩ := hL k hk
    have hbk := hbl k
    refine v_iload (pc := 33) hX rfl d_Se_most_33 ?_
    refine v_aload_n (pc := 35) hX rfl d_Se_most_35 ?_
    refine g_getI (pc := 36) hX fl_Se_56 rfl rfl d_Se_most_36 ?_
    refine v_icmp_ge (pc := 39) (tgt := 129) hX d_Se_most_39 rfl (fun h39 => False.elim (i3_ge_abs hk (by omega) (by rw [← hM]; exact h39))) (fun h39 => ?_)
    refine v_iload (pc := 42) hX rfl d_Se_most_42 ?_
    refine v_aload_n (pc := 44) hX rfl d_Se_most_44 ?_
    refine g_getI (pc := 45) hX fl_Se_26 rfl rfl d_Se_most_45 ?_
    refine v_iload_n (pc := 48) hX rfl d_Se_most_48 ?_
    refine v_isub (pc := 49) hX d_Se_most_49 ?_
    rw [hM3, i3_dif hm]
    refine v_icmp_ge (pc := 50) (tgt := 129) hX d_Se_most_50 rfl (fun h50 => ?_) (fun h50 => ?_)
    · refine v_iload (pc := 129) hX rfl d_Se_most_129 ?_
      exact f_iret (pc := 131) hX hR (by have e1 := (i3_le (by omega) (by omega)).mp h50; have e2 : bsN (fun j => if 0 < l j ∧ okB J B j (nd - (m + 1)) = true then 1 + mostN (okB J B) n nd m (dcr l j) else 0) (mostN (okB J B) n nd m l) k ≤ bsN (fun j => if 0 < l j ∧ okB J B j (nd - (m + 1)) = true then 1 + mostN (okB J B) n nd m (dcr l j) else 0) (mostN (okB J B) n nd m l) n := bsN_mono (by omega); have e3 := hbl n; have e4 : bsN (fun j => if 0 < l j ∧ okB J B j (nd - (m + 1)) = true then 1 + mostN (okB J B) n nd m (dcr l j) else 0) (mostN (okB J B) n nd m l) k = mostN (okB J B) n nd (m + 1) l := (by show _ = bsN (fun j => if 0 < l j ∧ okB J B j (nd - (m + 1)) = true then 1 + mostN (okB J B) n nd m (dcr l j) else 0) (mostN (okB J B) n nd m l) n; omega); rw [e4]) (rfl) d_Se_most_131
    · refine v_aload_n (pc := 53) hX rfl d_Se_most_53 ?_
      refine g_getR (pc := 54) hX fl_Se_45 rfl rfl nf_3_0 d_Se_most_54 ?_
      refine v_iload (pc := 57) hX rfl d_Se_most_57 ?_
      refine g_aald (pc := 59) (c := 1) hX (by decide) (by decide) rfl (IX.of (by omega) (by decide)) (nf_jar k (by omega)) d_Se_most_59 ?_
      refine v_astore (pc := 60) (lo' := [some (vR _), some (vR _), some (vI _), some (vR _), some (vI _), some (vI _), some (vR _)]) hX (Nat.le_of_ble_eq_true rfl) rfl d_Se_most_60 ?_
      refine v_aload_n (pc := 62) hX rfl d_Se_most_62 ?_
      refine v_iload (pc := 63) hX rfl d_Se_most_63 ?_
      refine g_iald (pc := 65) hX rfl (IX.of (n := 6) (by omega) (by decide)) d_Se_most_65 ?_
      rw [hl1]
      refine v_if_le (pc := 66) (tgt := 123) hX d_Se_most_66 rfl (fun h66 => ?_) (fun h66 => ?_)
      · have e : bsN (fun j => if 0 < l j ∧ okB J B j (nd - (m + 1)) = true then 1 + mostN (okB J B) n nd m (dcr l j) else 0) (mostN (okB J B) n nd m l) (k + 1) = bsN (fun j => if 0 < l j ∧ okB J B j (nd - (m + 1)) = true then 1 + mostN (okB J B) n nd m (dcr l j) else 0) (mostN (okB J B) n nd m l) k := bs_no (by have := (i3_le (b := 0) (by omega) (by decide)).mp h66; (show (if 0 < l k ∧ okB J B k (nd - (m + 1)) = true then 1 + mostN (okB J B) n nd m (dcr l k) else 0) = 0); rw [if_neg (by omega)])
        refine v_iinc (pc := 123) (lo' := [some (vR _), some (vR _), some (vI _), some (vR _), some (vI _), some (vI _), some (vR _)]) hX rfl rfl d_Se_most_123 ?_
        refine v_goto (pc := 126) (tgt := 33) hX d_Se_most_126 rfl ?_
        refine VW.fg [true, true, true, true, true, true, false] ?_
        exact VW.cast (by rw [e, i3_succ]; rfl) rfl rfl ih33
      · have hlp : 0 < l k := Nat.pos_of_ne_zero (fun q => h66 (by rw [q]; exact Int32.le_refl _))
        refine v_aload (pc := 69) hX rfl d_Se_most_69 ?_
        refine g_getI (pc := 71) hX fl_Se_36 rfl (by assumption) d_Se_most_71 ?_
        refine v_aload_n (pc := 74) hX rfl d_Se_most_74 ?_
        refine g_getI (pc := 75) hX fl_Se_59 rfl (by assumption) d_Se_most_75 ?_
        rw [hJ.2.2 k hk 4 (by decide), hB.2.2 _ hb4 2 (by decide)]
        refine v_icmp_gt (pc := 78) (tgt := 123) hX d_Se_most_78 rfl (fun h78 => ?_) (fun h78 => ?_)
        · have e : bsN (fun j => if 0 < l j ∧ okB J B j (nd - (m + 1)) = true then 1 + mostN (okB J B) n nd m (dcr l j) else 0) (mostN (okB J B) n nd m l) (k + 1) = bsN (fun j => if 0 < l j ∧ okB J B j (nd - (m + 1)) = true then 1 + mostN (okB J B) n nd m (dcr l j) else 0) (mostN (okB J B) n nd m l) k := bs_no (by (show (if 0 < l k ∧ okB J B k (nd - (m + 1)) = true then 1 + mostN (okB J B) n nd m (dcr l k) else 0) = 0); rw [if_neg (fun q => by have := q.2; unfold okB at this; simp only [Bool.and_eq_true, decide_eq_true_eq] at this; exact absurd this.1 (Int32.not_le.mpr h78))])
          refine v_iinc (pc := 123) (lo' := [some (vR _), some (vR _), some (vI _), some (vR _), some (vI _), some (vI _), some (vR _)]) hX rfl rfl d_Se_most_123 ?_
          refine v_goto (pc := 126) (tgt := 33) hX d_Se_most_126 rfl ?_
          refine VW.fg [true, true, true, true, true, true, false] ?_
          exact VW.cast (by rw [e, i3_succ]; rfl) rfl rfl ih33
        · refine v_aload_n (pc := 81) hX rfl d_Se_most_81 ?_
          refine v_aload (pc := 82) hX rfl d_Se_most_82 ?_
          refine f_callV (pc := 84) hX k_De_decidesBy ki_De_decidesBy kv_De_decidesBy ml_Se_64 (C_De_decidesBy (by assumption) (by assumption)) (by assumption) rfl rfl rfl rfl (by omega) (Nat.le_of_ble_eq_true rfl) (Nat.le_of_ble_eq_true rfl) d_Se_most_84 ?_
          rw [hJ.mk hk, hB.2.2 _ hb4 0 (by decide), hB.2.2 _ hb4 1 (by decide)]
          refine f_ifeqB (pc := 87) (tgt := 123) hX d_Se_most_87 rfl (fun h87 => ?_) (fun h87 => ?_)
          · have e : bsN (fun j => if 0 < l j ∧ okB J B j (nd - (m + 1)) = true then 1 + mostN (okB J B) n nd m (dcr l j) else 0) (mostN (okB J B) n nd m l) (k + 1) = bsN (fun j => if 0 < l j ∧ okB J B j (nd - (m + 1)) = true then 1 + mostN (okB J B) n nd m (dcr l j) else 0) (mostN (okB J B) n nd m l) k := bs_no (by (show (if 0 < l k ∧ okB J B k (nd - (m + 1)) = true then 1 + mostN (okB J B) n nd m (dcr l k) else 0) = 0); rw [if_neg (fun q => by have := q.2; unfold okB at this; rw [h87] at this; simp at this)])
            refine v_iinc (pc := 123) (lo' := [some (vR _), some (vR _), some (vI _), some (vR _), some (vI _), some (vI _), some (vR _)]) hX rfl rfl d_Se_most_123 ?_
            refine v_goto (pc := 126) (tgt := 33) hX d_Se_most_126 rfl ?_
            refine VW.fg [true, true, true, true, true, true, false] ?_
            exact VW.cast (by rw [e, i3_succ]; rfl) rfl rfl ih33
          · have hok : okB J B k (nd - (m + 1)) = true := by unfold okB; rw [h87, decide_eq_true (Int32.not_lt.mp h78)]; rfl
            have e : bsN (fun j => if 0 < l j ∧ okB J B j (nd - (m + 1)) = true then 1 + mostN (okB J B) n nd m (dcr l j) else 0) (mostN (okB J B) n nd m l) (k + 1) = if bsN (fun j => if 0 < l j ∧ okB J B j (nd - (m + 1)) = true then 1 + mostN (okB J B) n nd m (dcr l j) else 0) (mostN (okB J B) n nd m l) k < 1 + mostN (okB J B) n nd m (dcr l k) then 1 + mostN (okB J B) n nd m (dcr l k) else bsN (fun j => if 0 < l j ∧ okB J B j (nd - (m + 1)) = true then 1 + mostN (okB J B) n nd m (dcr l j) else 0) (mostN (okB J B) n nd m l) k := by
              exact bs_yes (if_pos ⟨hlp, hok⟩)
            refine v_aload_n (pc := 90) hX rfl d_Se_most_90 ?_
            refine v_iload (pc := 91) hX rfl d_Se_most_91 ?_
            refine v_dup2 (pc := 93) hX rfl rfl d_Se_most_93 ?_
            refine g_iald (pc := 94) hX rfl (IX.of (n := 6) (by omega) (by decide)) d_Se_most_94 ?_
            refine v_iconst (pc := 95) (v := 1) hX (by decide) d_Se_most_95 ?_
            refine v_isub (pc := 96) hX d_Se_most_96 ?_
            rw [hl1, i3_sub1 hlp]
            refine g_iast (pc := 97) hX rfl (IX.of (n := 6) (by omega) (by decide)) d_Se_most_97 ?_
            refine v_iload (pc := 98) hX rfl d_Se_most_98 ?_
            refine v_iconst (pc := 100) (v := 1) hX (by decide) d_Se_most_100 ?_
            refine v_aload_n (pc := 101) hX rfl d_Se_most_101 ?_
            refine v_aload_n (pc := 102) hX rfl d_Se_most_102 ?_
            refine v_iload_n (pc := 103) hX rfl d_Se_most_103 ?_
            refine v_iconst (pc := 104) (v := 1) hX (by decide) d_Se_most_104 ?_
            refine v_iadd (pc := 105) hX d_Se_most_105 ?_
            rw [i3_nb hm]
            refine f_callS (pc := 106) hX k_Se_most ks_Se_most ml_Se_22 (ih _ _ (hJ.up (by decide)) (hB.up (by decide)) hL.dcr) rfl rfl rfl (by omega) (Nat.le_of_ble_eq_true rfl) (Nat.le_of_ble_eq_true rfl) d_Se_most_106 ?_
            refine v_iadd (pc := 109) hX d_Se_most_109 ?_
            refine g_max (pc := 110) hX ml_Se_68 rfl (by omega) (Nat.le_of_ble_eq_true rfl) d_Se_most_110 ?_
            rw [i3_max (by omega) (by have := hml (dcr l k); omega)]
            refine v_istore (pc := 113) (lo' := [some (vR _), some (vR _), some (vI _), some (vR _), some (vI _), some (vI _), some (vR _)]) hX (Nat.le_of_ble_eq_true rfl) rfl d_Se_most_113 ?_
            refine v_aload_n (pc := 115) hX rfl d_Se_most_115 ?_
            refine v_iload (pc := 116) hX rfl d_Se_most_116 ?_
            refine v_dup2 (pc := 118) hX rfl rfl d_Se_most_118 ?_
            refine g_iald (pc := 119) hX rfl (IX.of (n := 6) (by omega) (by decide)) d_Se_most_119 ?_
            refine v_iconst (pc := 120) (v := 1) hX (by decide) d_Se_most_120 ?_
            refine v_iadd (pc := 121) hX d_Se_most_121 ?_
            rw [upM_same, i3_back hlp]
            refine g_iast (pc := 122) hX rfl (IX.of (n := 6) (by omega) (by decide)) d_Se_most_122 ?_
            rw [upM_back hl1]
            refine v_iinc (pc := 123) (lo' := [some (vR _), some (vR _), some (vI _), some (vR _), some (vI _), some (vI _), some (vR _)]) hX rfl rfl d_Se_most_123 ?_
            refine v_goto (pc := 126) (tgt := 33) hX d_Se_most_126 rfl ?_
            refine VW.fg [true, true, true, true, true, true, false] ?_
            exact VW.cast (by rw [e, i3_succ]; rfl) rfl rfl ih33
  · show VW X 33 [some (vR 3), some (vR 20), some (vI (i3 (nd - (m + 1)))), some (vR (12 + (nd - (m + 1)))), some (vI (i3 (bsN (fun j => if 0 < l j ∧ okB J B j (nd - (m + 1)) = true then 1 + mostN (okB J B) n nd m (dcr l j) else 0) (mostN (okB J B) n nd m l) (n)))), some (vI (i3 (n))), none] [] (gM (M))
    refine v_iload (pc := 33) hX rfl d_Se_most_33 ?_
    refine v_aload_n (pc := 35) hX rfl d_Se_most_35 ?_
    refine g_getI (pc := 36) hX fl_Se_56 rfl rfl d_Se_most_36 ?_
    refine v_icmp_ge (pc := 39) (tgt := 129) hX d_Se_most_39 rfl (fun h39 => ?_) (fun h39 => False.elim (absurd (by rw [hM]; exact Int32.le_refl _) h39))
    refine v_iload (pc := 129) hX rfl d_Se_most_129 ?_
    exact f_iret (pc := 131) hX hR (rfl) (rfl) d_Se_most_131
theorem C_Se_most {n nd : Nat} {J B : JT} : ∀ (m : Nat) (M : MM) (l : Nat → Nat), m ≤ nd → CJ M n J → CB M nd B → LF M n l → AF y_Se_most c_Se_most 7 (some .int) (m + 6) [vR 3, vR 20, vI (i3 (nd - m))] M (some (vI (i3 (mostN (okB J B) n nd m l)))) M
  | 0, M, l, _, _, hB, _ => C_Se_most_0 hB.1 hB.2.1
  | m + 1, M, l, hm, hJ, hB, hL => C_Se_most_s hm hJ hB hL (fun M l hJ hB hL => C_Se_most m M l (by omega) hJ hB hL)
