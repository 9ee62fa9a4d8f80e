/-! Whom to serve: choosing. -/
def bgM (M : MM) (k : Nat) : MM := fun a i => if a = 20 ∧ i < k then M (6 + i) 3 else M a i
theorem bgM_0 (M : MM) : bgM M 0 = M := by
  funext a i
  simp [bgM]
theorem bgM_s (M : MM) {k : Nat} (hk : k < 6) : bgM M (k + 1) = upM (bgM M k) 20 k (bgM M k (6 + k) 3) := by
  have e : bgM M k (6 + k) 3 = M (6 + k) 3 := if_neg (by omega)
  rw [e]
  funext a i
  simp only [bgM, upM]
  by_cases h : a = 20 ∧ i = k
  · rw [if_pos ⟨h.1, by omega⟩, if_pos h, h.2]
  · rw [if_neg h]
    by_cases h2 : a = 20 ∧ i < k
    · rw [if_pos h2, if_pos ⟨h2.1, by omega⟩]
    · rw [if_neg h2, if_neg (by omega)]
theorem bgM_ne {M : MM} {k a i : Nat} (h : a ≠ 20) : bgM M k a i = M a i := if_neg (fun q => h q.1)
theorem CJ.eq {M M' : MM} {n : Nat} {J : JT} (h : CJ M n J) (he : ∀ a, a < 12 → ∀ i, M' a i = M a i) : CJ M' n J := by
  obtain ⟨h1, h2, h3⟩ := h
  exact ⟨h1, by rw [he 3 (by decide)]; exact h2, fun j hj i hi => by rw [he (6 + j) (by omega)]; exact h3 j hj i hi⟩
theorem CB.eq {M M' : MM} {n : Nat} {B : JT} (h : CB M n B) (he : ∀ a, a < 16 → ∀ i, M' a i = M a i) : CB M' n B := by
  obtain ⟨h1, h2, h3⟩ := h
  exact ⟨h1, by rw [he 3 (by decide)]; exact h2, fun j hj i hi => by rw [he (12 + j) (by omega)]; exact h3 j hj i hi⟩
/-- the halves of the jars as numbers -/
def HV (n : Nat) (J : JT) (hv : Nat → Nat) : Prop := ∀ j, j < n → J j 3 = i3 (hv j) ∧ hv j ≤ 9
theorem bgM_LF {M : MM} {n : Nat} {J : JT} {hv : Nat → Nat} (hJ : CJ M n J) (hH : HV n J hv) : LF (bgM M 6) n hv := fun j hj => by
  have h6 := hJ.1
  refine ⟨?_, (hH j hj).2⟩
  show (if 20 = 20 ∧ j < 6 then M (6 + j) 3 else M 20 j) = _
  rw [if_pos ⟨rfl, by omega⟩, hJ.2.2 j hj 3 (by decide)]
  exact (hH j hj).1
theorem C_Se_most_at {n nd b : Nat} {J B : JT} {M : MM} {l : Nat → Nat} (hb : b ≤ nd) (hJ : CJ M n J) (hB : CB M nd B) (hL : LF M n l) : AF y_Se_most c_Se_most 7 (some .int) (nd - b + 6) [vR 3, vR 20, vI (i3 b)] M (some (vI (i3 (mostN (okB J B) n nd (nd - b) l)))) M := by
  have h := C_Se_most (nd - b) M l (by omega) hJ hB hL
  rw [show nd - (nd - b) = b by omega] at h
  exact h
theorem d_Se_begin_0 : decode c_Se_begin 0 = .ok (.iconst 0, 1) := by decide +kernel
theorem d_Se_begin_1 : decode c_Se_begin 1 = .ok (.istore_n 2, 1) := by decide +kernel
theorem d_Se_begin_2 : decode c_Se_begin 2 = .ok (.iload_n 2, 1) := by decide +kernel
theorem d_Se_begin_3 : decode c_Se_begin 3 = .ok (.bipush 6, 2) := by decide +kernel
theorem d_Se_begin_5 : decode c_Se_begin 5 = .ok (.if_icmp .ge 24, 3) := by decide +kernel
theorem d_Se_begin_8 : decode c_Se_begin 8 = .ok (.aload_n 0, 1) := by decide +kernel
theorem d_Se_begin_9 : decode c_Se_begin 9 = .ok (.getfield 9, 3) := by decide +kernel
theorem d_Se_begin_12 : decode c_Se_begin 12 = .ok (.iload_n 2, 1) := by decide +kernel
theorem d_Se_begin_13 : decode c_Se_begin 13 = .ok (.aload_n 1, 1) := by decide +kernel
theorem d_Se_begin_14 : decode c_Se_begin 14 = .ok (.getfield 45, 3) := by decide +kernel
theorem d_Se_begin_17 : decode c_Se_begin 17 = .ok (.iload_n 2, 1) := by decide +kernel
theorem d_Se_begin_18 : decode c_Se_begin 18 = .ok (.aaload, 1) := by decide +kernel
theorem d_Se_begin_19 : decode c_Se_begin 19 = .ok (.getfield 49, 3) := by decide +kernel
theorem d_Se_begin_22 : decode c_Se_begin 22 = .ok (.iastore, 1) := by decide +kernel
theorem d_Se_begin_23 : decode c_Se_begin 23 = .ok (.iinc 2 1, 3) := by decide +kernel
theorem d_Se_begin_26 : decode c_Se_begin 26 = .ok (.goto (-24), 3) := by decide +kernel
theorem d_Se_begin_29 : decode c_Se_begin 29 = .ok (.return_, 1) := by decide +kernel
theorem C_Se_begin {M : MM} : AF y_Se_begin c_Se_begin 3 none 1 [vR 19, vR 3] (M) (none) (bgM M 6) := by
  refine AF.of k_Se_begin (lo := [some (vR 19), some (vR 3), none]) rfl (Nat.le_of_ble_eq_true rfl) (fun X hX hR => ?_)
  refine v_iconst (pc := 0) (v := 0) hX (by decide) d_Se_begin_0 ?_
  refine v_istore_n (pc := 1) (lo' := [some (vR _), some (vR _), some (vI _)]) hX (Nat.le_of_ble_eq_true rfl) rfl d_Se_begin_1 ?_
  refine VW.cast (lo' := [some (vR 19), some (vR 3), some (vI (i3 0))]) (st' := []) (G' := gM (bgM M 0)) rfl rfl (by rw [bgM_0]) ?_
  refine v_for (X := X) (head := 2) (6) (fun kk => [some (vR 19), some (vR 3), some (vI (i3 kk))]) (fun kk => bgM M kk) (fun k hk ih2 => ?_) ?_
  · show VW X 2 [some (vR 19), some (vR 3), some (vI (i3 k))] [] (gM (bgM M k))
    have hsj := sh_jar k hk
    refine v_iload_n (pc := 2) hX rfl d_Se_begin_2 ?_
    refine v_bipush (pc := 3) (v := 6) hX (by decide) d_Se_begin_3 ?_
    refine v_icmp_ge (pc := 5) (tgt := 29) hX d_Se_begin_5 rfl (fun h5 => False.elim (i3_ge_abs hk (by decide) h5)) (fun h5 => ?_)
    refine v_aload_n (pc := 8) hX rfl d_Se_begin_8 ?_
    refine g_getR (pc := 9) hX fl_Se_9 rfl rfl nf_19_0 d_Se_begin_9 ?_
    refine v_iload_n (pc := 12) hX rfl d_Se_begin_12 ?_
    refine v_aload_n (pc := 13) hX rfl d_Se_begin_13 ?_
    refine g_getR (pc := 14) hX fl_Se_45 rfl rfl nf_3_0 d_Se_begin_14 ?_
    refine v_iload_n (pc := 17) hX rfl d_Se_begin_17 ?_
    refine g_aald (pc := 18) (c := 1) hX (by decide) (by decide) rfl (IX.of (by omega) (by decide)) (nf_jar k (by omega)) d_Se_begin_18 ?_
    refine g_getI (pc := 19) hX fl_Se_49 rfl (by assumption) d_Se_begin_19 ?_
    refine g_iast (pc := 22) hX rfl (IX.of hk (by decide)) d_Se_begin_22 ?_
    refine v_iinc (pc := 23) (lo' := [some (vR _), some (vR _), some (vI _)]) hX rfl rfl d_Se_begin_23 ?_
    refine v_goto (pc := 26) (tgt := 2) hX d_Se_begin_26 rfl ?_
    exact VW.cast (by rw [i3_succ]; rfl) rfl (by rw [bgM_s M hk]) ih2
  · show VW X 2 [some (vR 19), some (vR 3), some (vI (i3 (6)))] [] (gM (bgM M (6)))
    refine v_iload_n (pc := 2) hX rfl d_Se_begin_2 ?_
    refine v_bipush (pc := 3) (v := 6) hX (by decide) d_Se_begin_3 ?_
    refine v_icmp_ge (pc := 5) (tgt := 29) hX d_Se_begin_5 rfl (fun h5 => ?_) (fun h5 => False.elim (by revert h5; decide))
    exact f_vret (pc := 29) hX hR (rfl) d_Se_begin_29
theorem d_Se_howMany_0 : decode c_Se_howMany 0 = .ok (.aload_n 0, 1) := by decide +kernel
theorem d_Se_howMany_1 : decode c_Se_howMany 1 = .ok (.aload_n 1, 1) := by decide +kernel
theorem d_Se_howMany_2 : decode c_Se_howMany 2 = .ok (.invokevirtual 18, 3) := by decide +kernel
theorem d_Se_howMany_5 : decode c_Se_howMany 5 = .ok (.aload_n 1, 1) := by decide +kernel
theorem d_Se_howMany_6 : decode c_Se_howMany 6 = .ok (.aload_n 0, 1) := by decide +kernel
theorem d_Se_howMany_7 : decode c_Se_howMany 7 = .ok (.getfield 9, 3) := by decide +kernel
theorem d_Se_howMany_10 : decode c_Se_howMany 10 = .ok (.iconst 0, 1) := by decide +kernel
theorem d_Se_howMany_11 : decode c_Se_howMany 11 = .ok (.invokestatic 22, 3) := by decide +kernel
theorem d_Se_howMany_14 : decode c_Se_howMany 14 = .ok (.ireturn, 1) := by decide +kernel
theorem C_Se_howMany {M : MM} {n nd : Nat} {J B : JT} {hv : Nat → Nat} (hJ : CJ M n J) (hB : CB M nd B) (hH : HV n J hv) : AF y_Se_howMany c_Se_howMany 2 (some .int) 13 [vR 19, vR 3] (M) (some (vI (i3 (mostN (okB J B) n nd nd hv)))) (bgM M 6) := by
  have h4 := hB.1
  have hJ1 : CJ (bgM M 6) n J := hJ.eq (fun a ha i => bgM_ne (by omega))
  have hB1 : CB (bgM M 6) nd B := hB.eq (fun a ha i => bgM_ne (by omega))
  refine AF.of k_Se_howMany (lo := [some (vR 19), some (vR 3)]) rfl (Nat.le_of_ble_eq_true rfl) (fun X hX hR => ?_)
  refine v_aload_n (pc := 0) hX rfl d_Se_howMany_0 ?_
  refine v_aload_n (pc := 1) hX rfl d_Se_howMany_1 ?_
  refine f_callV0 (pc := 2) hX k_Se_begin ki_Se_begin kv_Se_begin ml_Se_18 (C_Se_begin) rfl rfl rfl rfl rfl (Nat.le_of_ble_eq_true rfl) (Nat.le_of_ble_eq_true rfl) (Nat.le_of_ble_eq_true rfl) d_Se_howMany_2 ?_
  refine v_aload_n (pc := 5) hX rfl d_Se_howMany_5 ?_
  refine v_aload_n (pc := 6) hX rfl d_Se_howMany_6 ?_
  refine g_getR (pc := 7) hX fl_Se_9 rfl rfl nf_19_0 d_Se_howMany_7 ?_
  refine v_iconst (pc := 10) (v := 0) hX (by decide) d_Se_howMany_10 ?_
  refine f_callS (pc := 11) hX k_Se_most ks_Se_most ml_Se_22 (C_Se_most_at (b := 0) (by omega) hJ1 hB1 (bgM_LF hJ hH)) rfl rfl rfl (by omega) (Nat.le_of_ble_eq_true rfl) (Nat.le_of_ble_eq_true rfl) d_Se_howMany_11 ?_
  exact f_iret (pc := 14) hX hR (rfl) (rfl) d_Se_howMany_14
-- the first of several
def chs (P : Nat → Bool) : Nat → Nat
  | 0 => 0
  | k + 1 => if chs P k < k then chs P k else if P k = true then k else k + 1
theorem chs_none {P : Nat → Bool} : ∀ {k : Nat}, (∀ i, i < k → P i = false) → chs P k = k := by
  intro k
  induction k with
  | zero => intro _; rfl
  | succ k ih =>
    intro h
    unfold chs
    rw [ih (fun i hi => h i (by omega)), if_neg (by omega), h k (by omega)]
    rfl
theorem chs_eq {P : Nat → Bool} {k n : Nat} (hk : k < n) (hP : P k = true) (h : ∀ i, i < k → P i = false) : chs P n = k := by
  induction n with
  | zero => omega
  | succ n ih =>
    unfold chs
    by_cases e : k = n
    · subst e
      rw [chs_none h, if_neg (by omega), if_pos hP]
    · rw [ih (by omega), if_pos (by omega)]
theorem chs_le (P : Nat → Bool) : ∀ n, chs P n ≤ n
  | 0 => Nat.le_refl _
  | n + 1 => by
    have := chs_le P n
    unfold chs
    split
    · omega
    · split <;> omega
theorem chs_P {P : Nat → Bool} : ∀ {n : Nat}, chs P n < n → P (chs P n) = true := by
  intro n
  induction n with
  | zero => intro h; omega
  | succ n ih =>
    intro h
    have hl := chs_le P n
    unfold chs at h ⊢
    by_cases e : chs P n < n
    · rw [if_pos e]; exact ih e
    · rw [if_neg e] at h ⊢
      by_cases e2 : P n = true
      · rw [if_pos e2]; exact e2
      · rw [if_neg e2] at h; omega
def dkB (J B : JT) (j b : Nat) : Bool := decide (B b 0 ≤ mk J j (B b 1))
def fcP (J B : JT) (n nd b op : Nat) (l : Nat → Nat) (j : Nat) : Bool := decide (0 < l j) && (decide (J j 4 ≤ B b 2) && decide ((if dkB J B j b = true then 1 else 0) + mostN (okB J B) n nd (nd - (b + 1)) (dcr l j) = op))
def ec (n c : Nat) : Int32 := if c < n then i3 c else -9
def fcM (M : MM) (n c : Nat) (l : Nat → Nat) : MM := if c < n then upM M 20 c (i3 (l c - 1)) else M
theorem fc_no1 {J B : JT} {n nd b op j : Nat} {l : Nat → Nat} (h : ¬ 0 < l j) : fcP J B n nd b op l j = false := by simp [fcP, h]
theorem fc_no2 {J B : JT} {n nd b op j : Nat} {l : Nat → Nat} (h : ¬ J j 4 ≤ B b 2) : fcP J B n nd b op l j = false := by simp [fcP, h]
theorem fc_no3 {J B : JT} {n nd b op j x : Nat} {l : Nat → Nat} (hx : (if dkB J B j b = true then 1 else 0) = x) (h : ¬ x + mostN (okB J B) n nd (nd - (b + 1)) (dcr l j) = op) : fcP J B n nd b op l j = false := by simp only [fcP, hx, h]; simp
theorem fc_yes {J B : JT} {n nd b op j x : Nat} {l : Nat → Nat} (h1 : 0 < l j) (h2 : J j 4 ≤ B b 2) (hx : (if dkB J B j b = true then 1 else 0) = x) (h : x + mostN (okB J B) n nd (nd - (b + 1)) (dcr l j) = op) : fcP J B n nd b op l j = true := by simp only [fcP, hx, h, h1, h2]; simp
theorem all_s {P : Nat → Bool} {k : Nat} (h : ∀ i, i < k → P i = false) (hk : P k = false) : ∀ i, i < k + 1 → P i = false := fun i hi => by
  by_cases e : i = k
  · rw [e]; exact hk
  · exact h i (by omega)
theorem d_Se_firstChoice_0 : decode c_Se_firstChoice 0 = .ok (.aload_n 1, 1) := by decide +kernel
theorem d_Se_firstChoice_1 : decode c_Se_firstChoice 1 = .ok (.getfield 52, 3) := by decide +kernel
theorem d_Se_firstChoice_4 : decode c_Se_firstChoice 4 = .ok (.iload_n 2, 1) := by decide +kernel
theorem d_Se_firstChoice_5 : decode c_Se_firstChoice 5 = .ok (.aaload, 1) := by decide +kernel
theorem d_Se_firstChoice_6 : decode c_Se_firstChoice 6 = .ok (.astore 4, 2) := by decide +kernel
theorem d_Se_firstChoice_8 : decode c_Se_firstChoice 8 = .ok (.iconst 0, 1) := by decide +kernel
theorem d_Se_firstChoice_9 : decode c_Se_firstChoice 9 = .ok (.istore 5, 2) := by decide +kernel
theorem d_Se_firstChoice_11 : decode c_Se_firstChoice 11 = .ok (.iload 5, 2) := by decide +kernel
theorem d_Se_firstChoice_13 : decode c_Se_firstChoice 13 = .ok (.aload_n 1, 1) := by decide +kernel
theorem d_Se_firstChoice_14 : decode c_Se_firstChoice 14 = .ok (.getfield 56, 3) := by decide +kernel
theorem d_Se_firstChoice_17 : decode c_Se_firstChoice 17 = .ok (.if_icmp .ge 101, 3) := by decide +kernel
theorem d_Se_firstChoice_20 : decode c_Se_firstChoice 20 = .ok (.aload_n 1, 1) := by decide +kernel
theorem d_Se_firstChoice_21 : decode c_Se_firstChoice 21 = .ok (.getfield 45, 3) := by decide +kernel
theorem d_Se_firstChoice_24 : decode c_Se_firstChoice 24 = .ok (.iload 5, 2) := by decide +kernel
theorem d_Se_firstChoice_26 : decode c_Se_firstChoice 26 = .ok (.aaload, 1) := by decide +kernel
theorem d_Se_firstChoice_27 : decode c_Se_firstChoice 27 = .ok (.astore 6, 2) := by decide +kernel
theorem d_Se_firstChoice_29 : decode c_Se_firstChoice 29 = .ok (.aload_n 0, 1) := by decide +kernel
theorem d_Se_firstChoice_30 : decode c_Se_firstChoice 30 = .ok (.getfield 9, 3) := by decide +kernel
theorem d_Se_firstChoice_33 : decode c_Se_firstChoice 33 = .ok (.iload 5, 2) := by decide +kernel
theorem d_Se_firstChoice_35 : decode c_Se_firstChoice 35 = .ok (.iaload, 1) := by decide +kernel
theorem d_Se_firstChoice_36 : decode c_Se_firstChoice 36 = .ok (.ifCond .le 76, 3) := by decide +kernel
theorem d_Se_firstChoice_39 : decode c_Se_firstChoice 39 = .ok (.aload 6, 2) := by decide +kernel
theorem d_Se_firstChoice_41 : decode c_Se_firstChoice 41 = .ok (.getfield 36, 3) := by decide +kernel
theorem d_Se_firstChoice_44 : decode c_Se_firstChoice 44 = .ok (.aload 4, 2) := by decide +kernel
theorem d_Se_firstChoice_46 : decode c_Se_firstChoice 46 = .ok (.getfield 59, 3) := by decide +kernel
theorem d_Se_firstChoice_49 : decode c_Se_firstChoice 49 = .ok (.if_icmp .gt 63, 3) := by decide +kernel
theorem d_Se_firstChoice_52 : decode c_Se_firstChoice 52 = .ok (.aload 4, 2) := by decide +kernel
theorem d_Se_firstChoice_54 : decode c_Se_firstChoice 54 = .ok (.aload 6, 2) := by decide +kernel
theorem d_Se_firstChoice_56 : decode c_Se_firstChoice 56 = .ok (.invokevirtual 64, 3) := by decide +kernel
theorem d_Se_firstChoice_59 : decode c_Se_firstChoice 59 = .ok (.ifCond .eq 7, 3) := by decide +kernel
theorem d_Se_firstChoice_62 : decode c_Se_firstChoice 62 = .ok (.iconst 1, 1) := by decide +kernel
theorem d_Se_firstChoice_63 : decode c_Se_firstChoice 63 = .ok (.goto 4, 3) := by decide +kernel
theorem d_Se_firstChoice_66 : decode c_Se_firstChoice 66 = .ok (.iconst 0, 1) := by decide +kernel
theorem d_Se_firstChoice_67 : decode c_Se_firstChoice 67 = .ok (.istore 7, 2) := by decide +kernel
theorem d_Se_firstChoice_69 : decode c_Se_firstChoice 69 = .ok (.aload_n 0, 1) := by decide +kernel
theorem d_Se_firstChoice_70 : decode c_Se_firstChoice 70 = .ok (.getfield 9, 3) := by decide +kernel
theorem d_Se_firstChoice_73 : decode c_Se_firstChoice 73 = .ok (.iload 5, 2) := by decide +kernel
theorem d_Se_firstChoice_75 : decode c_Se_firstChoice 75 = .ok (.dup2, 1) := by decide +kernel
theorem d_Se_firstChoice_76 : decode c_Se_firstChoice 76 = .ok (.iaload, 1) := by decide +kernel
theorem d_Se_firstChoice_77 : decode c_Se_firstChoice 77 = .ok (.iconst 1, 1) := by decide +kernel
theorem d_Se_firstChoice_78 : decode c_Se_firstChoice 78 = .ok (.isub, 1) := by decide +kernel
theorem d_Se_firstChoice_79 : decode c_Se_firstChoice 79 = .ok (.iastore, 1) := by decide +kernel
theorem d_Se_firstChoice_80 : decode c_Se_firstChoice 80 = .ok (.iload 7, 2) := by decide +kernel
theorem d_Se_firstChoice_82 : decode c_Se_firstChoice 82 = .ok (.aload_n 1, 1) := by decide +kernel
theorem d_Se_firstChoice_83 : decode c_Se_firstChoice 83 = .ok (.aload_n 0, 1) := by decide +kernel
theorem d_Se_firstChoice_84 : decode c_Se_firstChoice 84 = .ok (.getfield 9, 3) := by decide +kernel
theorem d_Se_firstChoice_87 : decode c_Se_firstChoice 87 = .ok (.iload_n 2, 1) := by decide +kernel
theorem d_Se_firstChoice_88 : decode c_Se_firstChoice 88 = .ok (.iconst 1, 1) := by decide +kernel
theorem d_Se_firstChoice_89 : decode c_Se_firstChoice 89 = .ok (.iadd, 1) := by decide +kernel
theorem d_Se_firstChoice_90 : decode c_Se_firstChoice 90 = .ok (.invokestatic 22, 3) := by decide +kernel
theorem d_Se_firstChoice_93 : decode c_Se_firstChoice 93 = .ok (.iadd, 1) := by decide +kernel
theorem d_Se_firstChoice_94 : decode c_Se_firstChoice 94 = .ok (.iload_n 3, 1) := by decide +kernel
theorem d_Se_firstChoice_95 : decode c_Se_firstChoice 95 = .ok (.if_icmp .ne 6, 3) := by decide +kernel
theorem d_Se_firstChoice_98 : decode c_Se_firstChoice 98 = .ok (.iload 5, 2) := by decide +kernel
theorem d_Se_firstChoice_100 : decode c_Se_firstChoice 100 = .ok (.ireturn, 1) := by decide +kernel
theorem d_Se_firstChoice_101 : decode c_Se_firstChoice 101 = .ok (.aload_n 0, 1) := by decide +kernel
theorem d_Se_firstChoice_102 : decode c_Se_firstChoice 102 = .ok (.getfield 9, 3) := by decide +kernel
theorem d_Se_firstChoice_105 : decode c_Se_firstChoice 105 = .ok (.iload 5, 2) := by decide +kernel
theorem d_Se_firstChoice_107 : decode c_Se_firstChoice 107 = .ok (.dup2, 1) := by decide +kernel
theorem d_Se_firstChoice_108 : decode c_Se_firstChoice 108 = .ok (.iaload, 1) := by decide +kernel
theorem d_Se_firstChoice_109 : decode c_Se_firstChoice 109 = .ok (.iconst 1, 1) := by decide +kernel
theorem d_Se_firstChoice_110 : decode c_Se_firstChoice 110 = .ok (.iadd, 1) := by decide +kernel
theorem d_Se_firstChoice_111 : decode c_Se_firstChoice 111 = .ok (.iastore, 1) := by decide +kernel
theorem d_Se_firstChoice_112 : decode c_Se_firstChoice 112 = .ok (.iinc 5 1, 3) := by decide +kernel
theorem d_Se_firstChoice_115 : decode c_Se_firstChoice 115 = .ok (.goto (-104), 3) := by decide +kernel
theorem d_Se_firstChoice_118 : decode c_Se_firstChoice 118 = .ok (.bipush (-9), 2) := by decide +kernel
theorem d_Se_firstChoice_120 : decode c_Se_firstChoice 120 = .ok (.ireturn, 1) := by decide +kernel
set_option maxHeartbeats 4000000 in
theorem C_Se_firstChoice {M : MM} {n nd b op : Nat} {J B : JT} {l : Nat → Nat} (hJ : CJ M n J) (hB : CB M nd B) (hL : LF M n l) (hb : b < nd) (ho : op ≤ 4) : AF y_Se_firstChoice c_Se_firstChoice 8 (some .int) 13 [vR 19, vR 3, vI (i3 b), vI (i3 op)] (M) (some (vI (ec n (chs (fcP J B n nd b op l) n)))) (fcM M n (chs (fcP J B n nd b op l) n) l) := by
  have h6 := hJ.1
  have hM := hJ.2.1
  have h4 := hB.1
  have hsd := sh_dec b (by omega)
  refine AF.of k_Se_firstChoice (lo := [some (vR 19), some (vR 3), some (vI (i3 b)), some (vI (i3 op)), none, none, none, none]) rfl (Nat.le_of_ble_eq_true rfl) (fun X hX hR => ?_)
  refine v_aload_n (pc := 0) hX rfl d_Se_firstChoice_0 ?_
  refine g_getR (pc := 1) hX fl_Se_52 rfl rfl nf_3_1 d_Se_firstChoice_1 ?_
  refine v_iload_n (pc := 4) hX rfl d_Se_firstChoice_4 ?_
  refine g_aald (pc := 5) (c := 0) hX (by decide) (by decide) rfl (IX.of (by omega) (by decide)) (nf_dec _ (by omega)) d_Se_firstChoice_5 ?_
  refine v_astore (pc := 6) (lo' := [some (vR _), some (vR _), some (vI _), some (vI _), some (vR _), none, none, none]) hX (Nat.le_of_ble_eq_true rfl) rfl d_Se_firstChoice_6 ?_
  refine v_iconst (pc := 8) (v := 0) hX (by decide) d_Se_firstChoice_8 ?_
  refine v_istore (pc := 9) (lo' := [some (vR _), some (vR _), some (vI _), some (vI _), some (vR _), some (vI _), none, none]) hX (Nat.le_of_ble_eq_true rfl) rfl d_Se_firstChoice_9 ?_
  refine VW.cast (lo' := [some (vR 19), some (vR 3), some (vI (i3 b)), some (vI (i3 op)), some (vR (12 + b)), some (vI (i3 0)), none, none]) (st' := []) (G' := gM (M)) rfl rfl rfl ?_
  refine v_forI (X := X) (head := 11) (n) (fun kk => [some (vR 19), some (vR 3), some (vI (i3 b)), some (vI (i3 op)), some (vR (12 + b)), some (vI (i3 kk)), none, none]) (fun kk => M) (fun kk => ∀ i, i < kk → fcP J B n nd b op l i = false) (fun i hi => absurd hi (Nat.not_lt_zero i)) (fun k hk hIk ih11 => ?_) (fun hIk => ?_)
  · show VW X 11 [some (vR 19), some (vR 3), some (vI (i3 b)), some (vI (i3 op)), some (vR (12 + b)), some (vI (i3 k)), none, none] [] (gM (M))
    have hIk : ∀ i, i < k → fcP J B n nd b op l i = false := hIk
    have hsj := sh_jar k (by omega)
    obtain ⟨hl1, hl2⟩ := hL k hk
    have hml := mostN_le (okB J B) n nd (nd - (b + 1)) (dcr l k)
    refine v_iload (pc := 11) hX rfl d_Se_firstChoice_11 ?_
    refine v_aload_n (pc := 13) hX rfl d_Se_firstChoice_13 ?_
    refine g_getI (pc := 14) hX fl_Se_56 rfl rfl d_Se_firstChoice_14 ?_
    refine v_icmp_ge (pc := 17) (tgt := 118) hX d_Se_firstChoice_17 rfl (fun h17 => False.elim (i3_ge_abs hk (by omega) (by rw [← hM]; exact h17))) (fun h17 => ?_)
    refine v_aload_n (pc := 20) hX rfl d_Se_firstChoice_20 ?_
    refine g_getR (pc := 21) hX fl_Se_45 rfl rfl nf_3_0 d_Se_firstChoice_21 ?_
    refine v_iload (pc := 24) hX rfl d_Se_firstChoice_24 ?_
    refine g_aald (pc := 26) (c := 1) hX (by decide) (by decide) rfl (IX.of (by omega) (by decide)) (nf_jar k (by omega)) d_Se_firstChoice_26 ?_
    refine v_astore (pc := 27) (lo' := [some (vR _), some (vR _), some (vI _), some (vI _), some (vR _), some (vI _), some (vR _), none]) hX (Nat.le_of_ble_eq_true rfl) rfl d_Se_firstChoice_27 ?_
    refine v_aload_n (pc := 29) hX rfl d_Se_firstChoice_29 ?_
    refine g_getR (pc := 30) hX fl_Se_9 rfl rfl nf_19_0 d_Se_firstChoice_30 ?_
    refine v_iload (pc := 33) hX rfl d_Se_firstChoice_33 ?_
    refine g_iald (pc := 35) hX rfl (IX.of (n := 6) (by omega) (by decide)) d_Se_firstChoice_35 ?_
    rw [hl1]
    refine v_if_le (pc := 36) (tgt := 112) hX d_Se_firstChoice_36 rfl (fun h36 => ?_) (fun h36 => ?_)
    · have e : fcP J B n nd b op l k = false := fc_no1 (by have := (i3_le (b := 0) (by omega) (by decide)).mp h36; omega)
      refine v_iinc (pc := 112) (lo' := [some (vR _), some (vR _), some (vI _), some (vI _), some (vR _), some (vI _), some (vR _), none]) hX rfl rfl d_Se_firstChoice_112 ?_
      refine v_goto (pc := 115) (tgt := 11) hX d_Se_firstChoice_115 rfl ?_
      refine VW.fg [true, true, true, true, true, true, false, true] ?_
      exact VW.cast (by rw [i3_succ]; rfl) rfl rfl (ih11 (all_s hIk e))
    · have hlp : 0 < l k := Nat.pos_of_ne_zero (fun q => h36 (by rw [q]; exact Int32.le_refl _))
      refine v_aload (pc := 39) hX rfl d_Se_firstChoice_39 ?_
      refine g_getI (pc := 41) hX fl_Se_36 rfl (by assumption) d_Se_firstChoice_41 ?_
      refine v_aload (pc := 44) hX rfl d_Se_firstChoice_44 ?_
      refine g_getI (pc := 46) hX fl_Se_59 rfl (by assumption) d_Se_firstChoice_46 ?_
      rw [hJ.2.2 k hk 4 (by decide), hB.2.2 _ hb 2 (by decide)]
      refine v_icmp_gt (pc := 49) (tgt := 112) hX d_Se_firstChoice_49 rfl (fun h49 => ?_) (fun h49 => ?_)
      · have e : fcP J B n nd b op l k = false := fc_no2 (Int32.not_le.mpr h49)
        refine v_iinc (pc := 112) (lo' := [some (vR _), some (vR _), some (vI _), some (vI _), some (vR _), some (vI _), some (vR _), none]) hX rfl rfl d_Se_firstChoice_112 ?_
        refine v_goto (pc := 115) (tgt := 11) hX d_Se_firstChoice_115 rfl ?_
        refine VW.fg [true, true, true, true, true, true, false, true] ?_
        exact VW.cast (by rw [i3_succ]; rfl) rfl rfl (ih11 (all_s hIk e))
      · refine v_aload (pc := 52) hX rfl d_Se_firstChoice_52 ?_
        refine v_aload (pc := 54) hX rfl d_Se_firstChoice_54 ?_
        refine f_callV (pc := 56) hX k_De_decidesBy ki_De_decidesBy kv_De_decidesBy ml_Se_64 (C_De_decidesBy (by assumption) (by assumption)) (by assumption) rfl rfl rfl rfl (Nat.le_of_ble_eq_true rfl) (Nat.le_of_ble_eq_true rfl) (Nat.le_of_ble_eq_true rfl) d_Se_firstChoice_56 ?_
        rw [hJ.mk hk, hB.2.2 _ hb 0 (by decide), hB.2.2 _ hb 1 (by decide)]
        refine f_ifeqB (pc := 59) (tgt := 66) hX d_Se_firstChoice_59 rfl (fun h59 => ?_) (fun h59 => ?_)
        · have hx : (if dkB J B k b = true then 1 else 0) = 0 := by unfold dkB; rw [h59]; rfl
          have hy : (0 : Int32) = i3 0 := rfl
          refine v_iconst (pc := 66) (v := 0) hX (by decide) d_Se_firstChoice_66 ?_
          refine v_istore (pc := 67) (lo' := [some (vR _), some (vR _), some (vI _), some (vI _), some (vR _), some (vI _), some (vR _), some (vI _)]) hX (Nat.le_of_ble_eq_true rfl) rfl d_Se_firstChoice_67 ?_
          refine v_aload_n (pc := 69) hX rfl d_Se_firstChoice_69 ?_
          refine g_getR (pc := 70) hX fl_Se_9 rfl rfl nf_19_0 d_Se_firstChoice_70 ?_
          refine v_iload (pc := 73) hX rfl d_Se_firstChoice_73 ?_
          refine v_dup2 (pc := 75) hX rfl rfl d_Se_firstChoice_75 ?_
          refine g_iald (pc := 76) hX rfl (IX.of (n := 6) (by omega) (by decide)) d_Se_firstChoice_76 ?_
          refine v_iconst (pc := 77) (v := 1) hX (by decide) d_Se_firstChoice_77 ?_
          refine v_isub (pc := 78) hX d_Se_firstChoice_78 ?_
          rw [hl1, i3_sub1 hlp]
          refine g_iast (pc := 79) hX rfl (IX.of (n := 6) (by omega) (by decide)) d_Se_firstChoice_79 ?_
          refine v_iload (pc := 80) hX rfl d_Se_firstChoice_80 ?_
          refine v_aload_n (pc := 82) hX rfl d_Se_firstChoice_82 ?_
          refine v_aload_n (pc := 83) hX rfl d_Se_firstChoice_83 ?_
          refine g_getR (pc := 84) hX fl_Se_9 rfl rfl nf_19_0 d_Se_firstChoice_84 ?_
          refine v_iload_n (pc := 87) hX rfl d_Se_firstChoice_87 ?_
          refine v_iconst (pc := 88) (v := 1) hX (by decide) d_Se_firstChoice_88 ?_
          refine v_iadd (pc := 89) hX d_Se_firstChoice_89 ?_
          rw [← i3_succ]
          refine f_callS (pc := 90) hX k_Se_most ks_Se_most ml_Se_22 (C_Se_most_at (b := b + 1) (by omega) (hJ.up (by decide)) (hB.up (by decide)) hL.dcr) rfl rfl rfl (by omega) (Nat.le_of_ble_eq_true rfl) (Nat.le_of_ble_eq_true rfl) d_Se_firstChoice_90 ?_
          refine v_iadd (pc := 93) hX d_Se_firstChoice_93 ?_
          refine v_iload_n (pc := 94) hX rfl d_Se_firstChoice_94 ?_
          refine v_icmp_ne (pc := 95) (tgt := 101) hX d_Se_firstChoice_95 rfl (fun h95 => ?_) (fun h95 => ?_)
          · have e : fcP J B n nd b op l k = false := fc_no3 hx (fun q => h95 (by rw [hy, ← i3_add, q]))
            refine v_aload_n (pc := 101) hX rfl d_Se_firstChoice_101 ?_
            refine g_getR (pc := 102) hX fl_Se_9 rfl rfl nf_19_0 d_Se_firstChoice_102 ?_
            refine v_iload (pc := 105) hX rfl d_Se_firstChoice_105 ?_
            refine v_dup2 (pc := 107) hX rfl rfl d_Se_firstChoice_107 ?_
            refine g_iald (pc := 108) hX rfl (IX.of (n := 6) (by omega) (by decide)) d_Se_firstChoice_108 ?_
            refine v_iconst (pc := 109) (v := 1) hX (by decide) d_Se_firstChoice_109 ?_
            refine v_iadd (pc := 110) hX d_Se_firstChoice_110 ?_
            rw [upM_same, i3_back hlp]
            refine g_iast (pc := 111) hX rfl (IX.of (n := 6) (by omega) (by decide)) d_Se_firstChoice_111 ?_
            rw [upM_back hl1]
            refine v_iinc (pc := 112) (lo' := [some (vR _), some (vR _), some (vI _), some (vI _), some (vR _), some (vI _), some (vR _), some (vI _)]) hX rfl rfl d_Se_firstChoice_112 ?_
            refine v_goto (pc := 115) (tgt := 11) hX d_Se_firstChoice_115 rfl ?_
            refine VW.fg [true, true, true, true, true, true, false, false] ?_
            exact VW.cast (by rw [i3_succ]; rfl) rfl rfl (ih11 (all_s hIk e))
          · have e : fcP J B n nd b op l k = true := fc_yes hlp (Int32.not_lt.mp h49) hx ((i3_inj (by omega) (by omega)).mp (by rw [i3_add]; exact h95))
            have ec1 := chs_eq hk e hIk
            refine v_iload (pc := 98) hX rfl d_Se_firstChoice_98 ?_
            exact f_iret (pc := 100) hX hR (by rw [ec1]; unfold ec; rw [if_pos hk]) (by rw [ec1]; unfold fcM; rw [if_pos hk]) d_Se_firstChoice_100
        · have hx : (if dkB J B k b = true then 1 else 0) = 1 := by unfold dkB; rw [h59]; rfl
          have hy : (1 : Int32) = i3 1 := rfl
          refine v_iconst (pc := 62) (v := 1) hX (by decide) d_Se_firstChoice_62 ?_
          refine v_goto (pc := 63) (tgt := 67) hX d_Se_firstChoice_63 rfl ?_
          refine v_istore (pc := 67) (lo' := [some (vR _), some (vR _), some (vI _), some (vI _), some (vR _), some (vI _), some (vR _), some (vI _)]) hX (Nat.le_of_ble_eq_true rfl) rfl d_Se_firstChoice_67 ?_
          refine v_aload_n (pc := 69) hX rfl d_Se_firstChoice_69 ?_
          refine g_getR (pc := 70) hX fl_Se_9 rfl rfl nf_19_0 d_Se_firstChoice_70 ?_
          refine v_iload (pc := 73) hX rfl d_Se_firstChoice_73 ?_
          refine v_dup2 (pc := 75) hX rfl rfl d_Se_firstChoice_75 ?_
          refine g_iald (pc := 76) hX rfl (IX.of (n := 6) (by omega) (by decide)) d_Se_firstChoice_76 ?_
          refine v_iconst (pc := 77) (v := 1) hX (by decide) d_Se_firstChoice_77 ?_
          refine v_isub (pc := 78) hX d_Se_firstChoice_78 ?_
          rw [hl1, i3_sub1 hlp]
          refine g_iast (pc := 79) hX rfl (IX.of (n := 6) (by omega) (by decide)) d_Se_firstChoice_79 ?_
          refine v_iload (pc := 80) hX rfl d_Se_firstChoice_80 ?_
          refine v_aload_n (pc := 82) hX rfl d_Se_firstChoice_82 ?_
          refine v_aload_n (pc := 83) hX rfl d_Se_firstChoice_83 ?_
          refine g_getR (pc := 84) hX fl_Se_9 rfl rfl nf_19_0 d_Se_firstChoice_84 ?_
          refine v_iload_n (pc := 87) hX rfl d_Se_firstChoice_87 ?_
          refine v_iconst (pc := 88) (v := 1) hX (by decide) d_Se_firstChoice_88 ?_
          refine v_iadd (pc := 89) hX d_Se_firstChoice_89 ?_
          rw [← i3_succ]
          refine f_callS (pc := 90) hX k_Se_most ks_Se_most ml_Se_22 (C_Se_most_at (b := b + 1) (by omega) (hJ.up (by decide)) (hB.up (by decide)) hL.dcr) rfl rfl rfl (by omega) (Nat.le_of_ble_eq_true rfl) (Nat.le_of_ble_eq_true rfl) d_Se_firstChoice_90 ?_
          refine v_iadd (pc := 93) hX d_Se_firstChoice_93 ?_
          refine v_iload_n (pc := 94) hX rfl d_Se_firstChoice_94 ?_
          refine v_icmp_ne (pc := 95) (tgt := 101) hX d_Se_firstChoice_95 rfl (fun h95 => ?_) (fun h95 => ?_)
          · have e : fcP J B n nd b op l k = false := fc_no3 hx (fun q => h95 (by rw [hy, ← i3_add, q]))
            refine v_aload_n (pc := 101) hX rfl d_Se_firstChoice_101 ?_
            refine g_getR (pc := 102) hX fl_Se_9 rfl rfl nf_19_0 d_Se_firstChoice_102 ?_
            refine v_iload (pc := 105) hX rfl d_Se_firstChoice_105 ?_
            refine v_dup2 (pc := 107) hX rfl rfl d_Se_firstChoice_107 ?_
            refine g_iald (pc := 108) hX rfl (IX.of (n := 6) (by omega) (by decide)) d_Se_firstChoice_108 ?_
            refine v_iconst (pc := 109) (v := 1) hX (by decide) d_Se_firstChoice_109 ?_
            refine v_iadd (pc := 110) hX d_Se_firstChoice_110 ?_
            rw [upM_same, i3_back hlp]
            refine g_iast (pc := 111) hX rfl (IX.of (n := 6) (by omega) (by decide)) d_Se_firstChoice_111 ?_
            rw [upM_back hl1]
            refine v_iinc (pc := 112) (lo' := [some (vR _), some (vR _), some (vI _), some (vI _), some (vR _), some (vI _), some (vR _), some (vI _)]) hX rfl rfl d_Se_firstChoice_112 ?_
            refine v_goto (pc := 115) (tgt := 11) hX d_Se_firstChoice_115 rfl ?_
            refine VW.fg [true, true, true, true, true, true, false, false] ?_
            exact VW.cast (by rw [i3_succ]; rfl) rfl rfl (ih11 (all_s hIk e))
          · have e : fcP J B n nd b op l k = true := fc_yes hlp (Int32.not_lt.mp h49) hx ((i3_inj (by omega) (by omega)).mp (by rw [i3_add]; exact h95))
            have ec1 := chs_eq hk e hIk
            refine v_iload (pc := 98) hX rfl d_Se_firstChoice_98 ?_
            exact f_iret (pc := 100) hX hR (by rw [ec1]; unfold ec; rw [if_pos hk]) (by rw [ec1]; unfold fcM; rw [if_pos hk]) d_Se_firstChoice_100
  · show VW X 11 [some (vR 19), some (vR 3), some (vI (i3 b)), some (vI (i3 op)), some (vR (12 + b)), some (vI (i3 (n))), none, none] [] (gM (M))
    have hIk : ∀ i, i < (n) → fcP J B n nd b op l i = false := hIk
    refine v_iload (pc := 11) hX rfl d_Se_firstChoice_11 ?_
    refine v_aload_n (pc := 13) hX rfl d_Se_firstChoice_13 ?_
    refine g_getI (pc := 14) hX fl_Se_56 rfl rfl d_Se_firstChoice_14 ?_
    refine v_icmp_ge (pc := 17) (tgt := 118) hX d_Se_firstChoice_17 rfl (fun h17 => ?_) (fun h17 => False.elim (absurd (by rw [hM]; exact Int32.le_refl _) h17))
    refine v_bipush (pc := 118) (v := (-9)) hX (by decide) d_Se_firstChoice_118 ?_
    exact f_iret (pc := 120) hX hR (by rw [chs_none hIk]; unfold ec; rw [if_neg (Nat.lt_irrefl n)]) (by rw [chs_none hIk]; unfold fcM; rw [if_neg (Nat.lt_irrefl n)]) d_Se_firstChoice_120
-- choosing: what is left and how many are open before decider b
def stt (J B : JT) (n nd : Nat) (hv : Nat → Nat) : Nat → (Nat → Nat) × Nat
  | 0 => (hv, mostN (okB J B) n nd nd hv)
  | b + 1 => (if chs (fcP J B n nd b (stt J B n nd hv b).2 (stt J B n nd hv b).1) n < n then dcr (stt J B n nd hv b).1 (chs (fcP J B n nd b (stt J B n nd hv b).2 (stt J B n nd hv b).1) n) else (stt J B n nd hv b).1, (stt J B n nd hv b).2 - (if chs (fcP J B n nd b (stt J B n nd hv b).2 (stt J B n nd hv b).1) n < n ∧ dkB J B (chs (fcP J B n nd b (stt J B n nd hv b).2 (stt J B n nd hv b).1) n) b = true then 1 else 0))
def cho (J B : JT) (n nd : Nat) (hv : Nat → Nat) (b : Nat) : Nat := chs (fcP J B n nd b (stt J B n nd hv b).2 (stt J B n nd hv b).1) n
theorem stt_1 (J B : JT) (n nd : Nat) (hv : Nat → Nat) (b : Nat) : (stt J B n nd hv (b + 1)).1 = if cho J B n nd hv b < n then dcr (stt J B n nd hv b).1 (cho J B n nd hv b) else (stt J B n nd hv b).1 := rfl
theorem stt_2 (J B : JT) (n nd : Nat) (hv : Nat → Nat) (b : Nat) : (stt J B n nd hv (b + 1)).2 = (stt J B n nd hv b).2 - (if cho J B n nd hv b < n ∧ dkB J B (cho J B n nd hv b) b = true then 1 else 0) := rfl
theorem stt_op (J B : JT) (n nd : Nat) (hv : Nat → Nat) (h4 : nd ≤ 4) : ∀ b, (stt J B n nd hv b).2 ≤ 4
  | 0 => Nat.le_trans (mostN_le _ n nd nd hv) h4
  | b + 1 => by rw [stt_2]; have := stt_op J B n nd hv h4 b; omega
theorem stt_l {J B : JT} {n nd : Nat} {hv : Nat → Nat} (h : ∀ j, j < n → hv j ≤ 9) : ∀ b j, j < n → (stt J B n nd hv b).1 j ≤ 9
  | 0, j, hj => h j hj
  | b + 1, j, hj => by
    have := stt_l (J := J) (B := B) (nd := nd) h b j hj
    rw [stt_1]
    split
    · unfold dcr; split <;> omega
    · exact this
def KM (J B : JT) (n nd : Nat) (hv : Nat → Nat) (M : MM) (b : Nat) : MM := fun a i => if a = 20 ∧ i < 6 then (if i < n then i3 ((stt J B n nd hv b).1 i) else M (6 + i) 3) else if a = 21 ∧ i < b then ec n (cho J B n nd hv i) else M a i
theorem KM_ne {J B : JT} {n nd : Nat} {hv : Nat → Nat} {M : MM} {b a i : Nat} (h : a ≠ 20) (h2 : a ≠ 21) : KM J B n nd hv M b a i = M a i := by
  unfold KM; rw [if_neg (fun q => h q.1), if_neg (fun q => h2 q.1)]
theorem KM_0 {J B : JT} {n nd : Nat} {hv : Nat → Nat} {M : MM} (hJ : CJ M n J) (hH : HV n J hv) : KM J B n nd hv M 0 = bgM M 6 := by
  funext a i
  unfold KM bgM
  by_cases e : a = 20 ∧ i < 6
  · rw [if_pos e, if_pos e]
    by_cases e2 : i < n
    · rw [if_pos e2, hJ.2.2 i e2 3 (by decide), (hH i e2).1]; rfl
    · rw [if_neg e2]
  · rw [if_neg e, if_neg e, if_neg (by omega)]
theorem KM_LF {J B : JT} {n nd : Nat} {hv : Nat → Nat} {M : MM} (h6 : n ≤ 6) (hH : HV n J hv) (b : Nat) : LF (KM J B n nd hv M b) n (stt J B n nd hv b).1 := fun j hj => by
  refine ⟨?_, stt_l (fun j hj => (hH j hj).2) b j hj⟩
  unfold KM
  rw [if_pos ⟨rfl, by omega⟩, if_pos hj]
theorem fcM_at {M : MM} {n c : Nat} {l : Nat → Nat} {a i : Nat} : fcM M n c l a i = if c < n ∧ a = 20 ∧ i = c then i3 (l c - 1) else M a i := by
  unfold fcM
  by_cases h : c < n
  · rw [if_pos h]
    unfold upM
    by_cases e : a = 20 ∧ i = c
    · rw [if_pos e, if_pos ⟨h, e⟩]
    · rw [if_neg e, if_neg (fun q => e q.2)]
  · rw [if_neg h, if_neg (fun q => h q.1)]
theorem KM_s {J B : JT} {n nd : Nat} {hv : Nat → Nat} {M : MM} (h6 : n ≤ 6) (b : Nat) : upM (fcM (KM J B n nd hv M b) n (cho J B n nd hv b) (stt J B n nd hv b).1) 21 b (ec n (cho J B n nd hv b)) = KM J B n nd hv M (b + 1) := by
  funext a i
  show (if a = 21 ∧ i = b then ec n (cho J B n nd hv b) else fcM (KM J B n nd hv M b) n (cho J B n nd hv b) (stt J B n nd hv b).1 a i) = _
  rw [fcM_at]
  by_cases h1 : a = 21 ∧ i = b
  · rw [if_pos h1]
    unfold KM
    rw [if_neg (by omega), if_pos (by omega), h1.2]
  · rw [if_neg h1]
    by_cases h2 : cho J B n nd hv b < n ∧ a = 20 ∧ i = cho J B n nd hv b
    · rw [if_pos h2]
      unfold KM
      rw [if_pos (by omega), if_pos (by omega), stt_1, if_pos h2.1]
      unfold dcr
      rw [if_pos h2.2.2, h2.2.2]
    · rw [if_neg h2]
      unfold KM
      by_cases h3 : a = 20 ∧ i < 6
      · rw [if_pos h3, if_pos h3]
        by_cases h4 : i < n
        · rw [if_pos h4, if_pos h4, stt_1]
          by_cases h5 : cho J B n nd hv b < n
          · rw [if_pos h5]
            unfold dcr
            rw [if_neg (fun q => h2 ⟨h5, h3.1, q⟩)]
          · rw [if_neg h5]
        · rw [if_neg h4, if_neg h4]
      · rw [if_neg h3, if_neg h3]
        by_cases h7 : a = 21 ∧ i < b
        · rw [if_pos h7, if_pos (by omega)]
        · rw [if_neg h7, if_neg (by omega)]
theorem cho_op {J B : JT} {n nd b : Nat} {hv : Nat → Nat} (h : cho J B n nd hv b < n) (hd : dkB J B (cho J B n nd hv b) b = true) : 0 < (stt J B n nd hv b).2 := by
  have := chs_P h
  simp only [fcP, Bool.and_eq_true, decide_eq_true_eq] at this
  have h3 := this.2.2
  have e : chs (fcP J B n nd b (stt J B n nd hv b).snd (stt J B n nd hv b).fst) n = cho J B n nd hv b := rfl
  rw [e, hd] at h3
  simp only [if_true] at h3
  omega
theorem d_Se_choose_0 : decode c_Se_choose 0 = .ok (.aload_n 0, 1) := by decide +kernel
theorem d_Se_choose_1 : decode c_Se_choose 1 = .ok (.aload_n 1, 1) := by decide +kernel
theorem d_Se_choose_2 : decode c_Se_choose 2 = .ok (.invokevirtual 41, 3) := by decide +kernel
theorem d_Se_choose_5 : decode c_Se_choose 5 = .ok (.istore_n 2, 1) := by decide +kernel
theorem d_Se_choose_6 : decode c_Se_choose 6 = .ok (.iconst 0, 1) := by decide +kernel
theorem d_Se_choose_7 : decode c_Se_choose 7 = .ok (.istore_n 3, 1) := by decide +kernel
theorem d_Se_choose_8 : decode c_Se_choose 8 = .ok (.iload_n 3, 1) := by decide +kernel
theorem d_Se_choose_9 : decode c_Se_choose 9 = .ok (.aload_n 1, 1) := by decide +kernel
theorem d_Se_choose_10 : decode c_Se_choose 10 = .ok (.getfield 26, 3) := by decide +kernel
theorem d_Se_choose_13 : decode c_Se_choose 13 = .ok (.if_icmp .ge 61, 3) := by decide +kernel
theorem d_Se_choose_16 : decode c_Se_choose 16 = .ok (.aload_n 0, 1) := by decide +kernel
theorem d_Se_choose_17 : decode c_Se_choose 17 = .ok (.getfield 15, 3) := by decide +kernel
theorem d_Se_choose_20 : decode c_Se_choose 20 = .ok (.iload_n 3, 1) := by decide +kernel
theorem d_Se_choose_21 : decode c_Se_choose 21 = .ok (.aload_n 0, 1) := by decide +kernel
theorem d_Se_choose_22 : decode c_Se_choose 22 = .ok (.aload_n 1, 1) := by decide +kernel
theorem d_Se_choose_23 : decode c_Se_choose 23 = .ok (.iload_n 3, 1) := by decide +kernel
theorem d_Se_choose_24 : decode c_Se_choose 24 = .ok (.iload_n 2, 1) := by decide +kernel
theorem d_Se_choose_25 : decode c_Se_choose 25 = .ok (.invokevirtual 74, 3) := by decide +kernel
theorem d_Se_choose_28 : decode c_Se_choose 28 = .ok (.iastore, 1) := by decide +kernel
theorem d_Se_choose_29 : decode c_Se_choose 29 = .ok (.aload_n 1, 1) := by decide +kernel
theorem d_Se_choose_30 : decode c_Se_choose 30 = .ok (.aload_n 0, 1) := by decide +kernel
theorem d_Se_choose_31 : decode c_Se_choose 31 = .ok (.getfield 15, 3) := by decide +kernel
theorem d_Se_choose_34 : decode c_Se_choose 34 = .ok (.iload_n 3, 1) := by decide +kernel
theorem d_Se_choose_35 : decode c_Se_choose 35 = .ok (.iaload, 1) := by decide +kernel
theorem d_Se_choose_36 : decode c_Se_choose 36 = .ok (.invokevirtual 78, 3) := by decide +kernel
theorem d_Se_choose_39 : decode c_Se_choose 39 = .ok (.astore 4, 2) := by decide +kernel
theorem d_Se_choose_41 : decode c_Se_choose 41 = .ok (.iload_n 2, 1) := by decide +kernel
theorem d_Se_choose_42 : decode c_Se_choose 42 = .ok (.aload 4, 2) := by decide +kernel
theorem d_Se_choose_44 : decode c_Se_choose 44 = .ok (.ifnull 21, 3) := by decide +kernel
theorem d_Se_choose_47 : decode c_Se_choose 47 = .ok (.aload_n 1, 1) := by decide +kernel
theorem d_Se_choose_48 : decode c_Se_choose 48 = .ok (.getfield 52, 3) := by decide +kernel
theorem d_Se_choose_51 : decode c_Se_choose 51 = .ok (.iload_n 3, 1) := by decide +kernel
theorem d_Se_choose_52 : decode c_Se_choose 52 = .ok (.aaload, 1) := by decide +kernel
theorem d_Se_choose_53 : decode c_Se_choose 53 = .ok (.aload 4, 2) := by decide +kernel
theorem d_Se_choose_55 : decode c_Se_choose 55 = .ok (.invokevirtual 64, 3) := by decide +kernel
theorem d_Se_choose_58 : decode c_Se_choose 58 = .ok (.ifCond .eq 7, 3) := by decide +kernel
theorem d_Se_choose_61 : decode c_Se_choose 61 = .ok (.iconst 1, 1) := by decide +kernel
theorem d_Se_choose_62 : decode c_Se_choose 62 = .ok (.goto 4, 3) := by decide +kernel
theorem d_Se_choose_65 : decode c_Se_choose 65 = .ok (.iconst 0, 1) := by decide +kernel
theorem d_Se_choose_66 : decode c_Se_choose 66 = .ok (.isub, 1) := by decide +kernel
theorem d_Se_choose_67 : decode c_Se_choose 67 = .ok (.istore_n 2, 1) := by decide +kernel
theorem d_Se_choose_68 : decode c_Se_choose 68 = .ok (.iinc 3 1, 3) := by decide +kernel
theorem d_Se_choose_71 : decode c_Se_choose 71 = .ok (.goto (-63), 3) := by decide +kernel
theorem d_Se_choose_74 : decode c_Se_choose 74 = .ok (.return_, 1) := by decide +kernel
set_option maxHeartbeats 4000000 in
theorem C_Se_choose {M : MM} {n nd : Nat} {J B : JT} {hv : Nat → Nat} (hJ : CJ M n J) (hB : CB M nd B) (hH : HV n J hv) : AF y_Se_choose c_Se_choose 5 none 14 [vR 19, vR 3] (M) (none) (KM J B n nd hv M nd) := by
  have h6 := hJ.1
  have hM := hJ.2.1
  have h4 := hB.1
  have hM3 := hB.2.1
  refine AF.of k_Se_choose (lo := [some (vR 19), some (vR 3), none, none, none]) rfl (Nat.le_of_ble_eq_true rfl) (fun X hX hR => ?_)
  refine v_aload_n (pc := 0) hX rfl d_Se_choose_0 ?_
  refine v_aload_n (pc := 1) hX rfl d_Se_choose_1 ?_
  refine f_callV (pc := 2) hX k_Se_howMany ki_Se_howMany kv_Se_howMany ml_Se_41 (C_Se_howMany hJ hB hH) rfl rfl rfl rfl rfl (Nat.le_of_ble_eq_true rfl) (Nat.le_of_ble_eq_true rfl) (Nat.le_of_ble_eq_true rfl) d_Se_choose_2 ?_
  refine v_istore_n (pc := 5) (lo' := [some (vR _), some (vR _), some (vI _), none, none]) hX (Nat.le_of_ble_eq_true rfl) rfl d_Se_choose_5 ?_
  refine v_iconst (pc := 6) (v := 0) hX (by decide) d_Se_choose_6 ?_
  refine v_istore_n (pc := 7) (lo' := [some (vR _), some (vR _), some (vI _), some (vI _), none]) hX (Nat.le_of_ble_eq_true rfl) rfl d_Se_choose_7 ?_
  refine VW.cast (lo' := [some (vR 19), some (vR 3), some (vI (i3 (stt J B n nd hv 0).2)), some (vI (i3 0)), none]) (st' := []) (G' := gM (KM J B n nd hv M 0)) rfl rfl (by rw [KM_0 hJ hH]) ?_
  refine v_for (X := X) (head := 8) (nd) (fun kk => [some (vR 19), some (vR 3), some (vI (i3 (stt J B n nd hv kk).2)), some (vI (i3 kk)), none]) (fun kk => KM J B n nd hv M kk) (fun k hk ih8 => ?_) ?_
  · show VW X 8 [some (vR 19), some (vR 3), some (vI (i3 (stt J B n nd hv k).2)), some (vI (i3 k)), none] [] (gM (KM J B n nd hv M k))
    have hJ1 : CJ (KM J B n nd hv M k) n J := hJ.eq (fun a ha i => KM_ne (by omega) (by omega))
    have hB1 : CB (KM J B n nd hv M k) nd B := hB.eq (fun a ha i => KM_ne (by omega) (by omega))
    have hop := stt_op J B n nd hv h4 k
    have hsd := sh_dec k (by omega)
    have hJ2 : CJ (KM J B n nd hv M (k + 1)) n J := hJ.eq (fun a ha i => KM_ne (by omega) (by omega))
    have hB2 : CB (KM J B n nd hv M (k + 1)) nd B := hB.eq (fun a ha i => KM_ne (by omega) (by omega))
    have hck : KM J B n nd hv M (k + 1) 21 k = ec n (cho J B n nd hv k) := by
      unfold KM
      rw [if_neg (by omega), if_pos ⟨rfl, by omega⟩]
    by_cases hcase : cho J B n nd hv k < n
    · have hec : ec n (cho J B n nd hv k) = i3 (cho J B n nd hv k) := by unfold ec; rw [if_pos hcase]
      have hsj := sh_jar (cho J B n nd hv k) (by omega)
      refine v_iload_n (pc := 8) hX rfl d_Se_choose_8 ?_
      refine v_aload_n (pc := 9) hX rfl d_Se_choose_9 ?_
      refine g_getI (pc := 10) hX fl_Se_26 rfl rfl d_Se_choose_10 ?_
      refine v_icmp_ge (pc := 13) (tgt := 74) hX d_Se_choose_13 rfl (fun h13 => False.elim (i3_ge_abs hk (by omega) (by rw [← hM3, ← hB1.2.1.trans hM3.symm]; exact h13))) (fun h13 => ?_)
      refine v_aload_n (pc := 16) hX rfl d_Se_choose_16 ?_
      refine g_getR (pc := 17) hX fl_Se_15 rfl rfl nf_19_1 d_Se_choose_17 ?_
      refine v_iload_n (pc := 20) hX rfl d_Se_choose_20 ?_
      refine v_aload_n (pc := 21) hX rfl d_Se_choose_21 ?_
      refine v_aload_n (pc := 22) hX rfl d_Se_choose_22 ?_
      refine v_iload_n (pc := 23) hX rfl d_Se_choose_23 ?_
      refine v_iload_n (pc := 24) hX rfl d_Se_choose_24 ?_
      refine f_callV (pc := 25) hX k_Se_firstChoice ki_Se_firstChoice kv_Se_firstChoice ml_Se_74 (C_Se_firstChoice hJ1 hB1 (KM_LF h6 hH k) hk hop) rfl rfl rfl rfl rfl (Nat.le_of_ble_eq_true rfl) (Nat.le_of_ble_eq_true rfl) (Nat.le_of_ble_eq_true rfl) d_Se_choose_25 ?_
      refine g_iast (pc := 28) hX rfl (IX.of (n := 4) (by omega) (by decide)) d_Se_choose_28 ?_
      rw [show chs (fcP J B n nd k (stt J B n nd hv k).2 (stt J B n nd hv k).1) n = cho J B n nd hv k from rfl, KM_s h6 k]
      refine v_aload_n (pc := 29) hX rfl d_Se_choose_29 ?_
      refine v_aload_n (pc := 30) hX rfl d_Se_choose_30 ?_
      refine g_getR (pc := 31) hX fl_Se_15 rfl rfl nf_19_1 d_Se_choose_31 ?_
      refine v_iload_n (pc := 34) hX rfl d_Se_choose_34 ?_
      refine g_iald (pc := 35) hX rfl (IX.of (n := 4) (by omega) (by decide)) d_Se_choose_35 ?_
      rw [hck, hec]
      refine f_callV (pc := 36) hX k_Sp_jarAt ki_Sp_jarAt kv_Sp_jarAt ml_Se_78 (C_Sp_jarAt_in h6 hJ2.2.1 hcase) rfl rfl rfl rfl rfl (Nat.le_of_ble_eq_true rfl) (Nat.le_of_ble_eq_true rfl) (Nat.le_of_ble_eq_true rfl) d_Se_choose_36 ?_
      refine v_astore (pc := 39) (lo' := [some (vR _), some (vR _), some (vI _), some (vI _), some (vR _)]) hX (Nat.le_of_ble_eq_true rfl) rfl d_Se_choose_39 ?_
      refine v_iload_n (pc := 41) hX rfl d_Se_choose_41 ?_
      refine v_aload (pc := 42) hX rfl d_Se_choose_42 ?_
      refine v_ifnull (pc := 44) (tgt := 65) hX d_Se_choose_44 rfl (fun h44 => False.elim (by have := sh_two (by assumption); omega)) (fun h44 => ?_)
      refine v_aload_n (pc := 47) hX rfl d_Se_choose_47 ?_
      refine g_getR (pc := 48) hX fl_Se_52 rfl rfl nf_3_1 d_Se_choose_48 ?_
      refine v_iload_n (pc := 51) hX rfl d_Se_choose_51 ?_
      refine g_aald (pc := 52) (c := 0) hX (by decide) (by decide) rfl (IX.of (by omega) (by decide)) (nf_dec _ (by omega)) d_Se_choose_52 ?_
      refine v_aload (pc := 53) hX rfl d_Se_choose_53 ?_
      refine f_callV (pc := 55) hX k_De_decidesBy ki_De_decidesBy kv_De_decidesBy ml_Se_64 (C_De_decidesBy (by assumption) (by assumption)) (by assumption) rfl rfl rfl rfl (Nat.le_of_ble_eq_true rfl) (Nat.le_of_ble_eq_true rfl) (Nat.le_of_ble_eq_true rfl) d_Se_choose_55 ?_
      rw [hJ2.mk hcase, hB2.2.2 _ hk 0 (by decide), hB2.2.2 _ hk 1 (by decide)]
      refine f_ifeqB (pc := 58) (tgt := 65) hX d_Se_choose_58 rfl (fun h58 => ?_) (fun h58 => ?_)
      · have hd : dkB J B (cho J B n nd hv k) k = false := h58
        have e : (stt J B n nd hv (k + 1)).2 = (stt J B n nd hv k).2 := by rw [stt_2, if_neg (by rw [hd]; simp)]; rfl
        refine v_iconst (pc := 65) (v := 0) hX (by decide) d_Se_choose_65 ?_
        refine v_isub (pc := 66) hX d_Se_choose_66 ?_
        refine v_istore_n (pc := 67) (lo' := [some (vR _), some (vR _), some (vI _), some (vI _), some (vR _)]) hX (Nat.le_of_ble_eq_true rfl) rfl d_Se_choose_67 ?_
        refine v_iinc (pc := 68) (lo' := [some (vR _), some (vR _), some (vI _), some (vI _), some (vR _)]) hX rfl rfl d_Se_choose_68 ?_
        refine v_goto (pc := 71) (tgt := 8) hX d_Se_choose_71 rfl ?_
        refine VW.fg [true, true, true, true, false] ?_
        exact VW.cast (by first | (rw [e, i3_succ, Int32.sub_zero]; rfl) | (rw [e, i3_succ, ← i3_sub1 hp]; rfl)) rfl rfl ih8
      · have hd : dkB J B (cho J B n nd hv k) k = true := h58
        have hp := cho_op hcase hd
        have e : (stt J B n nd hv (k + 1)).2 = (stt J B n nd hv k).2 - 1 := by rw [stt_2, if_pos ⟨hcase, hd⟩]
        refine v_iconst (pc := 61) (v := 1) hX (by decide) d_Se_choose_61 ?_
        refine v_goto (pc := 62) (tgt := 66) hX d_Se_choose_62 rfl ?_
        refine v_isub (pc := 66) hX d_Se_choose_66 ?_
        refine v_istore_n (pc := 67) (lo' := [some (vR _), some (vR _), some (vI _), some (vI _), some (vR _)]) hX (Nat.le_of_ble_eq_true rfl) rfl d_Se_choose_67 ?_
        refine v_iinc (pc := 68) (lo' := [some (vR _), some (vR _), some (vI _), some (vI _), some (vR _)]) hX rfl rfl d_Se_choose_68 ?_
        refine v_goto (pc := 71) (tgt := 8) hX d_Se_choose_71 rfl ?_
        refine VW.fg [true, true, true, true, false] ?_
        exact VW.cast (by first | (rw [e, i3_succ, Int32.sub_zero]; rfl) | (rw [e, i3_succ, ← i3_sub1 hp]; rfl)) rfl rfl ih8
    · have hec : ec n (cho J B n nd hv k) = -9 := by unfold ec; rw [if_neg hcase]
      have e : (stt J B n nd hv (k + 1)).2 = (stt J B n nd hv k).2 := by rw [stt_2, if_neg (fun q => hcase q.1)]; rfl
      refine v_iload_n (pc := 8) hX rfl d_Se_choose_8 ?_
      refine v_aload_n (pc := 9) hX rfl d_Se_choose_9 ?_
      refine g_getI (pc := 10) hX fl_Se_26 rfl rfl d_Se_choose_10 ?_
      refine v_icmp_ge (pc := 13) (tgt := 74) hX d_Se_choose_13 rfl (fun h13 => False.elim (i3_ge_abs hk (by omega) (by rw [← hM3, ← hB1.2.1.trans hM3.symm]; exact h13))) (fun h13 => ?_)
      refine v_aload_n (pc := 16) hX rfl d_Se_choose_16 ?_
      refine g_getR (pc := 17) hX fl_Se_15 rfl rfl nf_19_1 d_Se_choose_17 ?_
      refine v_iload_n (pc := 20) hX rfl d_Se_choose_20 ?_
      refine v_aload_n (pc := 21) hX rfl d_Se_choose_21 ?_
      refine v_aload_n (pc := 22) hX rfl d_Se_choose_22 ?_
      refine v_iload_n (pc := 23) hX rfl d_Se_choose_23 ?_
      refine v_iload_n (pc := 24) hX rfl d_Se_choose_24 ?_
      refine f_callV (pc := 25) hX k_Se_firstChoice ki_Se_firstChoice kv_Se_firstChoice ml_Se_74 (C_Se_firstChoice hJ1 hB1 (KM_LF h6 hH k) hk hop) rfl rfl rfl rfl rfl (Nat.le_of_ble_eq_true rfl) (Nat.le_of_ble_eq_true rfl) (Nat.le_of_ble_eq_true rfl) d_Se_choose_25 ?_
      refine g_iast (pc := 28) hX rfl (IX.of (n := 4) (by omega) (by decide)) d_Se_choose_28 ?_
      rw [show chs (fcP J B n nd k (stt J B n nd hv k).2 (stt J B n nd hv k).1) n = cho J B n nd hv k from rfl, KM_s h6 k]
      refine v_aload_n (pc := 29) hX rfl d_Se_choose_29 ?_
      refine v_aload_n (pc := 30) hX rfl d_Se_choose_30 ?_
      refine g_getR (pc := 31) hX fl_Se_15 rfl rfl nf_19_1 d_Se_choose_31 ?_
      refine v_iload_n (pc := 34) hX rfl d_Se_choose_34 ?_
      refine g_iald (pc := 35) hX rfl (IX.of (n := 4) (by omega) (by decide)) d_Se_choose_35 ?_
      rw [hck, hec]
      refine f_callV (pc := 36) hX k_Sp_jarAt ki_Sp_jarAt kv_Sp_jarAt ml_Se_78 (C_Sp_jarAt_out h6 hJ2.2.1 (rg_false.mpr (by rw [q_m9]; omega))) rfl rfl rfl rfl rfl (Nat.le_of_ble_eq_true rfl) (Nat.le_of_ble_eq_true rfl) (Nat.le_of_ble_eq_true rfl) d_Se_choose_36 ?_
      refine v_astore (pc := 39) (lo' := [some (vR _), some (vR _), some (vI _), some (vI _), some (vR _)]) hX (Nat.le_of_ble_eq_true rfl) rfl d_Se_choose_39 ?_
      refine v_iload_n (pc := 41) hX rfl d_Se_choose_41 ?_
      refine v_aload (pc := 42) hX rfl d_Se_choose_42 ?_
      refine v_ifnull (pc := 44) (tgt := 65) hX d_Se_choose_44 rfl (fun h44 => ?_) (fun h44 => False.elim (by revert h44; decide))
      refine v_iconst (pc := 65) (v := 0) hX (by decide) d_Se_choose_65 ?_
      refine v_isub (pc := 66) hX d_Se_choose_66 ?_
      refine v_istore_n (pc := 67) (lo' := [some (vR _), some (vR _), some (vI _), some (vI _), some (vR _)]) hX (Nat.le_of_ble_eq_true rfl) rfl d_Se_choose_67 ?_
      refine v_iinc (pc := 68) (lo' := [some (vR _), some (vR _), some (vI _), some (vI _), some (vR _)]) hX rfl rfl d_Se_choose_68 ?_
      refine v_goto (pc := 71) (tgt := 8) hX d_Se_choose_71 rfl ?_
      refine VW.fg [true, true, true, true, false] ?_
      exact VW.cast (by first | (rw [e, i3_succ, Int32.sub_zero]; rfl) | (rw [e, i3_succ, ← i3_sub1 hp]; rfl)) rfl rfl ih8
  · show VW X 8 [some (vR 19), some (vR 3), some (vI (i3 (stt J B n nd hv (nd)).2)), some (vI (i3 (nd))), none] [] (gM (KM J B n nd hv M (nd)))
    refine v_iload_n (pc := 8) hX rfl d_Se_choose_8 ?_
    refine v_aload_n (pc := 9) hX rfl d_Se_choose_9 ?_
    refine g_getI (pc := 10) hX fl_Se_26 rfl rfl d_Se_choose_10 ?_
    refine v_icmp_ge (pc := 13) (tgt := 74) hX d_Se_choose_13 rfl (fun h13 => ?_) (fun h13 => False.elim (absurd (by rw [KM_ne (by decide) (by decide), hM3]; exact Int32.le_refl _) h13))
    exact f_vret (pc := 74) hX hR (rfl) d_Se_choose_74
