/-! Blends. -/
-- folds that the answers are made of
def allB (f : Nat → Bool) : Nat → Bool
  | 0 => true
  | k + 1 => allB f k && f k
theorem allB_no {f : Nat → Bool} {k n : Nat} (hk : k < n) (h : f k = false) : allB f n = false := by
  induction n with
  | zero => omega
  | succ n ih =>
    show (allB f n && f n) = false
    by_cases e : k = n
    · subst e; rw [h]; simp
    · rw [ih (by omega)]; rfl
theorem allB_s {f : Nat → Bool} {k : Nat} (h : allB f k = true) (h2 : f k = true) : allB f (k + 1) = true := by
  show (allB f k && f k) = true
  rw [h, h2]; rfl
def hrun (f : Nat → Int32) (v : Int32) : Nat → Int32
  | 0 => 0
  | k + 1 => if v ≤ f k then hrun f v k + 1 else 0
def hmost (f : Nat → Int32) (v : Int32) : Nat → Int32
  | 0 => 0
  | k + 1 => if hmost f v k < hrun f v (k + 1) then hrun f v (k + 1) else hmost f v k
theorem hrun_ge {f : Nat → Int32} {v : Int32} {k : Nat} (h : v ≤ f k) : hrun f v (k + 1) = hrun f v k + 1 := if_pos h
theorem hrun_lt {f : Nat → Int32} {v : Int32} {k : Nat} (h : f k < v) : hrun f v (k + 1) = 0 := if_neg (Int32.not_le.mpr h)
def dcB (J : JT) (nd wh : Int32) (n s : Nat) : Bool := decide (nd ≤ blN J n s wh)
theorem set_end {n : Nat} : i3 (2 ^ n) ≤ i3 (2 ^ n - 1 + 1) := by rw [Nat.sub_add_cancel Nat.one_le_two_pow]; exact Int32.le_refl _
def sb (s t : Nat) : Bool := Nat.land s t == s
theorem sb_i3 : ∀ s, s < 64 → ∀ t, t < 64 → decide ((i3 s &&& (i3 t ^^^ (-1))) = 0) = sb s t := by decide +kernel
theorem sb_t {s t : Nat} (hs : s < 64) (ht : t < 64) (h : (i3 s &&& (i3 t ^^^ (-1))) = 0) : sb s t = true := by rw [← sb_i3 s hs t ht]; exact decide_eq_true h
theorem sb_f {s t : Nat} (hs : s < 64) (ht : t < 64) (h : ¬ (i3 s &&& (i3 t ^^^ (-1))) = 0) : sb s t = false := by rw [← sb_i3 s hs t ht]; exact decide_eq_false h
/-- no set, or one, as the answers tell it -/
def en (s : Nat) : Int32 := if s = 0 then -9 else i3 s
theorem en_0 : en 0 = -9 := rfl
theorem en_p {s : Nat} (h : s ≠ 0) : en s = i3 s := by unfold en; rw [if_neg h]
theorem en_none {s : Nat} (h : s < 64) : en s = -9 ↔ s = 0 := by
  constructor
  · intro q
    by_cases e : s = 0
    · exact e
    · rw [en_p e] at q
      have := congrArg Int32.toInt q
      rw [i3_int (by omega), q_m9] at this
      omega
  · intro q; rw [q]; rfl
def chC (J : JT) (nd wh pu : Int32) (n st s b : Nat) : Bool := sb s st && (decide (pcB J s n ≤ pu) && (dcB J nd wh n s && (decide (b = 0) || (decide (pcB J s n < pcB J b n) || (decide (pcB J s n = pcB J b n) && decide (pop 6 s < pop 6 b))))))
def ch (J : JT) (nd wh pu : Int32) (n st : Nat) : Nat → Nat
  | 0 => 0
  | k + 1 => if chC J nd wh pu n st (k + 1) (ch J nd wh pu n st k) = true then k + 1 else ch J nd wh pu n st k
theorem ch_le (J : JT) (nd wh pu : Int32) (n st : Nat) : ∀ k, ch J nd wh pu n st k ≤ k
  | 0 => Nat.le_refl _
  | k + 1 => by
    have := ch_le J nd wh pu n st k
    unfold ch
    split <;> omega
def chP (J : JT) (n b : Nat) : Int32 := if b = 0 then 0 else pcB J b n
theorem chP_p {J : JT} {n b : Nat} (h : b ≠ 0) : chP J n b = pcB J b n := by unfold chP; rw [if_neg h]
def smB (J : JT) (n s s2 : Nat) : Bool := allB (fun t => decide (blN J n s (i3 t) = blN J n s2 (i3 t))) 10
def alC (J : JT) (n j s b : Nat) : Bool := (decide (b = 0) || decide (pop 6 s < pop 6 b)) && (decide (bt s j = 0) && smB J n s (2 ^ j))
def al (J : JT) (n j : Nat) : Nat → Nat
  | 0 => 0
  | k + 1 => if alC J n j (k + 1) (al J n j k) = true then k + 1 else al J n j k
theorem al_le (J : JT) (n j : Nat) : ∀ k, al J n j k ≤ k
  | 0 => Nat.le_refl _
  | k + 1 => by
    have := al_le J n j k
    unfold al
    split <;> omega
def cntB (f : Nat → Bool) : Nat → Nat
  | 0 => 0
  | k + 1 => cntB f k + (if f (k + 1) = true then 1 else 0)
theorem cntB_le (f : Nat → Bool) : ∀ k, cntB f k ≤ k
  | 0 => Nat.le_refl _
  | k + 1 => by
    have := cntB_le f k
    unfold cntB
    split <;> omega
def gdv (u l : Nat) : Nat → Nat
  | 0 => 1
  | d + 1 => if d = 0 then 1 else if u % (d + 1) = 0 ∧ l % (d + 1) = 0 then d + 1 else gdv u l d
theorem gdv_gcd : ∀ u, u < 64 → ∀ l, l < 64 → l ≠ 0 → gdv u l l = Nat.gcd u l := by decide +kernel
theorem rem_i3 : ∀ u, u < 64 → ∀ d, d < 64 → d ≠ 0 → i3 u - i3 u / i3 d * i3 d = i3 (u % d) := by decide +kernel
theorem pop_lt {s : Nat} (h : s < 64) : pop 6 s < 1000 := by have := pop_le s 6; omega
def hmB (J : JT) (n s : Nat) (q : Nat → Int32) (m : Nat) : Bool := allB (fun t => decide (blN J n s (i3 t) = q t)) m
def gjN (f : Nat → Bool) : Nat → Nat
  | 0 => 0
  | k + 1 => gjN f k + (if f k = true then 2 ^ k else 0)
theorem gjN_lt (f : Nat → Bool) : ∀ k, gjN f k < 2 ^ k
  | 0 => Nat.zero_lt_one
  | k + 1 => by
    have := gjN_lt f k
    show gjN f k + _ < _
    rw [Nat.pow_succ]
    split <;> omega
def fstB (f : Nat → Bool) : Nat → Nat
  | 0 => 0
  | k + 1 => if fstB f k ≠ 0 then fstB f k else if f (k + 1) = true then k + 1 else 0
theorem fstB_hit {f : Nat → Bool} {k n : Nat} (h : fstB f k = 0) (hf : f (k + 1) = true) (hn : k < n) : fstB f n = k + 1 := by
  induction n with
  | zero => omega
  | succ n ih =>
    by_cases e : k = n
    · subst e; unfold fstB; rw [if_neg (by omega), if_pos hf]
    · have := ih (by omega)
      unfold fstB; rw [if_pos (by omega)]; exact this
theorem fstB_no {f : Nat → Bool} {k : Nat} (h : fstB f k = 0) (hf : f (k + 1) = false) : fstB f (k + 1) = 0 := by
  unfold fstB; rw [if_neg (by omega), hf]; rfl
theorem d_Bl_longest_0 : decode c_Bl_longest 0 = .ok (.iconst 0, 1) := by decide +kernel
theorem d_Bl_longest_1 : decode c_Bl_longest 1 = .ok (.istore_n 3, 1) := by decide +kernel
theorem d_Bl_longest_2 : decode c_Bl_longest 2 = .ok (.iconst 0, 1) := by decide +kernel
theorem d_Bl_longest_3 : decode c_Bl_longest 3 = .ok (.istore 4, 2) := by decide +kernel
theorem d_Bl_longest_5 : decode c_Bl_longest 5 = .ok (.iconst 0, 1) := by decide +kernel
theorem d_Bl_longest_6 : decode c_Bl_longest 6 = .ok (.istore 5, 2) := by decide +kernel
theorem d_Bl_longest_8 : decode c_Bl_longest 8 = .ok (.iload 5, 2) := by decide +kernel
theorem d_Bl_longest_10 : decode c_Bl_longest 10 = .ok (.bipush 10, 2) := by decide +kernel
theorem d_Bl_longest_12 : decode c_Bl_longest 12 = .ok (.if_icmp .ge 37, 3) := by decide +kernel
theorem d_Bl_longest_15 : decode c_Bl_longest 15 = .ok (.aload_n 0, 1) := by decide +kernel
theorem d_Bl_longest_16 : decode c_Bl_longest 16 = .ok (.iload_n 1, 1) := by decide +kernel
theorem d_Bl_longest_17 : decode c_Bl_longest 17 = .ok (.iload 5, 2) := by decide +kernel
theorem d_Bl_longest_19 : decode c_Bl_longest 19 = .ok (.invokevirtual 9, 3) := by decide +kernel
theorem d_Bl_longest_22 : decode c_Bl_longest 22 = .ok (.iload_n 2, 1) := by decide +kernel
theorem d_Bl_longest_23 : decode c_Bl_longest 23 = .ok (.if_icmp .lt 10, 3) := by decide +kernel
theorem d_Bl_longest_26 : decode c_Bl_longest 26 = .ok (.iload 4, 2) := by decide +kernel
theorem d_Bl_longest_28 : decode c_Bl_longest 28 = .ok (.iconst 1, 1) := by decide +kernel
theorem d_Bl_longest_29 : decode c_Bl_longest 29 = .ok (.iadd, 1) := by decide +kernel
theorem d_Bl_longest_30 : decode c_Bl_longest 30 = .ok (.goto 4, 3) := by decide +kernel
theorem d_Bl_longest_33 : decode c_Bl_longest 33 = .ok (.iconst 0, 1) := by decide +kernel
theorem d_Bl_longest_34 : decode c_Bl_longest 34 = .ok (.istore 4, 2) := by decide +kernel
theorem d_Bl_longest_36 : decode c_Bl_longest 36 = .ok (.iload_n 3, 1) := by decide +kernel
theorem d_Bl_longest_37 : decode c_Bl_longest 37 = .ok (.iload 4, 2) := by decide +kernel
theorem d_Bl_longest_39 : decode c_Bl_longest 39 = .ok (.invokestatic 15, 3) := by decide +kernel
theorem d_Bl_longest_42 : decode c_Bl_longest 42 = .ok (.istore_n 3, 1) := by decide +kernel
theorem d_Bl_longest_43 : decode c_Bl_longest 43 = .ok (.iinc 5 1, 3) := by decide +kernel
theorem d_Bl_longest_46 : decode c_Bl_longest 46 = .ok (.goto (-38), 3) := by decide +kernel
theorem d_Bl_longest_49 : decode c_Bl_longest 49 = .ok (.iload_n 3, 1) := by decide +kernel
theorem d_Bl_longest_50 : decode c_Bl_longest 50 = .ok (.ireturn, 1) := by decide +kernel
theorem C_Bl_longest {M : MM} {n s : Nat} {J : JT} {v : Int32} (hJ : CJ M n J) (hs : s < 64) : AF y_Bl_longest c_Bl_longest 6 (some .int) 3 [vR 3, vI (i3 s), vI v] (M) (some (vI (hmost (fun t => blN J n s (i3 t)) v 10))) (M) := by
  refine AF.of k_Bl_longest (lo := [some (vR 3), some (vI (i3 s)), some (vI v), none, none, none]) rfl (Nat.le_of_ble_eq_true rfl) (fun X hX hR => ?_)
  refine v_iconst (pc := 0) (v := 0) hX (by decide) d_Bl_longest_0 ?_
  refine v_istore_n (pc := 1) (lo' := [some (vR _), some (vI _), some (vI _), some (vI _), none, none]) hX (Nat.le_of_ble_eq_true rfl) rfl d_Bl_longest_1 ?_
  refine v_iconst (pc := 2) (v := 0) hX (by decide) d_Bl_longest_2 ?_
  refine v_istore (pc := 3) (lo' := [some (vR _), some (vI _), some (vI _), some (vI _), some (vI _), none]) hX (Nat.le_of_ble_eq_true rfl) rfl d_Bl_longest_3 ?_
  refine v_iconst (pc := 5) (v := 0) hX (by decide) d_Bl_longest_5 ?_
  refine v_istore (pc := 6) (lo' := [some (vR _), some (vI _), some (vI _), some (vI _), some (vI _), some (vI _)]) hX (Nat.le_of_ble_eq_true rfl) rfl d_Bl_longest_6 ?_
  refine VW.cast (lo' := [some (vR 3), some (vI (i3 s)), some (vI v), some (vI (hmost (fun t => blN J n s (i3 t)) v 0)), some (vI (hrun (fun t => blN J n s (i3 t)) v 0)), some (vI (i3 0))]) (st' := []) (G' := gM (M)) rfl rfl rfl ?_
  refine v_for (X := X) (head := 8) (10) (fun kk => [some (vR 3), some (vI (i3 s)), some (vI v), some (vI (hmost (fun t => blN J n s (i3 t)) v kk)), some (vI (hrun (fun t => blN J n s (i3 t)) v kk)), some (vI (i3 kk))]) (fun kk => M) (fun k hk ih8 => ?_) ?_
  · show VW X 8 [some (vR 3), some (vI (i3 s)), some (vI v), some (vI (hmost (fun t => blN J n s (i3 t)) v k)), some (vI (hrun (fun t => blN J n s (i3 t)) v k)), some (vI (i3 k))] [] (gM (M))
    refine v_iload (pc := 8) hX rfl d_Bl_longest_8 ?_
    refine v_bipush (pc := 10) (v := 10) hX (by decide) d_Bl_longest_10 ?_
    refine v_icmp_ge (pc := 12) (tgt := 49) hX d_Bl_longest_12 rfl (fun h12 => False.elim (i3_ge_abs hk (by decide) h12)) (fun h12 => ?_)
    refine v_aload_n (pc := 15) hX rfl d_Bl_longest_15 ?_
    refine v_iload_n (pc := 16) hX rfl d_Bl_longest_16 ?_
    refine v_iload (pc := 17) hX rfl d_Bl_longest_17 ?_
    refine f_callV (pc := 19) hX k_Sp_markOf ki_Sp_markOf kv_Sp_markOf ml_Bl_9 (C_Sp_markOf hJ (by assumption)) rfl rfl rfl rfl rfl (Nat.le_of_ble_eq_true rfl) (Nat.le_of_ble_eq_true rfl) (Nat.le_of_ble_eq_true rfl) d_Bl_longest_19 ?_
    refine v_iload_n (pc := 22) hX rfl d_Bl_longest_22 ?_
    refine v_icmp_lt (pc := 23) (tgt := 33) hX d_Bl_longest_23 rfl (fun h23 => ?_) (fun h23 => ?_)
    · refine v_iconst (pc := 33) (v := 0) hX (by decide) d_Bl_longest_33 ?_
      refine v_istore (pc := 34) (lo' := [some (vR _), some (vI _), some (vI _), some (vI _), some (vI _), some (vI _)]) hX (Nat.le_of_ble_eq_true rfl) rfl d_Bl_longest_34 ?_
      refine v_iload_n (pc := 36) hX rfl d_Bl_longest_36 ?_
      refine v_iload (pc := 37) hX rfl d_Bl_longest_37 ?_
      refine g_max (pc := 39) hX ml_Bl_15 rfl (Nat.le_of_ble_eq_true rfl) (Nat.le_of_ble_eq_true rfl) d_Bl_longest_39 ?_
      refine v_istore_n (pc := 42) (lo' := [some (vR _), some (vI _), some (vI _), some (vI _), some (vI _), some (vI _)]) hX (Nat.le_of_ble_eq_true rfl) rfl d_Bl_longest_42 ?_
      refine v_iinc (pc := 43) (lo' := [some (vR _), some (vI _), some (vI _), some (vI _), some (vI _), some (vI _)]) hX rfl rfl d_Bl_longest_43 ?_
      refine v_goto (pc := 46) (tgt := 8) hX d_Bl_longest_46 rfl ?_
      exact VW.cast (by first | (simp only [hmost]; rw [i3_succ, hrun_ge (f := fun t => blN J n s (i3 t)) (Int32.not_lt.mp h23)]; rfl) | (simp only [hmost]; rw [i3_succ, hrun_lt (f := fun t => blN J n s (i3 t)) h23]; rfl)) rfl rfl ih8
    · refine v_iload (pc := 26) hX rfl d_Bl_longest_26 ?_
      refine v_iconst (pc := 28) (v := 1) hX (by decide) d_Bl_longest_28 ?_
      refine v_iadd (pc := 29) hX d_Bl_longest_29 ?_
      refine v_goto (pc := 30) (tgt := 34) hX d_Bl_longest_30 rfl ?_
      refine v_istore (pc := 34) (lo' := [some (vR _), some (vI _), some (vI _), some (vI _), some (vI _), some (vI _)]) hX (Nat.le_of_ble_eq_true rfl) rfl d_Bl_longest_34 ?_
      refine v_iload_n (pc := 36) hX rfl d_Bl_longest_36 ?_
      refine v_iload (pc := 37) hX rfl d_Bl_longest_37 ?_
      refine g_max (pc := 39) hX ml_Bl_15 rfl (Nat.le_of_ble_eq_true rfl) (Nat.le_of_ble_eq_true rfl) d_Bl_longest_39 ?_
      refine v_istore_n (pc := 42) (lo' := [some (vR _), some (vI _), some (vI _), some (vI _), some (vI _), some (vI _)]) hX (Nat.le_of_ble_eq_true rfl) rfl d_Bl_longest_42 ?_
      refine v_iinc (pc := 43) (lo' := [some (vR _), some (vI _), some (vI _), some (vI _), some (vI _), some (vI _)]) hX rfl rfl d_Bl_longest_43 ?_
      refine v_goto (pc := 46) (tgt := 8) hX d_Bl_longest_46 rfl ?_
      exact VW.cast (by first | (simp only [hmost]; rw [i3_succ, hrun_ge (f := fun t => blN J n s (i3 t)) (Int32.not_lt.mp h23)]; rfl) | (simp only [hmost]; rw [i3_succ, hrun_lt (f := fun t => blN J n s (i3 t)) h23]; rfl)) rfl rfl ih8
  · show VW X 8 [some (vR 3), some (vI (i3 s)), some (vI v), some (vI (hmost (fun t => blN J n s (i3 t)) v (10))), some (vI (hrun (fun t => blN J n s (i3 t)) v (10))), some (vI (i3 (10)))] [] (gM (M))
    refine v_iload (pc := 8) hX rfl d_Bl_longest_8 ?_
    refine v_bipush (pc := 10) (v := 10) hX (by decide) d_Bl_longest_10 ?_
    refine v_icmp_ge (pc := 12) (tgt := 49) hX d_Bl_longest_12 rfl (fun h12 => ?_) (fun h12 => False.elim (by revert h12; decide))
    refine v_iload_n (pc := 49) hX rfl d_Bl_longest_49 ?_
    exact f_iret (pc := 50) hX hR (rfl) (rfl) d_Bl_longest_50
theorem d_Bl_decides_0 : decode c_Bl_decides 0 = .ok (.aload_n 0, 1) := by decide +kernel
theorem d_Bl_decides_1 : decode c_Bl_decides 1 = .ok (.iload_n 2, 1) := by decide +kernel
theorem d_Bl_decides_2 : decode c_Bl_decides 2 = .ok (.aload_n 1, 1) := by decide +kernel
theorem d_Bl_decides_3 : decode c_Bl_decides 3 = .ok (.getfield 48, 3) := by decide +kernel
theorem d_Bl_decides_6 : decode c_Bl_decides 6 = .ok (.invokevirtual 9, 3) := by decide +kernel
theorem d_Bl_decides_9 : decode c_Bl_decides 9 = .ok (.aload_n 1, 1) := by decide +kernel
theorem d_Bl_decides_10 : decode c_Bl_decides 10 = .ok (.getfield 51, 3) := by decide +kernel
theorem d_Bl_decides_13 : decode c_Bl_decides 13 = .ok (.if_icmp .lt 7, 3) := by decide +kernel
theorem d_Bl_decides_16 : decode c_Bl_decides 16 = .ok (.iconst 1, 1) := by decide +kernel
theorem d_Bl_decides_17 : decode c_Bl_decides 17 = .ok (.goto 4, 3) := by decide +kernel
theorem d_Bl_decides_20 : decode c_Bl_decides 20 = .ok (.iconst 0, 1) := by decide +kernel
theorem d_Bl_decides_21 : decode c_Bl_decides 21 = .ok (.ireturn, 1) := by decide +kernel
theorem C_Bl_decides {M : MM} {n s d : Nat} {J : JT} (hJ : CJ M n J) (hs : s < 64) (hd : SH[d]? = some (0, 0)) : AF y_Bl_decides c_Bl_decides 3 (some .boolean) 3 [vR 3, vR d, vI (i3 s)] (M) (some (vI (bI (dcB J (M d 0) (M d 1) n s)))) (M) := by
  refine AF.of k_Bl_decides (lo := [some (vR 3), some (vR d), some (vI (i3 s))]) rfl (Nat.le_of_ble_eq_true rfl) (fun X hX hR => ?_)
  refine v_aload_n (pc := 0) hX rfl d_Bl_decides_0 ?_
  refine v_iload_n (pc := 1) hX rfl d_Bl_decides_1 ?_
  refine v_aload_n (pc := 2) hX rfl d_Bl_decides_2 ?_
  refine g_getI (pc := 3) hX fl_Bl_48 rfl (by assumption) d_Bl_decides_3 ?_
  refine f_callV (pc := 6) hX k_Sp_markOf ki_Sp_markOf kv_Sp_markOf ml_Bl_9 (C_Sp_markOf hJ (by assumption)) rfl rfl rfl rfl rfl (Nat.le_of_ble_eq_true rfl) (Nat.le_of_ble_eq_true rfl) (Nat.le_of_ble_eq_true rfl) d_Bl_decides_6 ?_
  refine v_aload_n (pc := 9) hX rfl d_Bl_decides_9 ?_
  refine g_getI (pc := 10) hX fl_Bl_51 rfl (by assumption) d_Bl_decides_10 ?_
  refine v_icmp_lt (pc := 13) (tgt := 20) hX d_Bl_decides_13 rfl (fun h13 => ?_) (fun h13 => ?_)
  · refine v_iconst (pc := 20) (v := 0) hX (by decide) d_Bl_decides_20 ?_
    exact f_zret (pc := 21) hX hR (by first | exact bT (decide_eq_true (Int32.not_lt.mp h13)) | exact bF (decide_eq_false (Int32.not_le.mpr h13))) (rfl) d_Bl_decides_21
  · refine v_iconst (pc := 16) (v := 1) hX (by decide) d_Bl_decides_16 ?_
    refine v_goto (pc := 17) (tgt := 21) hX d_Bl_decides_17 rfl ?_
    exact f_zret (pc := 21) hX hR (by first | exact bT (decide_eq_true (Int32.not_lt.mp h13)) | exact bF (decide_eq_false (Int32.not_le.mpr h13))) (rfl) d_Bl_decides_21
theorem d_Bl_cheapest_0 : decode c_Bl_cheapest 0 = .ok (.aload_n 0, 1) := by decide +kernel
theorem d_Bl_cheapest_1 : decode c_Bl_cheapest 1 = .ok (.invokevirtual 20, 3) := by decide +kernel
theorem d_Bl_cheapest_4 : decode c_Bl_cheapest 4 = .ok (.istore_n 2, 1) := by decide +kernel
theorem d_Bl_cheapest_5 : decode c_Bl_cheapest 5 = .ok (.bipush (-9), 2) := by decide +kernel
theorem d_Bl_cheapest_7 : decode c_Bl_cheapest 7 = .ok (.istore_n 3, 1) := by decide +kernel
theorem d_Bl_cheapest_8 : decode c_Bl_cheapest 8 = .ok (.iconst 0, 1) := by decide +kernel
theorem d_Bl_cheapest_9 : decode c_Bl_cheapest 9 = .ok (.istore 4, 2) := by decide +kernel
theorem d_Bl_cheapest_11 : decode c_Bl_cheapest 11 = .ok (.iconst 1, 1) := by decide +kernel
theorem d_Bl_cheapest_12 : decode c_Bl_cheapest 12 = .ok (.istore 5, 2) := by decide +kernel
theorem d_Bl_cheapest_14 : decode c_Bl_cheapest 14 = .ok (.iload 5, 2) := by decide +kernel
theorem d_Bl_cheapest_16 : decode c_Bl_cheapest 16 = .ok (.aload_n 0, 1) := by decide +kernel
theorem d_Bl_cheapest_17 : decode c_Bl_cheapest 17 = .ok (.invokevirtual 24, 3) := by decide +kernel
theorem d_Bl_cheapest_20 : decode c_Bl_cheapest 20 = .ok (.if_icmp .ge 96, 3) := by decide +kernel
theorem d_Bl_cheapest_23 : decode c_Bl_cheapest 23 = .ok (.aload_n 0, 1) := by decide +kernel
theorem d_Bl_cheapest_24 : decode c_Bl_cheapest 24 = .ok (.iload 5, 2) := by decide +kernel
theorem d_Bl_cheapest_26 : decode c_Bl_cheapest 26 = .ok (.invokevirtual 27, 3) := by decide +kernel
theorem d_Bl_cheapest_29 : decode c_Bl_cheapest 29 = .ok (.istore 6, 2) := by decide +kernel
theorem d_Bl_cheapest_31 : decode c_Bl_cheapest 31 = .ok (.iload 5, 2) := by decide +kernel
theorem d_Bl_cheapest_33 : decode c_Bl_cheapest 33 = .ok (.iload_n 2, 1) := by decide +kernel
theorem d_Bl_cheapest_34 : decode c_Bl_cheapest 34 = .ok (.iconst (-1), 1) := by decide +kernel
theorem d_Bl_cheapest_35 : decode c_Bl_cheapest 35 = .ok (.ixor, 1) := by decide +kernel
theorem d_Bl_cheapest_36 : decode c_Bl_cheapest 36 = .ok (.iand, 1) := by decide +kernel
theorem d_Bl_cheapest_37 : decode c_Bl_cheapest 37 = .ok (.ifCond .ne 26, 3) := by decide +kernel
theorem d_Bl_cheapest_40 : decode c_Bl_cheapest 40 = .ok (.iload 6, 2) := by decide +kernel
theorem d_Bl_cheapest_42 : decode c_Bl_cheapest 42 = .ok (.aload_n 1, 1) := by decide +kernel
theorem d_Bl_cheapest_43 : decode c_Bl_cheapest 43 = .ok (.getfield 31, 3) := by decide +kernel
theorem d_Bl_cheapest_46 : decode c_Bl_cheapest 46 = .ok (.if_icmp .gt 17, 3) := by decide +kernel
theorem d_Bl_cheapest_49 : decode c_Bl_cheapest 49 = .ok (.aload_n 0, 1) := by decide +kernel
theorem d_Bl_cheapest_50 : decode c_Bl_cheapest 50 = .ok (.aload_n 1, 1) := by decide +kernel
theorem d_Bl_cheapest_51 : decode c_Bl_cheapest 51 = .ok (.iload 5, 2) := by decide +kernel
theorem d_Bl_cheapest_53 : decode c_Bl_cheapest 53 = .ok (.invokestatic 37, 3) := by decide +kernel
theorem d_Bl_cheapest_56 : decode c_Bl_cheapest 56 = .ok (.ifCond .eq 7, 3) := by decide +kernel
theorem d_Bl_cheapest_59 : decode c_Bl_cheapest 59 = .ok (.iconst 1, 1) := by decide +kernel
theorem d_Bl_cheapest_60 : decode c_Bl_cheapest 60 = .ok (.goto 4, 3) := by decide +kernel
theorem d_Bl_cheapest_63 : decode c_Bl_cheapest 63 = .ok (.iconst 0, 1) := by decide +kernel
theorem d_Bl_cheapest_64 : decode c_Bl_cheapest 64 = .ok (.istore 7, 2) := by decide +kernel
theorem d_Bl_cheapest_66 : decode c_Bl_cheapest 66 = .ok (.iload 7, 2) := by decide +kernel
theorem d_Bl_cheapest_68 : decode c_Bl_cheapest 68 = .ok (.ifCond .eq 42, 3) := by decide +kernel
theorem d_Bl_cheapest_71 : decode c_Bl_cheapest 71 = .ok (.iload_n 3, 1) := by decide +kernel
theorem d_Bl_cheapest_72 : decode c_Bl_cheapest 72 = .ok (.bipush (-9), 2) := by decide +kernel
theorem d_Bl_cheapest_74 : decode c_Bl_cheapest 74 = .ok (.if_icmp .eq 29, 3) := by decide +kernel
theorem d_Bl_cheapest_77 : decode c_Bl_cheapest 77 = .ok (.iload 6, 2) := by decide +kernel
theorem d_Bl_cheapest_79 : decode c_Bl_cheapest 79 = .ok (.iload 4, 2) := by decide +kernel
theorem d_Bl_cheapest_81 : decode c_Bl_cheapest 81 = .ok (.if_icmp .lt 22, 3) := by decide +kernel
theorem d_Bl_cheapest_84 : decode c_Bl_cheapest 84 = .ok (.iload 6, 2) := by decide +kernel
theorem d_Bl_cheapest_86 : decode c_Bl_cheapest 86 = .ok (.iload 4, 2) := by decide +kernel
theorem d_Bl_cheapest_88 : decode c_Bl_cheapest 88 = .ok (.if_icmp .ne 22, 3) := by decide +kernel
theorem d_Bl_cheapest_91 : decode c_Bl_cheapest 91 = .ok (.iload 5, 2) := by decide +kernel
theorem d_Bl_cheapest_93 : decode c_Bl_cheapest 93 = .ok (.invokestatic 43, 3) := by decide +kernel
theorem d_Bl_cheapest_96 : decode c_Bl_cheapest 96 = .ok (.iload_n 3, 1) := by decide +kernel
theorem d_Bl_cheapest_97 : decode c_Bl_cheapest 97 = .ok (.invokestatic 43, 3) := by decide +kernel
theorem d_Bl_cheapest_100 : decode c_Bl_cheapest 100 = .ok (.if_icmp .ge 10, 3) := by decide +kernel
theorem d_Bl_cheapest_103 : decode c_Bl_cheapest 103 = .ok (.iload 5, 2) := by decide +kernel
theorem d_Bl_cheapest_105 : decode c_Bl_cheapest 105 = .ok (.istore_n 3, 1) := by decide +kernel
theorem d_Bl_cheapest_106 : decode c_Bl_cheapest 106 = .ok (.iload 6, 2) := by decide +kernel
theorem d_Bl_cheapest_108 : decode c_Bl_cheapest 108 = .ok (.istore 4, 2) := by decide +kernel
theorem d_Bl_cheapest_110 : decode c_Bl_cheapest 110 = .ok (.iinc 5 1, 3) := by decide +kernel
theorem d_Bl_cheapest_113 : decode c_Bl_cheapest 113 = .ok (.goto (-99), 3) := by decide +kernel
theorem d_Bl_cheapest_116 : decode c_Bl_cheapest 116 = .ok (.iload_n 3, 1) := by decide +kernel
theorem d_Bl_cheapest_117 : decode c_Bl_cheapest 117 = .ok (.ireturn, 1) := by decide +kernel
set_option maxHeartbeats 4000000 in
theorem C_Bl_cheapest {M : MM} {n d : Nat} {J : JT} (hJ : CJ M n J) (hd : SH[d]? = some (0, 0)) : AF y_Bl_cheapest c_Bl_cheapest 8 (some .int) 4 [vR 3, vR d] (M) (some (vI (en (ch J (M d 0) (M d 1) (M d 2) n (stN J n) (2 ^ n - 1))))) (M) := by
  have h6 := hJ.1
  have hM := hJ.2.1
  have hp := pow6 h6
  have hst : stN J n < 64 := Nat.lt_of_lt_of_le (stN_lt J n) hp
  refine AF.of k_Bl_cheapest (lo := [some (vR 3), some (vR d), none, none, none, none, none, none]) rfl (Nat.le_of_ble_eq_true rfl) (fun X hX hR => ?_)
  refine v_aload_n (pc := 0) hX rfl d_Bl_cheapest_0 ?_
  refine f_callV (pc := 1) hX k_Sp_stocked ki_Sp_stocked kv_Sp_stocked ml_Bl_20 (C_Sp_stocked hJ) rfl rfl rfl rfl rfl (Nat.le_of_ble_eq_true rfl) (Nat.le_of_ble_eq_true rfl) (Nat.le_of_ble_eq_true rfl) d_Bl_cheapest_1 ?_
  refine v_istore_n (pc := 4) (lo' := [some (vR _), some (vR _), some (vI _), none, none, none, none, none]) hX (Nat.le_of_ble_eq_true rfl) rfl d_Bl_cheapest_4 ?_
  refine v_bipush (pc := 5) (v := (-9)) hX (by decide) d_Bl_cheapest_5 ?_
  refine v_istore_n (pc := 7) (lo' := [some (vR _), some (vR _), some (vI _), some (vI _), none, none, none, none]) hX (Nat.le_of_ble_eq_true rfl) rfl d_Bl_cheapest_7 ?_
  refine v_iconst (pc := 8) (v := 0) hX (by decide) d_Bl_cheapest_8 ?_
  refine v_istore (pc := 9) (lo' := [some (vR _), some (vR _), some (vI _), some (vI _), some (vI _), none, none, none]) hX (Nat.le_of_ble_eq_true rfl) rfl d_Bl_cheapest_9 ?_
  refine v_iconst (pc := 11) (v := 1) hX (by decide) d_Bl_cheapest_11 ?_
  refine v_istore (pc := 12) (lo' := [some (vR _), some (vR _), some (vI _), some (vI _), some (vI _), some (vI _), none, none]) hX (Nat.le_of_ble_eq_true rfl) rfl d_Bl_cheapest_12 ?_
  refine VW.cast (lo' := [some (vR 3), some (vR d), some (vI (i3 (stN J n))), some (vI (en (ch J (M d 0) (M d 1) (M d 2) n (stN J n) 0))), some (vI (chP J n (ch J (M d 0) (M d 1) (M d 2) n (stN J n) 0))), some (vI (i3 (0 + 1))), none, none]) (st' := []) (G' := gM (M)) rfl rfl rfl ?_
  refine v_for (X := X) (head := 14) (2 ^ n - 1) (fun kk => [some (vR 3), some (vR d), some (vI (i3 (stN J n))), some (vI (en (ch J (M d 0) (M d 1) (M d 2) n (stN J n) kk))), some (vI (chP J n (ch J (M d 0) (M d 1) (M d 2) n (stN J n) kk))), some (vI (i3 (kk + 1))), none, none]) (fun kk => M) (fun k hk ih14 => ?_) ?_
  · show VW X 14 [some (vR 3), some (vR d), some (vI (i3 (stN J n))), some (vI (en (ch J (M d 0) (M d 1) (M d 2) n (stN J n) k))), some (vI (chP J n (ch J (M d 0) (M d 1) (M d 2) n (stN J n) k))), some (vI (i3 (k + 1))), none, none] [] (gM (M))
    have hs : k + 1 < 64 := by omega
    have hcl := ch_le J (M d 0) (M d 1) (M d 2) n (stN J n) k
    have hc6 : ch J (M d 0) (M d 1) (M d 2) n (stN J n) k < 64 := by omega
    refine v_iload (pc := 14) hX rfl d_Bl_cheapest_14 ?_
    refine v_aload_n (pc := 16) hX rfl d_Bl_cheapest_16 ?_
    refine f_callV (pc := 17) hX k_Sp_setsEnd ki_Sp_setsEnd kv_Sp_setsEnd ml_Bl_24 (C_Sp_setsEnd hJ) rfl rfl rfl rfl rfl (Nat.le_of_ble_eq_true rfl) (Nat.le_of_ble_eq_true rfl) (Nat.le_of_ble_eq_true rfl) d_Bl_cheapest_17 ?_
    refine v_icmp_ge (pc := 20) (tgt := 116) hX d_Bl_cheapest_20 rfl (fun h20 => False.elim (i3_ge_abs (k := k + 1) (n := 2 ^ n) (by omega) (by omega) h20)) (fun h20 => ?_)
    refine v_aload_n (pc := 23) hX rfl d_Bl_cheapest_23 ?_
    refine v_iload (pc := 24) hX rfl d_Bl_cheapest_24 ?_
    refine f_callV (pc := 26) hX k_Sp_penceOf ki_Sp_penceOf kv_Sp_penceOf ml_Bl_27 (C_Sp_penceOf hJ (by assumption)) rfl rfl rfl rfl rfl (Nat.le_of_ble_eq_true rfl) (Nat.le_of_ble_eq_true rfl) (Nat.le_of_ble_eq_true rfl) d_Bl_cheapest_26 ?_
    refine v_istore (pc := 29) (lo' := [some (vR _), some (vR _), some (vI _), some (vI _), some (vI _), some (vI _), some (vI _), none]) hX (Nat.le_of_ble_eq_true rfl) rfl d_Bl_cheapest_29 ?_
    refine v_iload (pc := 31) hX rfl d_Bl_cheapest_31 ?_
    refine v_iload_n (pc := 33) hX rfl d_Bl_cheapest_33 ?_
    refine v_iconst (pc := 34) (v := (-1)) hX (by decide) d_Bl_cheapest_34 ?_
    refine v_ixor (pc := 35) hX d_Bl_cheapest_35 ?_
    refine v_iand (pc := 36) hX d_Bl_cheapest_36 ?_
    refine v_if_ne (pc := 37) (tgt := 63) hX d_Bl_cheapest_37 rfl (fun h37 => ?_) (fun h37 => ?_)
    · have a1 := sb_f hs hst h37
      have e : ch J (M d 0) (M d 1) (M d 2) n (stN J n) (k + 1) = ch J (M d 0) (M d 1) (M d 2) n (stN J n) k := if_neg (by simp [chC, a1])
      refine v_iconst (pc := 63) (v := 0) hX (by decide) d_Bl_cheapest_63 ?_
      refine v_istore (pc := 64) (lo' := [some (vR _), some (vR _), some (vI _), some (vI _), some (vI _), some (vI _), some (vI _), some (vI _)]) hX (Nat.le_of_ble_eq_true rfl) rfl d_Bl_cheapest_64 ?_
      refine v_iload (pc := 66) hX rfl d_Bl_cheapest_66 ?_
      refine v_if_eq (pc := 68) (tgt := 110) hX d_Bl_cheapest_68 rfl (fun h68 => ?_) (fun h68 => False.elim (by revert h68; decide))
      refine v_iinc (pc := 110) (lo' := [some (vR _), some (vR _), some (vI _), some (vI _), some (vI _), some (vI _), some (vI _), some (vI _)]) hX rfl rfl d_Bl_cheapest_110 ?_
      refine v_goto (pc := 113) (tgt := 14) hX d_Bl_cheapest_113 rfl ?_
      refine VW.fg [true, true, true, true, true, true, false, false] ?_
      exact VW.cast (by first | (rw [e, en_p (Nat.succ_ne_zero k), chP_p (Nat.succ_ne_zero k), i3_succ (k + 1)]; rfl) | (rw [e, i3_succ (k + 1)]; rfl) | (rw [e, i3_succ (k + 1), en_p a4, chP_p a4]; rfl)) rfl rfl ih14
    · have a1 := sb_t hs hst h37
      refine v_iload (pc := 40) hX rfl d_Bl_cheapest_40 ?_
      refine v_aload_n (pc := 42) hX rfl d_Bl_cheapest_42 ?_
      refine g_getI (pc := 43) hX fl_Bl_31 rfl (by assumption) d_Bl_cheapest_43 ?_
      refine v_icmp_gt (pc := 46) (tgt := 63) hX d_Bl_cheapest_46 rfl (fun h46 => ?_) (fun h46 => ?_)
      · have a2 : ¬ pcB J (k + 1) n ≤ M d 2 := Int32.not_le.mpr h46
        have e : ch J (M d 0) (M d 1) (M d 2) n (stN J n) (k + 1) = ch J (M d 0) (M d 1) (M d 2) n (stN J n) k := if_neg (by simp [chC, a2])
        refine v_iconst (pc := 63) (v := 0) hX (by decide) d_Bl_cheapest_63 ?_
        refine v_istore (pc := 64) (lo' := [some (vR _), some (vR _), some (vI _), some (vI _), some (vI _), some (vI _), some (vI _), some (vI _)]) hX (Nat.le_of_ble_eq_true rfl) rfl d_Bl_cheapest_64 ?_
        refine v_iload (pc := 66) hX rfl d_Bl_cheapest_66 ?_
        refine v_if_eq (pc := 68) (tgt := 110) hX d_Bl_cheapest_68 rfl (fun h68 => ?_) (fun h68 => False.elim (by revert h68; decide))
        refine v_iinc (pc := 110) (lo' := [some (vR _), some (vR _), some (vI _), some (vI _), some (vI _), some (vI _), some (vI _), some (vI _)]) hX rfl rfl d_Bl_cheapest_110 ?_
        refine v_goto (pc := 113) (tgt := 14) hX d_Bl_cheapest_113 rfl ?_
        refine VW.fg [true, true, true, true, true, true, false, false] ?_
        exact VW.cast (by first | (rw [e, en_p (Nat.succ_ne_zero k), chP_p (Nat.succ_ne_zero k), i3_succ (k + 1)]; rfl) | (rw [e, i3_succ (k + 1)]; rfl) | (rw [e, i3_succ (k + 1), en_p a4, chP_p a4]; rfl)) rfl rfl ih14
      · have a2 : pcB J (k + 1) n ≤ M d 2 := Int32.not_lt.mp h46
        refine v_aload_n (pc := 49) hX rfl d_Bl_cheapest_49 ?_
        refine v_aload_n (pc := 50) hX rfl d_Bl_cheapest_50 ?_
        refine v_iload (pc := 51) hX rfl d_Bl_cheapest_51 ?_
        refine f_callS (pc := 53) hX k_Bl_decides ks_Bl_decides ml_Bl_37 (C_Bl_decides hJ (by assumption) (by assumption)) rfl rfl rfl (Nat.le_of_ble_eq_true rfl) (Nat.le_of_ble_eq_true rfl) (Nat.le_of_ble_eq_true rfl) d_Bl_cheapest_53 ?_
        refine f_ifeqB (pc := 56) (tgt := 63) hX d_Bl_cheapest_56 rfl (fun h56 => ?_) (fun h56 => ?_)
        · have e : ch J (M d 0) (M d 1) (M d 2) n (stN J n) (k + 1) = ch J (M d 0) (M d 1) (M d 2) n (stN J n) k := if_neg (by simp [chC, h56])
          refine v_iconst (pc := 63) (v := 0) hX (by decide) d_Bl_cheapest_63 ?_
          refine v_istore (pc := 64) (lo' := [some (vR _), some (vR _), some (vI _), some (vI _), some (vI _), some (vI _), some (vI _), some (vI _)]) hX (Nat.le_of_ble_eq_true rfl) rfl d_Bl_cheapest_64 ?_
          refine v_iload (pc := 66) hX rfl d_Bl_cheapest_66 ?_
          refine v_if_eq (pc := 68) (tgt := 110) hX d_Bl_cheapest_68 rfl (fun h68 => ?_) (fun h68 => False.elim (by revert h68; decide))
          refine v_iinc (pc := 110) (lo' := [some (vR _), some (vR _), some (vI _), some (vI _), some (vI _), some (vI _), some (vI _), some (vI _)]) hX rfl rfl d_Bl_cheapest_110 ?_
          refine v_goto (pc := 113) (tgt := 14) hX d_Bl_cheapest_113 rfl ?_
          refine VW.fg [true, true, true, true, true, true, false, false] ?_
          exact VW.cast (by first | (rw [e, en_p (Nat.succ_ne_zero k), chP_p (Nat.succ_ne_zero k), i3_succ (k + 1)]; rfl) | (rw [e, i3_succ (k + 1)]; rfl) | (rw [e, i3_succ (k + 1), en_p a4, chP_p a4]; rfl)) rfl rfl ih14
        · refine v_iconst (pc := 59) (v := 1) hX (by decide) d_Bl_cheapest_59 ?_
          refine v_goto (pc := 60) (tgt := 64) hX d_Bl_cheapest_60 rfl ?_
          refine v_istore (pc := 64) (lo' := [some (vR _), some (vR _), some (vI _), some (vI _), some (vI _), some (vI _), some (vI _), some (vI _)]) hX (Nat.le_of_ble_eq_true rfl) rfl d_Bl_cheapest_64 ?_
          refine v_iload (pc := 66) hX rfl d_Bl_cheapest_66 ?_
          refine v_if_eq (pc := 68) (tgt := 110) hX d_Bl_cheapest_68 rfl (fun h68 => False.elim (by revert h68; decide)) (fun h68 => ?_)
          refine v_iload_n (pc := 71) hX rfl d_Bl_cheapest_71 ?_
          refine v_bipush (pc := 72) (v := (-9)) hX (by decide) d_Bl_cheapest_72 ?_
          refine v_icmp_eq (pc := 74) (tgt := 103) hX d_Bl_cheapest_74 rfl (fun h74 => ?_) (fun h74 => ?_)
          · have a4 := (en_none hc6).mp h74
            have e : ch J (M d 0) (M d 1) (M d 2) n (stN J n) (k + 1) = k + 1 := if_pos (by simp [chC, a1, a2, h56, a4])
            refine v_iload (pc := 103) hX rfl d_Bl_cheapest_103 ?_
            refine v_istore_n (pc := 105) (lo' := [some (vR _), some (vR _), some (vI _), some (vI _), some (vI _), some (vI _), some (vI _), some (vI _)]) hX (Nat.le_of_ble_eq_true rfl) rfl d_Bl_cheapest_105 ?_
            refine v_iload (pc := 106) hX rfl d_Bl_cheapest_106 ?_
            refine v_istore (pc := 108) (lo' := [some (vR _), some (vR _), some (vI _), some (vI _), some (vI _), some (vI _), some (vI _), some (vI _)]) hX (Nat.le_of_ble_eq_true rfl) rfl d_Bl_cheapest_108 ?_
            refine v_iinc (pc := 110) (lo' := [some (vR _), some (vR _), some (vI _), some (vI _), some (vI _), some (vI _), some (vI _), some (vI _)]) hX rfl rfl d_Bl_cheapest_110 ?_
            refine v_goto (pc := 113) (tgt := 14) hX d_Bl_cheapest_113 rfl ?_
            refine VW.fg [true, true, true, true, true, true, false, false] ?_
            exact VW.cast (by first | (rw [e, en_p (Nat.succ_ne_zero k), chP_p (Nat.succ_ne_zero k), i3_succ (k + 1)]; rfl) | (rw [e, i3_succ (k + 1)]; rfl) | (rw [e, i3_succ (k + 1), en_p a4, chP_p a4]; rfl)) rfl rfl ih14
          · have a4 : ¬ ch J (M d 0) (M d 1) (M d 2) n (stN J n) k = 0 := fun q => h74 ((en_none hc6).mpr q)
            rw [chP_p a4, en_p a4]
            refine v_iload (pc := 77) hX rfl d_Bl_cheapest_77 ?_
            refine v_iload (pc := 79) hX rfl d_Bl_cheapest_79 ?_
            refine v_icmp_lt (pc := 81) (tgt := 103) hX d_Bl_cheapest_81 rfl (fun h81 => ?_) (fun h81 => ?_)
            · have a5 := h81
              have e : ch J (M d 0) (M d 1) (M d 2) n (stN J n) (k + 1) = k + 1 := if_pos (by simp [chC, a1, a2, h56, a4, a5])
              refine v_iload (pc := 103) hX rfl d_Bl_cheapest_103 ?_
              refine v_istore_n (pc := 105) (lo' := [some (vR _), some (vR _), some (vI _), some (vI _), some (vI _), some (vI _), some (vI _), some (vI _)]) hX (Nat.le_of_ble_eq_true rfl) rfl d_Bl_cheapest_105 ?_
              refine v_iload (pc := 106) hX rfl d_Bl_cheapest_106 ?_
              refine v_istore (pc := 108) (lo' := [some (vR _), some (vR _), some (vI _), some (vI _), some (vI _), some (vI _), some (vI _), some (vI _)]) hX (Nat.le_of_ble_eq_true rfl) rfl d_Bl_cheapest_108 ?_
              refine v_iinc (pc := 110) (lo' := [some (vR _), some (vR _), some (vI _), some (vI _), some (vI _), some (vI _), some (vI _), some (vI _)]) hX rfl rfl d_Bl_cheapest_110 ?_
              refine v_goto (pc := 113) (tgt := 14) hX d_Bl_cheapest_113 rfl ?_
              refine VW.fg [true, true, true, true, true, true, false, false] ?_
              exact VW.cast (by first | (rw [e, en_p (Nat.succ_ne_zero k), chP_p (Nat.succ_ne_zero k), i3_succ (k + 1)]; rfl) | (rw [e, i3_succ (k + 1)]; rfl) | (rw [e, i3_succ (k + 1), en_p a4, chP_p a4]; rfl)) rfl rfl ih14
            · have a5 := h81
              refine v_iload (pc := 84) hX rfl d_Bl_cheapest_84 ?_
              refine v_iload (pc := 86) hX rfl d_Bl_cheapest_86 ?_
              refine v_icmp_ne (pc := 88) (tgt := 110) hX d_Bl_cheapest_88 rfl (fun h88 => ?_) (fun h88 => ?_)
              · have a6 := h88
                have e : ch J (M d 0) (M d 1) (M d 2) n (stN J n) (k + 1) = ch J (M d 0) (M d 1) (M d 2) n (stN J n) k := if_neg (by simp [chC, a4, a5, a6])
                refine v_iinc (pc := 110) (lo' := [some (vR _), some (vR _), some (vI _), some (vI _), some (vI _), some (vI _), some (vI _), some (vI _)]) hX rfl rfl d_Bl_cheapest_110 ?_
                refine v_goto (pc := 113) (tgt := 14) hX d_Bl_cheapest_113 rfl ?_
                refine VW.fg [true, true, true, true, true, true, false, false] ?_
                exact VW.cast (by first | (rw [e, en_p (Nat.succ_ne_zero k), chP_p (Nat.succ_ne_zero k), i3_succ (k + 1)]; rfl) | (rw [e, i3_succ (k + 1)]; rfl) | (rw [e, i3_succ (k + 1), en_p a4, chP_p a4]; rfl)) rfl rfl ih14
              · have a6 := h88
                refine v_iload (pc := 91) hX rfl d_Bl_cheapest_91 ?_
                refine f_callS (pc := 93) hX k_jI_bitCount ks_jI_bitCount ml_Bl_43 (C_jI_bitCount) rfl rfl rfl (Nat.le_of_ble_eq_true rfl) (Nat.le_of_ble_eq_true rfl) (Nat.le_of_ble_eq_true rfl) d_Bl_cheapest_93 ?_
                refine v_iload_n (pc := 96) hX rfl d_Bl_cheapest_96 ?_
                refine f_callS (pc := 97) hX k_jI_bitCount ks_jI_bitCount ml_Bl_43 (C_jI_bitCount) rfl rfl rfl (Nat.le_of_ble_eq_true rfl) (Nat.le_of_ble_eq_true rfl) (Nat.le_of_ble_eq_true rfl) d_Bl_cheapest_97 ?_
                refine v_icmp_ge (pc := 100) (tgt := 110) hX d_Bl_cheapest_100 rfl (fun h100 => ?_) (fun h100 => ?_)
                · rw [jbc_pop _ hs, jbc_pop _ hc6] at h100
                  have a7 : ¬ pop 6 (k + 1) < pop 6 (ch J (M d 0) (M d 1) (M d 2) n (stN J n) k) := by
                    have := (i3_le (by have := pop_lt hc6; omega) (by have := pop_lt hs; omega)).mp h100
                    omega
                  have e : ch J (M d 0) (M d 1) (M d 2) n (stN J n) (k + 1) = ch J (M d 0) (M d 1) (M d 2) n (stN J n) k := if_neg (by simp [chC, a4, a5, a6, a7])
                  refine v_iinc (pc := 110) (lo' := [some (vR _), some (vR _), some (vI _), some (vI _), some (vI _), some (vI _), some (vI _), some (vI _)]) hX rfl rfl d_Bl_cheapest_110 ?_
                  refine v_goto (pc := 113) (tgt := 14) hX d_Bl_cheapest_113 rfl ?_
                  refine VW.fg [true, true, true, true, true, true, false, false] ?_
                  exact VW.cast (by first | (rw [e, en_p (Nat.succ_ne_zero k), chP_p (Nat.succ_ne_zero k), i3_succ (k + 1)]; rfl) | (rw [e, i3_succ (k + 1)]; rfl) | (rw [e, i3_succ (k + 1), en_p a4, chP_p a4]; rfl)) rfl rfl ih14
                · rw [jbc_pop _ hs, jbc_pop _ hc6] at h100
                  have a7 : pop 6 (k + 1) < pop 6 (ch J (M d 0) (M d 1) (M d 2) n (stN J n) k) := by
                    exact Nat.lt_of_not_le (fun q => h100 ((i3_le (by have := pop_lt hc6; omega) (by have := pop_lt hs; omega)).mpr q))
                  have e : ch J (M d 0) (M d 1) (M d 2) n (stN J n) (k + 1) = k + 1 := if_pos (by simp [chC, a1, a2, h56, a4, a5, a6.symm, a7])
                  refine v_iload (pc := 103) hX rfl d_Bl_cheapest_103 ?_
                  refine v_istore_n (pc := 105) (lo' := [some (vR _), some (vR _), some (vI _), some (vI _), some (vI _), some (vI _), some (vI _), some (vI _)]) hX (Nat.le_of_ble_eq_true rfl) rfl d_Bl_cheapest_105 ?_
                  refine v_iload (pc := 106) hX rfl d_Bl_cheapest_106 ?_
                  refine v_istore (pc := 108) (lo' := [some (vR _), some (vR _), some (vI _), some (vI _), some (vI _), some (vI _), some (vI _), some (vI _)]) hX (Nat.le_of_ble_eq_true rfl) rfl d_Bl_cheapest_108 ?_
                  refine v_iinc (pc := 110) (lo' := [some (vR _), some (vR _), some (vI _), some (vI _), some (vI _), some (vI _), some (vI _), some (vI _)]) hX rfl rfl d_Bl_cheapest_110 ?_
                  refine v_goto (pc := 113) (tgt := 14) hX d_Bl_cheapest_113 rfl ?_
                  refine VW.fg [true, true, true, true, true, true, false, false] ?_
                  exact VW.cast (by first | (rw [e, en_p (Nat.succ_ne_zero k), chP_p (Nat.succ_ne_zero k), i3_succ (k + 1)]; rfl) | (rw [e, i3_succ (k + 1)]; rfl) | (rw [e, i3_succ (k + 1), en_p a4, chP_p a4]; rfl)) rfl rfl ih14
  · show VW X 14 [some (vR 3), some (vR d), some (vI (i3 (stN J n))), some (vI (en (ch J (M d 0) (M d 1) (M d 2) n (stN J n) (2 ^ n - 1)))), some (vI (chP J n (ch J (M d 0) (M d 1) (M d 2) n (stN J n) (2 ^ n - 1)))), some (vI (i3 ((2 ^ n - 1) + 1))), none, none] [] (gM (M))
    refine v_iload (pc := 14) hX rfl d_Bl_cheapest_14 ?_
    refine v_aload_n (pc := 16) hX rfl d_Bl_cheapest_16 ?_
    refine f_callV (pc := 17) hX k_Sp_setsEnd ki_Sp_setsEnd kv_Sp_setsEnd ml_Bl_24 (C_Sp_setsEnd hJ) rfl rfl rfl rfl rfl (Nat.le_of_ble_eq_true rfl) (Nat.le_of_ble_eq_true rfl) (Nat.le_of_ble_eq_true rfl) d_Bl_cheapest_17 ?_
    refine v_icmp_ge (pc := 20) (tgt := 116) hX d_Bl_cheapest_20 rfl (fun h20 => ?_) (fun h20 => False.elim (absurd set_end h20))
    refine v_iload_n (pc := 116) hX rfl d_Bl_cheapest_116 ?_
    exact f_iret (pc := 117) hX hR (rfl) (rfl) d_Bl_cheapest_117
theorem d_Bl_isSameMarked_0 : decode c_Bl_isSameMarked 0 = .ok (.iconst 0, 1) := by decide +kernel
theorem d_Bl_isSameMarked_1 : decode c_Bl_isSameMarked 1 = .ok (.istore_n 3, 1) := by decide +kernel
theorem d_Bl_isSameMarked_2 : decode c_Bl_isSameMarked 2 = .ok (.iload_n 3, 1) := by decide +kernel
theorem d_Bl_isSameMarked_3 : decode c_Bl_isSameMarked 3 = .ok (.bipush 10, 2) := by decide +kernel
theorem d_Bl_isSameMarked_5 : decode c_Bl_isSameMarked 5 = .ok (.if_icmp .ge 26, 3) := by decide +kernel
theorem d_Bl_isSameMarked_8 : decode c_Bl_isSameMarked 8 = .ok (.aload_n 0, 1) := by decide +kernel
theorem d_Bl_isSameMarked_9 : decode c_Bl_isSameMarked 9 = .ok (.iload_n 1, 1) := by decide +kernel
theorem d_Bl_isSameMarked_10 : decode c_Bl_isSameMarked 10 = .ok (.iload_n 3, 1) := by decide +kernel
theorem d_Bl_isSameMarked_11 : decode c_Bl_isSameMarked 11 = .ok (.invokevirtual 9, 3) := by decide +kernel
theorem d_Bl_isSameMarked_14 : decode c_Bl_isSameMarked 14 = .ok (.aload_n 0, 1) := by decide +kernel
theorem d_Bl_isSameMarked_15 : decode c_Bl_isSameMarked 15 = .ok (.iload_n 2, 1) := by decide +kernel
theorem d_Bl_isSameMarked_16 : decode c_Bl_isSameMarked 16 = .ok (.iload_n 3, 1) := by decide +kernel
theorem d_Bl_isSameMarked_17 : decode c_Bl_isSameMarked 17 = .ok (.invokevirtual 9, 3) := by decide +kernel
theorem d_Bl_isSameMarked_20 : decode c_Bl_isSameMarked 20 = .ok (.if_icmp .eq 5, 3) := by decide +kernel
theorem d_Bl_isSameMarked_23 : decode c_Bl_isSameMarked 23 = .ok (.iconst 0, 1) := by decide +kernel
theorem d_Bl_isSameMarked_24 : decode c_Bl_isSameMarked 24 = .ok (.ireturn, 1) := by decide +kernel
theorem d_Bl_isSameMarked_25 : decode c_Bl_isSameMarked 25 = .ok (.iinc 3 1, 3) := by decide +kernel
theorem d_Bl_isSameMarked_28 : decode c_Bl_isSameMarked 28 = .ok (.goto (-26), 3) := by decide +kernel
theorem d_Bl_isSameMarked_31 : decode c_Bl_isSameMarked 31 = .ok (.iconst 1, 1) := by decide +kernel
theorem d_Bl_isSameMarked_32 : decode c_Bl_isSameMarked 32 = .ok (.ireturn, 1) := by decide +kernel
theorem C_Bl_isSameMarked {M : MM} {n s t : Nat} {J : JT} (hJ : CJ M n J) (hs : s < 64) (ht : t < 64) : AF y_Bl_isSameMarked c_Bl_isSameMarked 4 (some .boolean) 3 [vR 3, vI (i3 s), vI (i3 t)] (M) (some (vI (bI (smB J n s t)))) (M) := by
  refine AF.of k_Bl_isSameMarked (lo := [some (vR 3), some (vI (i3 s)), some (vI (i3 t)), none]) rfl (Nat.le_of_ble_eq_true rfl) (fun X hX hR => ?_)
  refine v_iconst (pc := 0) (v := 0) hX (by decide) d_Bl_isSameMarked_0 ?_
  refine v_istore_n (pc := 1) (lo' := [some (vR _), some (vI _), some (vI _), some (vI _)]) hX (Nat.le_of_ble_eq_true rfl) rfl d_Bl_isSameMarked_1 ?_
  refine VW.cast (lo' := [some (vR 3), some (vI (i3 s)), some (vI (i3 t)), some (vI (i3 0))]) (st' := []) (G' := gM (M)) rfl rfl rfl ?_
  refine v_forI (X := X) (head := 2) (10) (fun kk => [some (vR 3), some (vI (i3 s)), some (vI (i3 t)), some (vI (i3 kk))]) (fun kk => M) (fun kk => allB (fun t2 => decide (blN J n s (i3 t2) = blN J n t (i3 t2))) kk = true) (rfl) (fun k hk hIk ih2 => ?_) (fun hIk => ?_)
  · show VW X 2 [some (vR 3), some (vI (i3 s)), some (vI (i3 t)), some (vI (i3 k))] [] (gM (M))
    have hIk : allB (fun t2 => decide (blN J n s (i3 t2) = blN J n t (i3 t2))) k = true := hIk
    refine v_iload_n (pc := 2) hX rfl d_Bl_isSameMarked_2 ?_
    refine v_bipush (pc := 3) (v := 10) hX (by decide) d_Bl_isSameMarked_3 ?_
    refine v_icmp_ge (pc := 5) (tgt := 31) hX d_Bl_isSameMarked_5 rfl (fun h5 => False.elim (i3_ge_abs hk (by decide) h5)) (fun h5 => ?_)
    refine v_aload_n (pc := 8) hX rfl d_Bl_isSameMarked_8 ?_
    refine v_iload_n (pc := 9) hX rfl d_Bl_isSameMarked_9 ?_
    refine v_iload_n (pc := 10) hX rfl d_Bl_isSameMarked_10 ?_
    refine f_callV (pc := 11) hX k_Sp_markOf ki_Sp_markOf kv_Sp_markOf ml_Bl_9 (C_Sp_markOf hJ (by assumption)) rfl rfl rfl rfl rfl (Nat.le_of_ble_eq_true rfl) (Nat.le_of_ble_eq_true rfl) (Nat.le_of_ble_eq_true rfl) d_Bl_isSameMarked_11 ?_
    refine v_aload_n (pc := 14) hX rfl d_Bl_isSameMarked_14 ?_
    refine v_iload_n (pc := 15) hX rfl d_Bl_isSameMarked_15 ?_
    refine v_iload_n (pc := 16) hX rfl d_Bl_isSameMarked_16 ?_
    refine f_callV (pc := 17) hX k_Sp_markOf ki_Sp_markOf kv_Sp_markOf ml_Bl_9 (C_Sp_markOf hJ (by assumption)) rfl rfl rfl rfl rfl (Nat.le_of_ble_eq_true rfl) (Nat.le_of_ble_eq_true rfl) (Nat.le_of_ble_eq_true rfl) d_Bl_isSameMarked_17 ?_
    refine v_icmp_eq (pc := 20) (tgt := 25) hX d_Bl_isSameMarked_20 rfl (fun h20 => ?_) (fun h20 => ?_)
    · refine v_iinc (pc := 25) (lo' := [some (vR _), some (vI _), some (vI _), some (vI _)]) hX rfl rfl d_Bl_isSameMarked_25 ?_
      refine v_goto (pc := 28) (tgt := 2) hX d_Bl_isSameMarked_28 rfl ?_
      exact VW.cast (by rw [i3_succ]; rfl) rfl rfl (ih2 (allB_s hIk (decide_eq_true h20)))
    · refine v_iconst (pc := 23) (v := 0) hX (by decide) d_Bl_isSameMarked_23 ?_
      exact f_zret (pc := 24) hX hR (bF (allB_no hk (decide_eq_false h20))) (rfl) d_Bl_isSameMarked_24
  · show VW X 2 [some (vR 3), some (vI (i3 s)), some (vI (i3 t)), some (vI (i3 (10)))] [] (gM (M))
    have hIk : allB (fun t2 => decide (blN J n s (i3 t2) = blN J n t (i3 t2))) (10) = true := hIk
    refine v_iload_n (pc := 2) hX rfl d_Bl_isSameMarked_2 ?_
    refine v_bipush (pc := 3) (v := 10) hX (by decide) d_Bl_isSameMarked_3 ?_
    refine v_icmp_ge (pc := 5) (tgt := 31) hX d_Bl_isSameMarked_5 rfl (fun h5 => ?_) (fun h5 => False.elim (by revert h5; decide))
    refine v_iconst (pc := 31) (v := 1) hX (by decide) d_Bl_isSameMarked_31 ?_
    exact f_zret (pc := 32) hX hR (bT hIk) (rfl) d_Bl_isSameMarked_32
theorem d_Bl_alike_0 : decode c_Bl_alike 0 = .ok (.bipush (-9), 2) := by decide +kernel
theorem d_Bl_alike_2 : decode c_Bl_alike 2 = .ok (.istore_n 2, 1) := by decide +kernel
theorem d_Bl_alike_3 : decode c_Bl_alike 3 = .ok (.iconst 1, 1) := by decide +kernel
theorem d_Bl_alike_4 : decode c_Bl_alike 4 = .ok (.istore_n 3, 1) := by decide +kernel
theorem d_Bl_alike_5 : decode c_Bl_alike 5 = .ok (.iload_n 3, 1) := by decide +kernel
theorem d_Bl_alike_6 : decode c_Bl_alike 6 = .ok (.aload_n 0, 1) := by decide +kernel
theorem d_Bl_alike_7 : decode c_Bl_alike 7 = .ok (.invokevirtual 24, 3) := by decide +kernel
theorem d_Bl_alike_10 : decode c_Bl_alike 10 = .ok (.if_icmp .ge 59, 3) := by decide +kernel
theorem d_Bl_alike_13 : decode c_Bl_alike 13 = .ok (.iload_n 2, 1) := by decide +kernel
theorem d_Bl_alike_14 : decode c_Bl_alike 14 = .ok (.bipush (-9), 2) := by decide +kernel
theorem d_Bl_alike_16 : decode c_Bl_alike 16 = .ok (.if_icmp .eq 14, 3) := by decide +kernel
theorem d_Bl_alike_19 : decode c_Bl_alike 19 = .ok (.iload_n 3, 1) := by decide +kernel
theorem d_Bl_alike_20 : decode c_Bl_alike 20 = .ok (.invokestatic 43, 3) := by decide +kernel
theorem d_Bl_alike_23 : decode c_Bl_alike 23 = .ok (.iload_n 2, 1) := by decide +kernel
theorem d_Bl_alike_24 : decode c_Bl_alike 24 = .ok (.invokestatic 43, 3) := by decide +kernel
theorem d_Bl_alike_27 : decode c_Bl_alike 27 = .ok (.if_icmp .ge 7, 3) := by decide +kernel
theorem d_Bl_alike_30 : decode c_Bl_alike 30 = .ok (.iconst 1, 1) := by decide +kernel
theorem d_Bl_alike_31 : decode c_Bl_alike 31 = .ok (.goto 4, 3) := by decide +kernel
theorem d_Bl_alike_34 : decode c_Bl_alike 34 = .ok (.iconst 0, 1) := by decide +kernel
theorem d_Bl_alike_35 : decode c_Bl_alike 35 = .ok (.istore 4, 2) := by decide +kernel
theorem d_Bl_alike_37 : decode c_Bl_alike 37 = .ok (.iload 4, 2) := by decide +kernel
theorem d_Bl_alike_39 : decode c_Bl_alike 39 = .ok (.ifCond .eq 24, 3) := by decide +kernel
theorem d_Bl_alike_42 : decode c_Bl_alike 42 = .ok (.iload_n 3, 1) := by decide +kernel
theorem d_Bl_alike_43 : decode c_Bl_alike 43 = .ok (.iload_n 1, 1) := by decide +kernel
theorem d_Bl_alike_44 : decode c_Bl_alike 44 = .ok (.ishr, 1) := by decide +kernel
theorem d_Bl_alike_45 : decode c_Bl_alike 45 = .ok (.iconst 1, 1) := by decide +kernel
theorem d_Bl_alike_46 : decode c_Bl_alike 46 = .ok (.iand, 1) := by decide +kernel
theorem d_Bl_alike_47 : decode c_Bl_alike 47 = .ok (.ifCond .ne 16, 3) := by decide +kernel
theorem d_Bl_alike_50 : decode c_Bl_alike 50 = .ok (.aload_n 0, 1) := by decide +kernel
theorem d_Bl_alike_51 : decode c_Bl_alike 51 = .ok (.iload_n 3, 1) := by decide +kernel
theorem d_Bl_alike_52 : decode c_Bl_alike 52 = .ok (.iconst 1, 1) := by decide +kernel
theorem d_Bl_alike_53 : decode c_Bl_alike 53 = .ok (.iload_n 1, 1) := by decide +kernel
theorem d_Bl_alike_54 : decode c_Bl_alike 54 = .ok (.ishl, 1) := by decide +kernel
theorem d_Bl_alike_55 : decode c_Bl_alike 55 = .ok (.invokestatic 54, 3) := by decide +kernel
theorem d_Bl_alike_58 : decode c_Bl_alike 58 = .ok (.ifCond .eq 5, 3) := by decide +kernel
theorem d_Bl_alike_61 : decode c_Bl_alike 61 = .ok (.iload_n 3, 1) := by decide +kernel
theorem d_Bl_alike_62 : decode c_Bl_alike 62 = .ok (.istore_n 2, 1) := by decide +kernel
theorem d_Bl_alike_63 : decode c_Bl_alike 63 = .ok (.iinc 3 1, 3) := by decide +kernel
theorem d_Bl_alike_66 : decode c_Bl_alike 66 = .ok (.goto (-61), 3) := by decide +kernel
theorem d_Bl_alike_69 : decode c_Bl_alike 69 = .ok (.iload_n 2, 1) := by decide +kernel
theorem d_Bl_alike_70 : decode c_Bl_alike 70 = .ok (.ireturn, 1) := by decide +kernel
set_option maxHeartbeats 4000000 in
theorem C_Bl_alike {M : MM} {n j : Nat} {J : JT} (hJ : CJ M n J) (hj : j < n) : AF y_Bl_alike c_Bl_alike 5 (some .int) 4 [vR 3, vI (i3 j)] (M) (some (vI (en (al J n j (2 ^ n - 1))))) (M) := by
  have h6 := hJ.1
  have hM := hJ.2.1
  have hp := pow6 h6
  have h2j : 2 ^ j < 64 := Nat.lt_of_lt_of_le (Nat.pow_lt_pow_right (by decide) hj) hp
  refine AF.of k_Bl_alike (lo := [some (vR 3), some (vI (i3 j)), none, none, none]) rfl (Nat.le_of_ble_eq_true rfl) (fun X hX hR => ?_)
  refine v_bipush (pc := 0) (v := (-9)) hX (by decide) d_Bl_alike_0 ?_
  refine v_istore_n (pc := 2) (lo' := [some (vR _), some (vI _), some (vI _), none, none]) hX (Nat.le_of_ble_eq_true rfl) rfl d_Bl_alike_2 ?_
  refine v_iconst (pc := 3) (v := 1) hX (by decide) d_Bl_alike_3 ?_
  refine v_istore_n (pc := 4) (lo' := [some (vR _), some (vI _), some (vI _), some (vI _), none]) hX (Nat.le_of_ble_eq_true rfl) rfl d_Bl_alike_4 ?_
  refine VW.cast (lo' := [some (vR 3), some (vI (i3 j)), some (vI (en (al J n j 0))), some (vI (i3 (0 + 1))), none]) (st' := []) (G' := gM (M)) rfl rfl rfl ?_
  refine v_for (X := X) (head := 5) (2 ^ n - 1) (fun kk => [some (vR 3), some (vI (i3 j)), some (vI (en (al J n j kk))), some (vI (i3 (kk + 1))), none]) (fun kk => M) (fun k hk ih5 => ?_) ?_
  · show VW X 5 [some (vR 3), some (vI (i3 j)), some (vI (en (al J n j k))), some (vI (i3 (k + 1))), none] [] (gM (M))
    have hs : k + 1 < 64 := by omega
    have hcl := al_le J n j k
    have hc6 : al J n j k < 64 := by omega
    have hb := bt_i3 (k + 1) hs j (by omega)
    have hsh := shl_i3 j (by omega)
    refine v_iload_n (pc := 5) hX rfl d_Bl_alike_5 ?_
    refine v_aload_n (pc := 6) hX rfl d_Bl_alike_6 ?_
    refine f_callV (pc := 7) hX k_Sp_setsEnd ki_Sp_setsEnd kv_Sp_setsEnd ml_Bl_24 (C_Sp_setsEnd hJ) rfl rfl rfl rfl rfl (Nat.le_of_ble_eq_true rfl) (Nat.le_of_ble_eq_true rfl) (Nat.le_of_ble_eq_true rfl) d_Bl_alike_7 ?_
    refine v_icmp_ge (pc := 10) (tgt := 69) hX d_Bl_alike_10 rfl (fun h10 => False.elim (i3_ge_abs (k := k + 1) (n := 2 ^ n) (by omega) (by omega) h10)) (fun h10 => ?_)
    refine v_iload_n (pc := 13) hX rfl d_Bl_alike_13 ?_
    refine v_bipush (pc := 14) (v := (-9)) hX (by decide) d_Bl_alike_14 ?_
    refine v_icmp_eq (pc := 16) (tgt := 30) hX d_Bl_alike_16 rfl (fun h16 => ?_) (fun h16 => ?_)
    · have a1 := (en_none hc6).mp h16
      have a2 := a1
      refine v_iconst (pc := 30) (v := 1) hX (by decide) d_Bl_alike_30 ?_
      refine v_goto (pc := 31) (tgt := 35) hX d_Bl_alike_31 rfl ?_
      refine v_istore (pc := 35) (lo' := [some (vR _), some (vI _), some (vI _), some (vI _), some (vI _)]) hX (Nat.le_of_ble_eq_true rfl) rfl d_Bl_alike_35 ?_
      refine v_iload (pc := 37) hX rfl d_Bl_alike_37 ?_
      refine v_if_eq (pc := 39) (tgt := 63) hX d_Bl_alike_39 rfl (fun h39 => False.elim (by revert h39; decide)) (fun h39 => ?_)
      refine v_iload_n (pc := 42) hX rfl d_Bl_alike_42 ?_
      refine v_iload_n (pc := 43) hX rfl d_Bl_alike_43 ?_
      refine v_ishr (pc := 44) hX d_Bl_alike_44 ?_
      refine v_iconst (pc := 45) (v := 1) hX (by decide) d_Bl_alike_45 ?_
      refine v_iand (pc := 46) hX d_Bl_alike_46 ?_
      refine v_if_ne (pc := 47) (tgt := 63) hX d_Bl_alike_47 rfl (fun h47 => ?_) (fun h47 => ?_)
      · have a3 : ¬ bt (k + 1) j = 0 := fun q => by rw [hb, q] at h47; exact h47 rfl
        have e : al J n j (k + 1) = al J n j k := if_neg (by simp [alC, a3])
        refine v_iinc (pc := 63) (lo' := [some (vR _), some (vI _), some (vI _), some (vI _), some (vI _)]) hX rfl rfl d_Bl_alike_63 ?_
        refine v_goto (pc := 66) (tgt := 5) hX d_Bl_alike_66 rfl ?_
        refine VW.fg [true, true, true, true, false] ?_
        exact VW.cast (by first | (rw [e, en_p (Nat.succ_ne_zero k), i3_succ (k + 1)]; rfl) | (rw [e, i3_succ (k + 1)]; rfl) | (rw [e, i3_succ (k + 1), en_p a1]; rfl)) rfl rfl ih5
      · have a3 : bt (k + 1) j = 0 := by
          rcases bt_01 (k + 1) j with h | h
          · exact h
          · rw [hb, h] at h47; exact absurd h47 (by decide)
        refine v_aload_n (pc := 50) hX rfl d_Bl_alike_50 ?_
        refine v_iload_n (pc := 51) hX rfl d_Bl_alike_51 ?_
        refine v_iconst (pc := 52) (v := 1) hX (by decide) d_Bl_alike_52 ?_
        refine v_iload_n (pc := 53) hX rfl d_Bl_alike_53 ?_
        refine v_ishl (pc := 54) hX d_Bl_alike_54 ?_
        rw [hsh]
        refine f_callS (pc := 55) hX k_Bl_isSameMarked ks_Bl_isSameMarked ml_Bl_54 (C_Bl_isSameMarked (t := 2 ^ j) hJ hs h2j) rfl rfl rfl (Nat.le_of_ble_eq_true rfl) (Nat.le_of_ble_eq_true rfl) (Nat.le_of_ble_eq_true rfl) d_Bl_alike_55 ?_
        refine f_ifeqB (pc := 58) (tgt := 63) hX d_Bl_alike_58 rfl (fun h58 => ?_) (fun h58 => ?_)
        · have e : al J n j (k + 1) = al J n j k := if_neg (by simp [alC, h58])
          refine v_iinc (pc := 63) (lo' := [some (vR _), some (vI _), some (vI _), some (vI _), some (vI _)]) hX rfl rfl d_Bl_alike_63 ?_
          refine v_goto (pc := 66) (tgt := 5) hX d_Bl_alike_66 rfl ?_
          refine VW.fg [true, true, true, true, false] ?_
          exact VW.cast (by first | (rw [e, en_p (Nat.succ_ne_zero k), i3_succ (k + 1)]; rfl) | (rw [e, i3_succ (k + 1)]; rfl) | (rw [e, i3_succ (k + 1), en_p a1]; rfl)) rfl rfl ih5
        · have e : al J n j (k + 1) = k + 1 := if_pos (by simp [alC, a1, a2, a3, h58])
          refine v_iload_n (pc := 61) hX rfl d_Bl_alike_61 ?_
          refine v_istore_n (pc := 62) (lo' := [some (vR _), some (vI _), some (vI _), some (vI _), some (vI _)]) hX (Nat.le_of_ble_eq_true rfl) rfl d_Bl_alike_62 ?_
          refine v_iinc (pc := 63) (lo' := [some (vR _), some (vI _), some (vI _), some (vI _), some (vI _)]) hX rfl rfl d_Bl_alike_63 ?_
          refine v_goto (pc := 66) (tgt := 5) hX d_Bl_alike_66 rfl ?_
          refine VW.fg [true, true, true, true, false] ?_
          exact VW.cast (by first | (rw [e, en_p (Nat.succ_ne_zero k), i3_succ (k + 1)]; rfl) | (rw [e, i3_succ (k + 1)]; rfl) | (rw [e, i3_succ (k + 1), en_p a1]; rfl)) rfl rfl ih5
    · have a1 : ¬ al J n j k = 0 := fun q => h16 ((en_none hc6).mpr q)
      rw [en_p a1]
      refine v_iload_n (pc := 19) hX rfl d_Bl_alike_19 ?_
      refine f_callS (pc := 20) hX k_jI_bitCount ks_jI_bitCount ml_Bl_43 (C_jI_bitCount) rfl rfl rfl (Nat.le_of_ble_eq_true rfl) (Nat.le_of_ble_eq_true rfl) (Nat.le_of_ble_eq_true rfl) d_Bl_alike_20 ?_
      refine v_iload_n (pc := 23) hX rfl d_Bl_alike_23 ?_
      refine f_callS (pc := 24) hX k_jI_bitCount ks_jI_bitCount ml_Bl_43 (C_jI_bitCount) rfl rfl rfl (Nat.le_of_ble_eq_true rfl) (Nat.le_of_ble_eq_true rfl) (Nat.le_of_ble_eq_true rfl) d_Bl_alike_24 ?_
      refine v_icmp_ge (pc := 27) (tgt := 34) hX d_Bl_alike_27 rfl (fun h27 => ?_) (fun h27 => ?_)
      · rw [jbc_pop _ hs, jbc_pop _ hc6] at h27
        rw [← en_p a1]
        have a2 : ¬ pop 6 (k + 1) < pop 6 (al J n j k) := by
          have := (i3_le (by have := pop_lt hc6; omega) (by have := pop_lt hs; omega)).mp h27
          omega
        have e : al J n j (k + 1) = al J n j k := if_neg (by simp [alC, a1, a2])
        refine v_iconst (pc := 34) (v := 0) hX (by decide) d_Bl_alike_34 ?_
        refine v_istore (pc := 35) (lo' := [some (vR _), some (vI _), some (vI _), some (vI _), some (vI _)]) hX (Nat.le_of_ble_eq_true rfl) rfl d_Bl_alike_35 ?_
        refine v_iload (pc := 37) hX rfl d_Bl_alike_37 ?_
        refine v_if_eq (pc := 39) (tgt := 63) hX d_Bl_alike_39 rfl (fun h39 => ?_) (fun h39 => False.elim (by revert h39; decide))
        refine v_iinc (pc := 63) (lo' := [some (vR _), some (vI _), some (vI _), some (vI _), some (vI _)]) hX rfl rfl d_Bl_alike_63 ?_
        refine v_goto (pc := 66) (tgt := 5) hX d_Bl_alike_66 rfl ?_
        refine VW.fg [true, true, true, true, false] ?_
        exact VW.cast (by first | (rw [e, en_p (Nat.succ_ne_zero k), i3_succ (k + 1)]; rfl) | (rw [e, i3_succ (k + 1)]; rfl) | (rw [e, i3_succ (k + 1), en_p a1]; rfl)) rfl rfl ih5
      · rw [jbc_pop _ hs, jbc_pop _ hc6] at h27
        rw [← en_p a1]
        have a2 : pop 6 (k + 1) < pop 6 (al J n j k) := by
          exact Nat.lt_of_not_le (fun q => h27 ((i3_le (by have := pop_lt hc6; omega) (by have := pop_lt hs; omega)).mpr q))
        refine v_iconst (pc := 30) (v := 1) hX (by decide) d_Bl_alike_30 ?_
        refine v_goto (pc := 31) (tgt := 35) hX d_Bl_alike_31 rfl ?_
        refine v_istore (pc := 35) (lo' := [some (vR _), some (vI _), some (vI _), some (vI _), some (vI _)]) hX (Nat.le_of_ble_eq_true rfl) rfl d_Bl_alike_35 ?_
        refine v_iload (pc := 37) hX rfl d_Bl_alike_37 ?_
        refine v_if_eq (pc := 39) (tgt := 63) hX d_Bl_alike_39 rfl (fun h39 => False.elim (by revert h39; decide)) (fun h39 => ?_)
        refine v_iload_n (pc := 42) hX rfl d_Bl_alike_42 ?_
        refine v_iload_n (pc := 43) hX rfl d_Bl_alike_43 ?_
        refine v_ishr (pc := 44) hX d_Bl_alike_44 ?_
        refine v_iconst (pc := 45) (v := 1) hX (by decide) d_Bl_alike_45 ?_
        refine v_iand (pc := 46) hX d_Bl_alike_46 ?_
        refine v_if_ne (pc := 47) (tgt := 63) hX d_Bl_alike_47 rfl (fun h47 => ?_) (fun h47 => ?_)
        · have a3 : ¬ bt (k + 1) j = 0 := fun q => by rw [hb, q] at h47; exact h47 rfl
          have e : al J n j (k + 1) = al J n j k := if_neg (by simp [alC, a3])
          refine v_iinc (pc := 63) (lo' := [some (vR _), some (vI _), some (vI _), some (vI _), some (vI _)]) hX rfl rfl d_Bl_alike_63 ?_
          refine v_goto (pc := 66) (tgt := 5) hX d_Bl_alike_66 rfl ?_
          refine VW.fg [true, true, true, true, false] ?_
          exact VW.cast (by first | (rw [e, en_p (Nat.succ_ne_zero k), i3_succ (k + 1)]; rfl) | (rw [e, i3_succ (k + 1)]; rfl) | (rw [e, i3_succ (k + 1), en_p a1]; rfl)) rfl rfl ih5
        · have a3 : bt (k + 1) j = 0 := by
            rcases bt_01 (k + 1) j with h | h
            · exact h
            · rw [hb, h] at h47; exact absurd h47 (by decide)
          refine v_aload_n (pc := 50) hX rfl d_Bl_alike_50 ?_
          refine v_iload_n (pc := 51) hX rfl d_Bl_alike_51 ?_
          refine v_iconst (pc := 52) (v := 1) hX (by decide) d_Bl_alike_52 ?_
          refine v_iload_n (pc := 53) hX rfl d_Bl_alike_53 ?_
          refine v_ishl (pc := 54) hX d_Bl_alike_54 ?_
          rw [hsh]
          refine f_callS (pc := 55) hX k_Bl_isSameMarked ks_Bl_isSameMarked ml_Bl_54 (C_Bl_isSameMarked (t := 2 ^ j) hJ hs h2j) rfl rfl rfl (Nat.le_of_ble_eq_true rfl) (Nat.le_of_ble_eq_true rfl) (Nat.le_of_ble_eq_true rfl) d_Bl_alike_55 ?_
          refine f_ifeqB (pc := 58) (tgt := 63) hX d_Bl_alike_58 rfl (fun h58 => ?_) (fun h58 => ?_)
          · have e : al J n j (k + 1) = al J n j k := if_neg (by simp [alC, h58])
            refine v_iinc (pc := 63) (lo' := [some (vR _), some (vI _), some (vI _), some (vI _), some (vI _)]) hX rfl rfl d_Bl_alike_63 ?_
            refine v_goto (pc := 66) (tgt := 5) hX d_Bl_alike_66 rfl ?_
            refine VW.fg [true, true, true, true, false] ?_
            exact VW.cast (by first | (rw [e, en_p (Nat.succ_ne_zero k), i3_succ (k + 1)]; rfl) | (rw [e, i3_succ (k + 1)]; rfl) | (rw [e, i3_succ (k + 1), en_p a1]; rfl)) rfl rfl ih5
          · have e : al J n j (k + 1) = k + 1 := if_pos (by simp [alC, a1, a2, a3, h58])
            refine v_iload_n (pc := 61) hX rfl d_Bl_alike_61 ?_
            refine v_istore_n (pc := 62) (lo' := [some (vR _), some (vI _), some (vI _), some (vI _), some (vI _)]) hX (Nat.le_of_ble_eq_true rfl) rfl d_Bl_alike_62 ?_
            refine v_iinc (pc := 63) (lo' := [some (vR _), some (vI _), some (vI _), some (vI _), some (vI _)]) hX rfl rfl d_Bl_alike_63 ?_
            refine v_goto (pc := 66) (tgt := 5) hX d_Bl_alike_66 rfl ?_
            refine VW.fg [true, true, true, true, false] ?_
            exact VW.cast (by first | (rw [e, en_p (Nat.succ_ne_zero k), i3_succ (k + 1)]; rfl) | (rw [e, i3_succ (k + 1)]; rfl) | (rw [e, i3_succ (k + 1), en_p a1]; rfl)) rfl rfl ih5
  · show VW X 5 [some (vR 3), some (vI (i3 j)), some (vI (en (al J n j (2 ^ n - 1)))), some (vI (i3 ((2 ^ n - 1) + 1))), none] [] (gM (M))
    refine v_iload_n (pc := 5) hX rfl d_Bl_alike_5 ?_
    refine v_aload_n (pc := 6) hX rfl d_Bl_alike_6 ?_
    refine f_callV (pc := 7) hX k_Sp_setsEnd ki_Sp_setsEnd kv_Sp_setsEnd ml_Bl_24 (C_Sp_setsEnd hJ) rfl rfl rfl rfl rfl (Nat.le_of_ble_eq_true rfl) (Nat.le_of_ble_eq_true rfl) (Nat.le_of_ble_eq_true rfl) d_Bl_alike_7 ?_
    refine v_icmp_ge (pc := 10) (tgt := 69) hX d_Bl_alike_10 rfl (fun h10 => ?_) (fun h10 => False.elim (absurd set_end h10))
    refine v_iload_n (pc := 69) hX rfl d_Bl_alike_69 ?_
    exact f_iret (pc := 70) hX hR (rfl) (rfl) d_Bl_alike_70
theorem hms_i3 : ∀ s, s < 64 → ((1 : Int32) <<< (jbc (i3 s) &&& 31)) - 1 = i3 (2 ^ pop 6 s - 1) := by decide +kernel
theorem d_Bl_howManyStocked_0 : decode c_Bl_howManyStocked 0 = .ok (.iconst 1, 1) := by decide +kernel
theorem d_Bl_howManyStocked_1 : decode c_Bl_howManyStocked 1 = .ok (.aload_n 0, 1) := by decide +kernel
theorem d_Bl_howManyStocked_2 : decode c_Bl_howManyStocked 2 = .ok (.invokevirtual 20, 3) := by decide +kernel
theorem d_Bl_howManyStocked_5 : decode c_Bl_howManyStocked 5 = .ok (.invokestatic 43, 3) := by decide +kernel
theorem d_Bl_howManyStocked_8 : decode c_Bl_howManyStocked 8 = .ok (.ishl, 1) := by decide +kernel
theorem d_Bl_howManyStocked_9 : decode c_Bl_howManyStocked 9 = .ok (.iconst 1, 1) := by decide +kernel
theorem d_Bl_howManyStocked_10 : decode c_Bl_howManyStocked 10 = .ok (.isub, 1) := by decide +kernel
theorem d_Bl_howManyStocked_11 : decode c_Bl_howManyStocked 11 = .ok (.ireturn, 1) := by decide +kernel
theorem C_Bl_howManyStocked {M : MM} {n : Nat} {J : JT} (hJ : CJ M n J) : AF y_Bl_howManyStocked c_Bl_howManyStocked 1 (some .int) 2 [vR 3] (M) (some (vI (i3 (2 ^ pop 6 (stN J n) - 1)))) (M) := by
  refine AF.of k_Bl_howManyStocked (lo := [some (vR 3)]) rfl (Nat.le_of_ble_eq_true rfl) (fun X hX hR => ?_)
  refine v_iconst (pc := 0) (v := 1) hX (by decide) d_Bl_howManyStocked_0 ?_
  refine v_aload_n (pc := 1) hX rfl d_Bl_howManyStocked_1 ?_
  refine f_callV (pc := 2) hX k_Sp_stocked ki_Sp_stocked kv_Sp_stocked ml_Bl_20 (C_Sp_stocked hJ) rfl rfl rfl rfl rfl (Nat.le_of_ble_eq_true rfl) (Nat.le_of_ble_eq_true rfl) (Nat.le_of_ble_eq_true rfl) d_Bl_howManyStocked_2 ?_
  refine f_callS (pc := 5) hX k_jI_bitCount ks_jI_bitCount ml_Bl_43 (C_jI_bitCount) rfl rfl rfl (Nat.le_of_ble_eq_true rfl) (Nat.le_of_ble_eq_true rfl) (Nat.le_of_ble_eq_true rfl) d_Bl_howManyStocked_5 ?_
  refine v_ishl (pc := 8) hX d_Bl_howManyStocked_8 ?_
  refine v_iconst (pc := 9) (v := 1) hX (by decide) d_Bl_howManyStocked_9 ?_
  refine v_isub (pc := 10) hX d_Bl_howManyStocked_10 ?_
  exact f_iret (pc := 11) hX hR (hms_i3 _ (Nat.lt_of_lt_of_le (stN_lt J n) (pow6 hJ.1))) (rfl) d_Bl_howManyStocked_11
theorem d_Bl_howManyDeciding_0 : decode c_Bl_howManyDeciding 0 = .ok (.aload_n 0, 1) := by decide +kernel
theorem d_Bl_howManyDeciding_1 : decode c_Bl_howManyDeciding 1 = .ok (.invokevirtual 20, 3) := by decide +kernel
theorem d_Bl_howManyDeciding_4 : decode c_Bl_howManyDeciding 4 = .ok (.istore_n 2, 1) := by decide +kernel
theorem d_Bl_howManyDeciding_5 : decode c_Bl_howManyDeciding 5 = .ok (.iconst 0, 1) := by decide +kernel
theorem d_Bl_howManyDeciding_6 : decode c_Bl_howManyDeciding 6 = .ok (.istore_n 3, 1) := by decide +kernel
theorem d_Bl_howManyDeciding_7 : decode c_Bl_howManyDeciding 7 = .ok (.iconst 1, 1) := by decide +kernel
theorem d_Bl_howManyDeciding_8 : decode c_Bl_howManyDeciding 8 = .ok (.istore 4, 2) := by decide +kernel
theorem d_Bl_howManyDeciding_10 : decode c_Bl_howManyDeciding 10 = .ok (.iload 4, 2) := by decide +kernel
theorem d_Bl_howManyDeciding_12 : decode c_Bl_howManyDeciding 12 = .ok (.aload_n 0, 1) := by decide +kernel
theorem d_Bl_howManyDeciding_13 : decode c_Bl_howManyDeciding 13 = .ok (.invokevirtual 24, 3) := by decide +kernel
theorem d_Bl_howManyDeciding_16 : decode c_Bl_howManyDeciding 16 = .ok (.if_icmp .ge 36, 3) := by decide +kernel
theorem d_Bl_howManyDeciding_19 : decode c_Bl_howManyDeciding 19 = .ok (.iload_n 3, 1) := by decide +kernel
theorem d_Bl_howManyDeciding_20 : decode c_Bl_howManyDeciding 20 = .ok (.iload 4, 2) := by decide +kernel
theorem d_Bl_howManyDeciding_22 : decode c_Bl_howManyDeciding 22 = .ok (.iload_n 2, 1) := by decide +kernel
theorem d_Bl_howManyDeciding_23 : decode c_Bl_howManyDeciding 23 = .ok (.iconst (-1), 1) := by decide +kernel
theorem d_Bl_howManyDeciding_24 : decode c_Bl_howManyDeciding 24 = .ok (.ixor, 1) := by decide +kernel
theorem d_Bl_howManyDeciding_25 : decode c_Bl_howManyDeciding 25 = .ok (.iand, 1) := by decide +kernel
theorem d_Bl_howManyDeciding_26 : decode c_Bl_howManyDeciding 26 = .ok (.ifCond .ne 17, 3) := by decide +kernel
theorem d_Bl_howManyDeciding_29 : decode c_Bl_howManyDeciding 29 = .ok (.aload_n 0, 1) := by decide +kernel
theorem d_Bl_howManyDeciding_30 : decode c_Bl_howManyDeciding 30 = .ok (.aload_n 1, 1) := by decide +kernel
theorem d_Bl_howManyDeciding_31 : decode c_Bl_howManyDeciding 31 = .ok (.iload 4, 2) := by decide +kernel
theorem d_Bl_howManyDeciding_33 : decode c_Bl_howManyDeciding 33 = .ok (.invokestatic 37, 3) := by decide +kernel
theorem d_Bl_howManyDeciding_36 : decode c_Bl_howManyDeciding 36 = .ok (.ifCond .eq 7, 3) := by decide +kernel
theorem d_Bl_howManyDeciding_39 : decode c_Bl_howManyDeciding 39 = .ok (.iconst 1, 1) := by decide +kernel
theorem d_Bl_howManyDeciding_40 : decode c_Bl_howManyDeciding 40 = .ok (.goto 4, 3) := by decide +kernel
theorem d_Bl_howManyDeciding_43 : decode c_Bl_howManyDeciding 43 = .ok (.iconst 0, 1) := by decide +kernel
theorem d_Bl_howManyDeciding_44 : decode c_Bl_howManyDeciding 44 = .ok (.iadd, 1) := by decide +kernel
theorem d_Bl_howManyDeciding_45 : decode c_Bl_howManyDeciding 45 = .ok (.istore_n 3, 1) := by decide +kernel
theorem d_Bl_howManyDeciding_46 : decode c_Bl_howManyDeciding 46 = .ok (.iinc 4 1, 3) := by decide +kernel
theorem d_Bl_howManyDeciding_49 : decode c_Bl_howManyDeciding 49 = .ok (.goto (-39), 3) := by decide +kernel
theorem d_Bl_howManyDeciding_52 : decode c_Bl_howManyDeciding 52 = .ok (.iload_n 3, 1) := by decide +kernel
theorem d_Bl_howManyDeciding_53 : decode c_Bl_howManyDeciding 53 = .ok (.ireturn, 1) := by decide +kernel
theorem C_Bl_howManyDeciding {M : MM} {n d : Nat} {J : JT} (hJ : CJ M n J) (hd : SH[d]? = some (0, 0)) : AF y_Bl_howManyDeciding c_Bl_howManyDeciding 5 (some .int) 4 [vR 3, vR d] (M) (some (vI (i3 (cntB (fun s => sb s (stN J n) && dcB J (M d 0) (M d 1) n s) (2 ^ n - 1))))) (M) := by
  have h6 := hJ.1
  have hM := hJ.2.1
  have hp := pow6 h6
  have hst : stN J n < 64 := Nat.lt_of_lt_of_le (stN_lt J n) hp
  refine AF.of k_Bl_howManyDeciding (lo := [some (vR 3), some (vR d), none, none, none]) rfl (Nat.le_of_ble_eq_true rfl) (fun X hX hR => ?_)
  refine v_aload_n (pc := 0) hX rfl d_Bl_howManyDeciding_0 ?_
  refine f_callV (pc := 1) hX k_Sp_stocked ki_Sp_stocked kv_Sp_stocked ml_Bl_20 (C_Sp_stocked hJ) rfl rfl rfl rfl rfl (Nat.le_of_ble_eq_true rfl) (Nat.le_of_ble_eq_true rfl) (Nat.le_of_ble_eq_true rfl) d_Bl_howManyDeciding_1 ?_
  refine v_istore_n (pc := 4) (lo' := [some (vR _), some (vR _), some (vI _), none, none]) hX (Nat.le_of_ble_eq_true rfl) rfl d_Bl_howManyDeciding_4 ?_
  refine v_iconst (pc := 5) (v := 0) hX (by decide) d_Bl_howManyDeciding_5 ?_
  refine v_istore_n (pc := 6) (lo' := [some (vR _), some (vR _), some (vI _), some (vI _), none]) hX (Nat.le_of_ble_eq_true rfl) rfl d_Bl_howManyDeciding_6 ?_
  refine v_iconst (pc := 7) (v := 1) hX (by decide) d_Bl_howManyDeciding_7 ?_
  refine v_istore (pc := 8) (lo' := [some (vR _), some (vR _), some (vI _), some (vI _), some (vI _)]) hX (Nat.le_of_ble_eq_true rfl) rfl d_Bl_howManyDeciding_8 ?_
  refine VW.cast (lo' := [some (vR 3), some (vR d), some (vI (i3 (stN J n))), some (vI (i3 (cntB (fun s => sb s (stN J n) && dcB J (M d 0) (M d 1) n s) 0))), some (vI (i3 (0 + 1)))]) (st' := []) (G' := gM (M)) rfl rfl rfl ?_
  refine v_for (X := X) (head := 10) (2 ^ n - 1) (fun kk => [some (vR 3), some (vR d), some (vI (i3 (stN J n))), some (vI (i3 (cntB (fun s => sb s (stN J n) && dcB J (M d 0) (M d 1) n s) kk))), some (vI (i3 (kk + 1)))]) (fun kk => M) (fun k hk ih10 => ?_) ?_
  · show VW X 10 [some (vR 3), some (vR d), some (vI (i3 (stN J n))), some (vI (i3 (cntB (fun s => sb s (stN J n) && dcB J (M d 0) (M d 1) n s) k))), some (vI (i3 (k + 1)))] [] (gM (M))
    have hs : k + 1 < 64 := by omega
    refine v_iload (pc := 10) hX rfl d_Bl_howManyDeciding_10 ?_
    refine v_aload_n (pc := 12) hX rfl d_Bl_howManyDeciding_12 ?_
    refine f_callV (pc := 13) hX k_Sp_setsEnd ki_Sp_setsEnd kv_Sp_setsEnd ml_Bl_24 (C_Sp_setsEnd hJ) rfl rfl rfl rfl rfl (Nat.le_of_ble_eq_true rfl) (Nat.le_of_ble_eq_true rfl) (Nat.le_of_ble_eq_true rfl) d_Bl_howManyDeciding_13 ?_
    refine v_icmp_ge (pc := 16) (tgt := 52) hX d_Bl_howManyDeciding_16 rfl (fun h16 => False.elim (i3_ge_abs (k := k + 1) (n := 2 ^ n) (by omega) (by omega) h16)) (fun h16 => ?_)
    refine v_iload_n (pc := 19) hX rfl d_Bl_howManyDeciding_19 ?_
    refine v_iload (pc := 20) hX rfl d_Bl_howManyDeciding_20 ?_
    refine v_iload_n (pc := 22) hX rfl d_Bl_howManyDeciding_22 ?_
    refine v_iconst (pc := 23) (v := (-1)) hX (by decide) d_Bl_howManyDeciding_23 ?_
    refine v_ixor (pc := 24) hX d_Bl_howManyDeciding_24 ?_
    refine v_iand (pc := 25) hX d_Bl_howManyDeciding_25 ?_
    refine v_if_ne (pc := 26) (tgt := 43) hX d_Bl_howManyDeciding_26 rfl (fun h26 => ?_) (fun h26 => ?_)
    · have a1 := sb_f hs hst h26
      have e : cntB (fun s => sb s (stN J n) && dcB J (M d 0) (M d 1) n s) (k + 1) = cntB (fun s => sb s (stN J n) && dcB J (M d 0) (M d 1) n s) k := by simp [cntB, a1]
      refine v_iconst (pc := 43) (v := 0) hX (by decide) d_Bl_howManyDeciding_43 ?_
      refine v_iadd (pc := 44) hX d_Bl_howManyDeciding_44 ?_
      refine v_istore_n (pc := 45) (lo' := [some (vR _), some (vR _), some (vI _), some (vI _), some (vI _)]) hX (Nat.le_of_ble_eq_true rfl) rfl d_Bl_howManyDeciding_45 ?_
      refine v_iinc (pc := 46) (lo' := [some (vR _), some (vR _), some (vI _), some (vI _), some (vI _)]) hX rfl rfl d_Bl_howManyDeciding_46 ?_
      refine v_goto (pc := 49) (tgt := 10) hX d_Bl_howManyDeciding_49 rfl ?_
      exact VW.cast (by first | (rw [e, i3_succ (k + 1), i3_succ]; rfl) | (rw [e, i3_succ (k + 1), Int32.add_zero]; rfl)) rfl rfl ih10
    · have a1 := sb_t hs hst h26
      refine v_aload_n (pc := 29) hX rfl d_Bl_howManyDeciding_29 ?_
      refine v_aload_n (pc := 30) hX rfl d_Bl_howManyDeciding_30 ?_
      refine v_iload (pc := 31) hX rfl d_Bl_howManyDeciding_31 ?_
      refine f_callS (pc := 33) hX k_Bl_decides ks_Bl_decides ml_Bl_37 (C_Bl_decides hJ (by assumption) (by assumption)) rfl rfl rfl (Nat.le_of_ble_eq_true rfl) (Nat.le_of_ble_eq_true rfl) (Nat.le_of_ble_eq_true rfl) d_Bl_howManyDeciding_33 ?_
      refine f_ifeqB (pc := 36) (tgt := 43) hX d_Bl_howManyDeciding_36 rfl (fun h36 => ?_) (fun h36 => ?_)
      · have e : cntB (fun s => sb s (stN J n) && dcB J (M d 0) (M d 1) n s) (k + 1) = cntB (fun s => sb s (stN J n) && dcB J (M d 0) (M d 1) n s) k := by simp [cntB, h36]
        refine v_iconst (pc := 43) (v := 0) hX (by decide) d_Bl_howManyDeciding_43 ?_
        refine v_iadd (pc := 44) hX d_Bl_howManyDeciding_44 ?_
        refine v_istore_n (pc := 45) (lo' := [some (vR _), some (vR _), some (vI _), some (vI _), some (vI _)]) hX (Nat.le_of_ble_eq_true rfl) rfl d_Bl_howManyDeciding_45 ?_
        refine v_iinc (pc := 46) (lo' := [some (vR _), some (vR _), some (vI _), some (vI _), some (vI _)]) hX rfl rfl d_Bl_howManyDeciding_46 ?_
        refine v_goto (pc := 49) (tgt := 10) hX d_Bl_howManyDeciding_49 rfl ?_
        exact VW.cast (by first | (rw [e, i3_succ (k + 1), i3_succ]; rfl) | (rw [e, i3_succ (k + 1), Int32.add_zero]; rfl)) rfl rfl ih10
      · have e : cntB (fun s => sb s (stN J n) && dcB J (M d 0) (M d 1) n s) (k + 1) = cntB (fun s => sb s (stN J n) && dcB J (M d 0) (M d 1) n s) k + 1 := by simp [cntB, a1, h36]
        refine v_iconst (pc := 39) (v := 1) hX (by decide) d_Bl_howManyDeciding_39 ?_
        refine v_goto (pc := 40) (tgt := 44) hX d_Bl_howManyDeciding_40 rfl ?_
        refine v_iadd (pc := 44) hX d_Bl_howManyDeciding_44 ?_
        refine v_istore_n (pc := 45) (lo' := [some (vR _), some (vR _), some (vI _), some (vI _), some (vI _)]) hX (Nat.le_of_ble_eq_true rfl) rfl d_Bl_howManyDeciding_45 ?_
        refine v_iinc (pc := 46) (lo' := [some (vR _), some (vR _), some (vI _), some (vI _), some (vI _)]) hX rfl rfl d_Bl_howManyDeciding_46 ?_
        refine v_goto (pc := 49) (tgt := 10) hX d_Bl_howManyDeciding_49 rfl ?_
        exact VW.cast (by first | (rw [e, i3_succ (k + 1), i3_succ]; rfl) | (rw [e, i3_succ (k + 1), Int32.add_zero]; rfl)) rfl rfl ih10
  · show VW X 10 [some (vR 3), some (vR d), some (vI (i3 (stN J n))), some (vI (i3 (cntB (fun s => sb s (stN J n) && dcB J (M d 0) (M d 1) n s) (2 ^ n - 1)))), some (vI (i3 ((2 ^ n - 1) + 1)))] [] (gM (M))
    refine v_iload (pc := 10) hX rfl d_Bl_howManyDeciding_10 ?_
    refine v_aload_n (pc := 12) hX rfl d_Bl_howManyDeciding_12 ?_
    refine f_callV (pc := 13) hX k_Sp_setsEnd ki_Sp_setsEnd kv_Sp_setsEnd ml_Bl_24 (C_Sp_setsEnd hJ) rfl rfl rfl rfl rfl (Nat.le_of_ble_eq_true rfl) (Nat.le_of_ble_eq_true rfl) (Nat.le_of_ble_eq_true rfl) d_Bl_howManyDeciding_13 ?_
    refine v_icmp_ge (pc := 16) (tgt := 52) hX d_Bl_howManyDeciding_16 rfl (fun h16 => ?_) (fun h16 => False.elim (absurd set_end h16))
    refine v_iload_n (pc := 52) hX rfl d_Bl_howManyDeciding_52 ?_
    exact f_iret (pc := 53) hX hR (rfl) (rfl) d_Bl_howManyDeciding_53
theorem gd_hit {u l d : Nat} (h : 1 < d) (h1 : u % d = 0) (h2 : l % d = 0) : gdv u l d = d := by
  match d, h with
  | d + 1, h => unfold gdv; rw [if_neg (by omega), if_pos ⟨h1, h2⟩]
theorem gd_s {u l k : Nat} (h : 1 < l - k) (hk : k < l) (h1 : ¬ u % (l - k) = 0) (hI : gdv u l l = gdv u l (l - k)) : gdv u l l = gdv u l (l - (k + 1)) := by
  rw [hI]
  generalize hd : l - (k + 1) = d
  rw [show l - k = d + 1 by omega] at h1 ⊢
  conv => lhs; unfold gdv
  rw [if_neg (by omega), if_neg (fun q => h1 q.1)]
theorem gd_s2 {u l k : Nat} (h : 1 < l - k) (hk : k < l) (h1 : ¬ l % (l - k) = 0) (hI : gdv u l l = gdv u l (l - k)) : gdv u l l = gdv u l (l - (k + 1)) := by
  rw [hI]
  generalize hd : l - (k + 1) = d
  rw [show l - k = d + 1 by omega] at h1 ⊢
  conv => lhs; unfold gdv
  rw [if_neg (by omega), if_neg (fun q => h1 q.2)]
theorem i3_pred {l k : Nat} (h : k < l) : i3 (l - (k + 1)) = i3 (l - k) + Int32.ofInt (-1) := by
  generalize hd : l - (k + 1) = d
  rw [show l - k = d + 1 by omega, i3_succ, show (Int32.ofInt (-1)) = -1 from rfl, Int32.add_assoc, show (1 : Int32) + -1 = 0 from rfl, Int32.add_zero]
theorem d_Bl_greatestDivisor_0 : decode c_Bl_greatestDivisor 0 = .ok (.iload_n 1, 1) := by decide +kernel
theorem d_Bl_greatestDivisor_1 : decode c_Bl_greatestDivisor 1 = .ok (.istore_n 2, 1) := by decide +kernel
theorem d_Bl_greatestDivisor_2 : decode c_Bl_greatestDivisor 2 = .ok (.iload_n 2, 1) := by decide +kernel
theorem d_Bl_greatestDivisor_3 : decode c_Bl_greatestDivisor 3 = .ok (.iconst 1, 1) := by decide +kernel
theorem d_Bl_greatestDivisor_4 : decode c_Bl_greatestDivisor 4 = .ok (.if_icmp .le 23, 3) := by decide +kernel
theorem d_Bl_greatestDivisor_7 : decode c_Bl_greatestDivisor 7 = .ok (.iload_n 0, 1) := by decide +kernel
theorem d_Bl_greatestDivisor_8 : decode c_Bl_greatestDivisor 8 = .ok (.iload_n 2, 1) := by decide +kernel
theorem d_Bl_greatestDivisor_9 : decode c_Bl_greatestDivisor 9 = .ok (.irem, 1) := by decide +kernel
theorem d_Bl_greatestDivisor_10 : decode c_Bl_greatestDivisor 10 = .ok (.ifCond .ne 11, 3) := by decide +kernel
theorem d_Bl_greatestDivisor_13 : decode c_Bl_greatestDivisor 13 = .ok (.iload_n 1, 1) := by decide +kernel
theorem d_Bl_greatestDivisor_14 : decode c_Bl_greatestDivisor 14 = .ok (.iload_n 2, 1) := by decide +kernel
theorem d_Bl_greatestDivisor_15 : decode c_Bl_greatestDivisor 15 = .ok (.irem, 1) := by decide +kernel
theorem d_Bl_greatestDivisor_16 : decode c_Bl_greatestDivisor 16 = .ok (.ifCond .ne 5, 3) := by decide +kernel
theorem d_Bl_greatestDivisor_19 : decode c_Bl_greatestDivisor 19 = .ok (.iload_n 2, 1) := by decide +kernel
theorem d_Bl_greatestDivisor_20 : decode c_Bl_greatestDivisor 20 = .ok (.ireturn, 1) := by decide +kernel
theorem d_Bl_greatestDivisor_21 : decode c_Bl_greatestDivisor 21 = .ok (.iinc 2 (-1), 3) := by decide +kernel
theorem d_Bl_greatestDivisor_24 : decode c_Bl_greatestDivisor 24 = .ok (.goto (-22), 3) := by decide +kernel
theorem d_Bl_greatestDivisor_27 : decode c_Bl_greatestDivisor 27 = .ok (.iconst 1, 1) := by decide +kernel
theorem d_Bl_greatestDivisor_28 : decode c_Bl_greatestDivisor 28 = .ok (.ireturn, 1) := by decide +kernel
theorem C_Bl_greatestDivisor {M : MM} {u l : Nat} (hu : u < 64) (hl : l < 64) (h0 : l ≠ 0) : AF y_Bl_greatestDivisor c_Bl_greatestDivisor 3 (some .int) 1 [vI (i3 u), vI (i3 l)] (M) (some (vI (i3 (gdv u l l)))) (M) := by
  refine AF.of k_Bl_greatestDivisor (lo := [some (vI (i3 u)), some (vI (i3 l)), none]) rfl (Nat.le_of_ble_eq_true rfl) (fun X hX hR => ?_)
  refine v_iload_n (pc := 0) hX rfl d_Bl_greatestDivisor_0 ?_
  refine v_istore_n (pc := 1) (lo' := [some (vI _), some (vI _), some (vI _)]) hX (Nat.le_of_ble_eq_true rfl) rfl d_Bl_greatestDivisor_1 ?_
  refine VW.cast (lo' := [some (vI (i3 u)), some (vI (i3 l)), some (vI (i3 (l - 0)))]) (st' := []) (G' := gM (M)) rfl rfl rfl ?_
  refine v_forI (X := X) (head := 2) (l - 1) (fun kk => [some (vI (i3 u)), some (vI (i3 l)), some (vI (i3 (l - kk)))]) (fun kk => M) (fun kk => gdv u l l = gdv u l (l - kk)) (rfl) (fun k hk hIk ih2 => ?_) (fun hIk => ?_)
  · show VW X 2 [some (vI (i3 u)), some (vI (i3 l)), some (vI (i3 (l - k)))] [] (gM (M))
    have hIk : gdv u l l = gdv u l (l - k) := hIk
    have hd : l - k < 64 := by omega
    have hd0 : ¬ i3 (l - k) = 0 := i3_ne0 (by omega) (by omega)
    have r1 := rem_i3 u hu (l - k) hd (by omega)
    have r2 := rem_i3 l hl (l - k) hd (by omega)
    refine v_iload_n (pc := 2) hX rfl d_Bl_greatestDivisor_2 ?_
    refine v_iconst (pc := 3) (v := 1) hX (by decide) d_Bl_greatestDivisor_3 ?_
    refine v_icmp_le (pc := 4) (tgt := 27) hX d_Bl_greatestDivisor_4 rfl (fun h4 => False.elim (by have := (i3_le (a := l - k) (b := 1) (by omega) (by decide)).mp h4; omega)) (fun h4 => ?_)
    refine v_iload_n (pc := 7) hX rfl d_Bl_greatestDivisor_7 ?_
    refine v_iload_n (pc := 8) hX rfl d_Bl_greatestDivisor_8 ?_
    refine v_irem (pc := 9) hX hd0 d_Bl_greatestDivisor_9 ?_
    refine v_if_ne (pc := 10) (tgt := 21) hX d_Bl_greatestDivisor_10 rfl (fun h10 => ?_) (fun h10 => ?_)
    · have a1 : ¬ u % (l - k) = 0 := fun q => by rw [r1, q] at h10; exact h10 rfl
      refine v_iinc (pc := 21) (lo' := [some (vI _), some (vI _), some (vI _)]) hX rfl rfl d_Bl_greatestDivisor_21 ?_
      refine v_goto (pc := 24) (tgt := 2) hX d_Bl_greatestDivisor_24 rfl ?_
      exact VW.cast (by rw [i3_pred (by omega)]) rfl rfl (ih2 (by first | exact gd_s (by omega) (by omega) a1 hIk | exact gd_s2 (by omega) (by omega) a1 hIk))
    · have a0 : u % (l - k) = 0 := by
        by_cases q : u % (l - k) = 0
        · exact q
        · rw [r1] at h10; exact absurd h10 (i3_ne0 q (by have := Nat.mod_lt u (show l - k > 0 by omega); omega))
      refine v_iload_n (pc := 13) hX rfl d_Bl_greatestDivisor_13 ?_
      refine v_iload_n (pc := 14) hX rfl d_Bl_greatestDivisor_14 ?_
      refine v_irem (pc := 15) hX hd0 d_Bl_greatestDivisor_15 ?_
      refine v_if_ne (pc := 16) (tgt := 21) hX d_Bl_greatestDivisor_16 rfl (fun h16 => ?_) (fun h16 => ?_)
      · have a1 : ¬ l % (l - k) = 0 := fun q => by rw [r2, q] at h16; exact h16 rfl
        refine v_iinc (pc := 21) (lo' := [some (vI _), some (vI _), some (vI _)]) hX rfl rfl d_Bl_greatestDivisor_21 ?_
        refine v_goto (pc := 24) (tgt := 2) hX d_Bl_greatestDivisor_24 rfl ?_
        exact VW.cast (by rw [i3_pred (by omega)]) rfl rfl (ih2 (by first | exact gd_s (by omega) (by omega) a1 hIk | exact gd_s2 (by omega) (by omega) a1 hIk))
      · have a2 : l % (l - k) = 0 := by
          by_cases q : l % (l - k) = 0
          · exact q
          · rw [r2] at h16; exact absurd h16 (i3_ne0 q (by have := Nat.mod_lt l (show l - k > 0 by omega); omega))
        refine v_iload_n (pc := 19) hX rfl d_Bl_greatestDivisor_19 ?_
        exact f_iret (pc := 20) hX hR (by rw [hIk, gd_hit (by omega) a0 a2]) (rfl) d_Bl_greatestDivisor_20
  · show VW X 2 [some (vI (i3 u)), some (vI (i3 l)), some (vI (i3 (l - (l - 1))))] [] (gM (M))
    have hIk : gdv u l l = gdv u l (l - (l - 1)) := hIk
    refine v_iload_n (pc := 2) hX rfl d_Bl_greatestDivisor_2 ?_
    refine v_iconst (pc := 3) (v := 1) hX (by decide) d_Bl_greatestDivisor_3 ?_
    refine v_icmp_le (pc := 4) (tgt := 27) hX d_Bl_greatestDivisor_4 rfl (fun h4 => ?_) (fun h4 => False.elim (absurd (by rw [show l - (l - 1) = 1 by omega]; exact Int32.le_refl _) h4))
    refine v_iconst (pc := 27) (v := 1) hX (by decide) d_Bl_greatestDivisor_27 ?_
    exact f_iret (pc := 28) hX hR (by rw [hIk, show l - (l - 1) = 1 by omega]; rfl) (rfl) d_Bl_greatestDivisor_28
