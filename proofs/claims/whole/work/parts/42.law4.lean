/-! The law: its loop. -/
theorem L_in {X : CX} {L t : Nat} {xs : Nat → Int32} {M : MM} {y : Int32} (hX : CLw X) (hS : SX X L xs) (ht : 6 * t + 6 ≤ L) (hL : L ≤ 384) (h : INV M) (kk : ∀ M2, INV M2 → VW X 1345 (loL t) [] (gM M2)) : VW X 33 (loL t) [vI y] (gM M) := by
  by_cases e0 : y = 0
  · exact v_tabIn (pc := 33) (tgt := 188) (off := 155) (y := 0) hX e0 d_La_law_33 (by decide) (by decide) (by decide) rfl (B_store hX hS ht hL h kk)
  by_cases e1 : y = 1
  · exact v_tabIn (pc := 33) (tgt := 241) (off := 208) (y := 1) hX e1 d_La_law_33 (by decide) (by decide) (by decide) rfl (B_ofJar hX hS ht hL h kk)
  by_cases e2 : y = 2
  · exact v_tabIn (pc := 33) (tgt := 274) (off := 241) (y := 2) hX e2 d_La_law_33 (by decide) (by decide) (by decide) rfl (B_ofDecider hX hS ht hL h kk)
  by_cases e3 : y = 3
  · exact v_tabIn (pc := 33) (tgt := 307) (off := 274) (y := 3) hX e3 d_La_law_33 (by decide) (by decide) (by decide) rfl (B_cure hX hS ht hL h kk)
  by_cases e4 : y = 4
  · exact v_tabIn (pc := 33) (tgt := 340) (off := 307) (y := 4) hX e4 d_La_law_33 (by decide) (by decide) (by decide) rfl (B_fetch hX hS ht hL h kk)
  by_cases e5 : y = 5
  · exact v_tabIn (pc := 33) (tgt := 373) (off := 340) (y := 5) hX e5 d_La_law_33 (by decide) (by decide) (by decide) rfl (B_price hX hS ht hL h kk)
  by_cases e6 : y = 6
  · exact v_tabIn (pc := 33) (tgt := 406) (off := 373) (y := 6) hX e6 d_La_law_33 (by decide) (by decide) (by decide) rfl (B_dread hX hS ht hL h kk)
  by_cases e7 : y = 7
  · exact v_tabIn (pc := 33) (tgt := 439) (off := 406) (y := 7) hX e7 d_La_law_33 (by decide) (by decide) (by decide) rfl (B_pay hX hS ht hL h kk)
  by_cases e8 : y = 8
  · exact v_tabIn (pc := 33) (tgt := 472) (off := 439) (y := 8) hX e8 d_La_law_33 (by decide) (by decide) (by decide) rfl (B_mark hX hS ht hL h kk)
  by_cases e9 : y = 9
  · exact v_tabIn (pc := 33) (tgt := 505) (off := 472) (y := 9) hX e9 d_La_law_33 (by decide) (by decide) (by decide) rfl (B_blend hX hS ht hL h kk)
  by_cases e10 : y = 10
  · exact v_tabIn (pc := 33) (tgt := 538) (off := 505) (y := 10) hX e10 d_La_law_33 (by decide) (by decide) (by decide) rfl (B_hold hX hS ht hL h kk)
  by_cases e11 : y = 11
  · exact v_tabIn (pc := 33) (tgt := 571) (off := 538) (y := 11) hX e11 d_La_law_33 (by decide) (by decide) (by decide) rfl (B_sell hX hS ht hL h kk)
  by_cases e12 : y = 12
  · exact v_tabIn (pc := 33) (tgt := 604) (off := 571) (y := 12) hX e12 d_La_law_33 (by decide) (by decide) (by decide) rfl (B_year hX hS ht hL h kk)
  by_cases e13 : y = 13
  · exact v_tabIn (pc := 33) (tgt := 667) (off := 634) (y := 13) hX e13 d_La_law_33 (by decide) (by decide) (by decide) rfl (B_mix hX hS ht hL h kk)
  by_cases e14 : y = 14
  · exact v_tabIn (pc := 33) (tgt := 700) (off := 667) (y := 14) hX e14 d_La_law_33 (by decide) (by decide) (by decide) rfl (B_like hX hS ht hL h kk)
  by_cases e15 : y = 15
  · exact v_tabIn (pc := 33) (tgt := 723) (off := 690) (y := 15) hX e15 d_La_law_33 (by decide) (by decide) (by decide) rfl (B_guess hX hS ht hL h kk)
  by_cases e16 : y = 16
  · exact v_tabIn (pc := 33) (tgt := 786) (off := 753) (y := 16) hX e16 d_La_law_33 (by decide) (by decide) (by decide) rfl (B_serve hX hS ht hL h kk)
  by_cases e17 : y = 17
  · exact v_tabIn (pc := 33) (tgt := 809) (off := 776) (y := 17) hX e17 d_La_law_33 (by decide) (by decide) (by decide) rfl (B_dear hX hS ht hL h kk)
  by_cases e18 : y = 18
  · exact v_tabIn (pc := 33) (tgt := 832) (off := 799) (y := 18) hX e18 d_La_law_33 (by decide) (by decide) (by decide) rfl (B_reading hX hS ht hL h kk)
  by_cases e19 : y = 19
  · exact v_tabIn (pc := 33) (tgt := 875) (off := 842) (y := 19) hX e19 d_La_law_33 (by decide) (by decide) (by decide) rfl (B_back hX hS ht hL h kk)
  by_cases e20 : y = 20
  · exact v_tabIn (pc := 33) (tgt := 898) (off := 865) (y := 20) hX e20 d_La_law_33 (by decide) (by decide) (by decide) rfl (B_sures hX hS ht hL h kk)
  by_cases e21 : y = 21
  · exact v_tabIn (pc := 33) (tgt := 921) (off := 888) (y := 21) hX e21 d_La_law_33 (by decide) (by decide) (by decide) rfl (B_fades hX hS ht hL h kk)
  by_cases e22 : y = 22
  · exact v_tabIn (pc := 33) (tgt := 944) (off := 911) (y := 22) hX e22 d_La_law_33 (by decide) (by decide) (by decide) rfl (B_kinds hX hS ht hL h kk)
  by_cases e23 : y = 23
  · exact v_tabIn (pc := 33) (tgt := 967) (off := 934) (y := 23) hX e23 d_La_law_33 (by decide) (by decide) (by decide) rfl (B_odds hX hS ht hL h kk)
  by_cases e24 : y = 24
  · exact v_tabIn (pc := 33) (tgt := 1001) (off := 968) (y := 24) hX e24 d_La_law_33 (by decide) (by decide) (by decide) rfl (B_sheet hX hS ht hL h kk)
  by_cases e25 : y = 25
  · exact v_tabIn (pc := 33) (tgt := 1044) (off := 1011) (y := 25) hX e25 d_La_law_33 (by decide) (by decide) (by decide) rfl (B_lose hX hS ht hL h kk)
  by_cases e26 : y = 26
  · exact v_tabIn (pc := 33) (tgt := 1067) (off := 1034) (y := 26) hX e26 d_La_law_33 (by decide) (by decide) (by decide) rfl (B_put hX hS ht hL h kk)
  by_cases e27 : y = 27
  · exact v_tabIn (pc := 33) (tgt := 1110) (off := 1077) (y := 27) hX e27 d_La_law_33 (by decide) (by decide) (by decide) rfl (B_cell hX hS ht hL h kk)
  by_cases e28 : y = 28
  · exact v_tabIn (pc := 33) (tgt := 1154) (off := 1121) (y := 28) hX e28 d_La_law_33 (by decide) (by decide) (by decide) rfl (B_copy hX hS ht hL h kk)
  by_cases e29 : y = 29
  · exact v_tabIn (pc := 33) (tgt := 1217) (off := 1184) (y := 29) hX e29 d_La_law_33 (by decide) (by decide) (by decide) rfl (B_tell hX hS ht hL h kk)
  by_cases e30 : y = 30
  · exact v_tabIn (pc := 33) (tgt := 1240) (off := 1207) (y := 30) hX e30 d_La_law_33 (by decide) (by decide) (by decide) rfl (B_sniff hX hS ht hL h kk)
  by_cases e31 : y = 31
  · exact v_tabIn (pc := 33) (tgt := 1263) (off := 1230) (y := 31) hX e31 d_La_law_33 (by decide) (by decide) (by decide) rfl (B_as hX hS ht hL h kk)
  by_cases e32 : y = 32
  · exact v_tabIn (pc := 33) (tgt := 1296) (off := 1263) (y := 32) hX e32 d_La_law_33 (by decide) (by decide) (by decide) rfl (B_trace hX hS ht hL h kk)
  by_cases e33 : y = 33
  · exact v_tabIn (pc := 33) (tgt := 1309) (off := 1276) (y := 33) hX e33 d_La_law_33 (by decide) (by decide) (by decide) rfl (B_fault hX hS ht hL h kk)
  by_cases e34 : y = 34
  · exact v_tabIn (pc := 33) (tgt := 1322) (off := 1289) (y := 34) hX e34 d_La_law_33 (by decide) (by decide) (by decide) rfl (B_many hX hS ht hL h kk)
  refine v_tabOut (pc := 33) (tgt := 1345) hX d_La_law_33 ?_ rfl (kk M h)
  have hne : ∀ k : Nat, k < 35 → ¬ y.toInt = (k : Int) := by
    intro k hk w
    rcases (show k = 0 ∨ k = 1 ∨ k = 2 ∨ k = 3 ∨ k = 4 ∨ k = 5 ∨ k = 6 ∨ k = 7 ∨ k = 8 ∨ k = 9 ∨ k = 10 ∨ k = 11 ∨ k = 12 ∨ k = 13 ∨ k = 14 ∨ k = 15 ∨ k = 16 ∨ k = 17 ∨ k = 18 ∨ k = 19 ∨ k = 20 ∨ k = 21 ∨ k = 22 ∨ k = 23 ∨ k = 24 ∨ k = 25 ∨ k = 26 ∨ k = 27 ∨ k = 28 ∨ k = 29 ∨ k = 30 ∨ k = 31 ∨ k = 32 ∨ k = 33 ∨ k = 34 by omega) with rfl | rfl | rfl | rfl | rfl | rfl | rfl | rfl | rfl | rfl | rfl | rfl | rfl | rfl | rfl | rfl | rfl | rfl | rfl | rfl | rfl | rfl | rfl | rfl | rfl | rfl | rfl | rfl | rfl | rfl | rfl | rfl | rfl | rfl | rfl
    · exact e0 (Int32.toInt_inj.mp (w.trans rfl))
    · exact e1 (Int32.toInt_inj.mp (w.trans rfl))
    · exact e2 (Int32.toInt_inj.mp (w.trans rfl))
    · exact e3 (Int32.toInt_inj.mp (w.trans rfl))
    · exact e4 (Int32.toInt_inj.mp (w.trans rfl))
    · exact e5 (Int32.toInt_inj.mp (w.trans rfl))
    · exact e6 (Int32.toInt_inj.mp (w.trans rfl))
    · exact e7 (Int32.toInt_inj.mp (w.trans rfl))
    · exact e8 (Int32.toInt_inj.mp (w.trans rfl))
    · exact e9 (Int32.toInt_inj.mp (w.trans rfl))
    · exact e10 (Int32.toInt_inj.mp (w.trans rfl))
    · exact e11 (Int32.toInt_inj.mp (w.trans rfl))
    · exact e12 (Int32.toInt_inj.mp (w.trans rfl))
    · exact e13 (Int32.toInt_inj.mp (w.trans rfl))
    · exact e14 (Int32.toInt_inj.mp (w.trans rfl))
    · exact e15 (Int32.toInt_inj.mp (w.trans rfl))
    · exact e16 (Int32.toInt_inj.mp (w.trans rfl))
    · exact e17 (Int32.toInt_inj.mp (w.trans rfl))
    · exact e18 (Int32.toInt_inj.mp (w.trans rfl))
    · exact e19 (Int32.toInt_inj.mp (w.trans rfl))
    · exact e20 (Int32.toInt_inj.mp (w.trans rfl))
    · exact e21 (Int32.toInt_inj.mp (w.trans rfl))
    · exact e22 (Int32.toInt_inj.mp (w.trans rfl))
    · exact e23 (Int32.toInt_inj.mp (w.trans rfl))
    · exact e24 (Int32.toInt_inj.mp (w.trans rfl))
    · exact e25 (Int32.toInt_inj.mp (w.trans rfl))
    · exact e26 (Int32.toInt_inj.mp (w.trans rfl))
    · exact e27 (Int32.toInt_inj.mp (w.trans rfl))
    · exact e28 (Int32.toInt_inj.mp (w.trans rfl))
    · exact e29 (Int32.toInt_inj.mp (w.trans rfl))
    · exact e30 (Int32.toInt_inj.mp (w.trans rfl))
    · exact e31 (Int32.toInt_inj.mp (w.trans rfl))
    · exact e32 (Int32.toInt_inj.mp (w.trans rfl))
    · exact e33 (Int32.toInt_inj.mp (w.trans rfl))
    · exact e34 (Int32.toInt_inj.mp (w.trans rfl))
  by_cases g1 : y.toInt < 0
  · exact Or.inl g1
  · refine Or.inr ?_
    have := hne y.toInt.toNat
    omega
theorem L_loop {X : CX} {L : Nat} {xs : Nat → Int32} (hX : CLw X) (hS : SX X L xs) (hL : L ≤ 384) (hend : ∀ t M, VW X 1352 (loL t) [vI 1] (gM M)) : ∀ f t, 6 * t ≤ 384 → L ≤ 6 * t + f → ∀ M, INV M → VW X 18 (loL t) [] (gM M) := by
  intro f
  induction f with
  | zero =>
    intro t h6 hf M h
    refine v_iload_n (pc := 18) hX rfl d_La_law_18 ?_
    refine v_aload_n (pc := 19) hX rfl d_La_law_19 ?_
    refine l_slen (pc := 20) hX hS d_La_law_20 ?_
    refine v_bipush (pc := 21) (v := 6) hX (by decide) d_La_law_21 ?_
    refine v_isub (pc := 23) hX d_La_law_23 ?_
    refine v_icmp_gt (pc := 24) (tgt := 1351) hX d_La_law_24 rfl (fun _ => ?_) (fun w => False.elim (w ?_))
    · refine v_iconst (pc := 1351) (v := 1) hX (by decide) d_La_law_1351 ?_
      exact hend t M
    · rw [Int32.lt_iff_toInt_lt, show (6 : Int32) = i3 6 from rfl, i3_sub_int (by omega) (by omega), i3_int (by omega)]; omega
  | succ f ih =>
    intro t h6 hf M h
    refine v_iload_n (pc := 18) hX rfl d_La_law_18 ?_
    refine v_aload_n (pc := 19) hX rfl d_La_law_19 ?_
    refine l_slen (pc := 20) hX hS d_La_law_20 ?_
    refine v_bipush (pc := 21) (v := 6) hX (by decide) d_La_law_21 ?_
    refine v_isub (pc := 23) hX d_La_law_23 ?_
    refine v_icmp_gt (pc := 24) (tgt := 1351) hX d_La_law_24 rfl (fun _ => ?_) (fun w => ?_)
    · refine v_iconst (pc := 1351) (v := 1) hX (by decide) d_La_law_1351 ?_
      exact hend t M
    · have ht : 6 * t + 6 ≤ L := by
        rw [Int32.lt_iff_toInt_lt, show (6 : Int32) = i3 6 from rfl, i3_sub_int (by omega) (by omega), i3_int (by omega)] at w
        omega
      refine v_aload_n (pc := 27) hX rfl d_La_law_27 ?_
      refine v_iload_n (pc := 28) hX rfl d_La_law_28 ?_
      refine l_sld (pc := 29) hX hS (IX.of (k := 6 * t) (n := L) (by omega) (by omega)).vp d_La_law_29 ?_
      refine v_bipush (pc := 30) (v := 63) hX (by decide) d_La_law_30 ?_
      refine v_iand (pc := 32) hX d_La_law_32 ?_
      refine L_in hX hS ht hL h (fun M2 hI => ?_)
      refine v_iinc (pc := 1345) (lo' := loL (t + 1)) hX rfl ?_ d_La_law_1345 ?_
      · show [some (vR 1), some (vR 2), some (vR 36), some (vI (i3 (6 * t) + 6))] = loL (t + 1)
        rw [show (6 : Int32) = i3 6 from rfl, ← i3_add]
        rfl
      · refine v_goto (pc := 1348) (tgt := 18) hX d_La_law_1348 rfl ?_
        exact ih (t + 1) (by omega) (by omega) M2 hI
