/-! Class and model, call by call: a year, a store. -/
theorem allB_all {f : Nat → Bool} : ∀ {m : Nat}, allB f m = true → ∀ p, p < m → f p = true := by
  intro m
  induction m with
  | zero => intro _ p hp; omega
  | succ m ih =>
    intro h p hp
    unfold allB at h
    rw [Bool.and_eq_true] at h
    by_cases e : p = m
    · subst e; exact h.2
    · exact ih h.1 p (by omega)
theorem rg_tn {x : Int32} {n : Nat} (h : rg x 0 ((n : Int) - 1) = true) : x.toInt.toNat < n ∧ x = i3 x.toInt.toNat := by
  obtain ⟨j, hj, e⟩ := rg_nat h
  have hb := x.toInt_lt
  rw [rg_true] at h
  refine ⟨by omega, ?_⟩
  apply Int32.toInt_inj.mp
  rw [i3_int (by omega)]; omega
theorem OP_year {M : MM} (h : INV M) (x u v w y : Int32) : RESI y_LJ_year c_LJ_year 8 5 [vR 2, vI x, vI u, vI v, vI w, vI y] y_Mo_year c_Mo_year 10 7 [vR 36, vI x, vI u, vI v, vI w, vI y] M := by
  obtain ⟨n, nd, J, B, zs, ln, C, rc, rj, rt, tr, fa, hC, hM, hO⟩ := h
  obtain ⟨cJ, cB, cZ, cR, cT, cF⟩ := id hC
  obtain ⟨mJ, mB, mZ, mR, mT, mF⟩ := id hM
  have hI : INV M := ⟨n, nd, J, B, zs, ln, C, rc, rj, rt, tr, fa, hC, hM, hO⟩
  have hF : ∀ f, INV (upM (upM M 2 6 f) 36 0 f) := fun f => ⟨n, nd, J, B, zs, ln, C, rc, rj, rt, tr, f, hC.flt.mU (by decide), (hM.cU (by decide)).flt, hO⟩
  have hM1 : ∀ f, MIV (upM M 2 6 f) n nd J B zs ln C rc rj rt tr fa := fun f => hM.cU (by decide)
  by_cases hx : rg x 0 3 = false
  · exact ⟨_, _, _, C_LJ_year_out hx, C_Mo_year_out hx, hF 0⟩
  · obtain ⟨k, hk, rfl⟩ := rg_nat' (n := 4) (x := x) (H := 3) (by decide) (by simpa using hx)
    by_cases hb : (rg u 0 2 && (rg w 0 20 && tdB y)) = false
    · exact ⟨_, _, _, C_LJ_year_bad hk hb, C_Mo_year_bad hk hb, hF 0⟩
    · have hb' : (rg u 0 2 && (rg w 0 20 && tdB y)) = true := by simpa using hb
      rw [Bool.and_eq_true, Bool.and_eq_true] at hb'
      obtain ⟨b1, b2, b3⟩ := hb'
      obtain ⟨m, hm, rfl⟩ := rg_nat' (n := 21) (x := w) (H := 20) (by decide) b2
      by_cases h0 : n = 0
      · exact ⟨_, _, _, C_LJ_year_no cJ hk b1 hm b3 h0, C_Mo_year_no (hM1 _).1 hk b1 hm b3 h0, hF 0⟩
      · by_cases hf : flt (zs k) (ln k) u v (i3 (2 * m)) = 0
        · obtain ⟨f1, f2, f3⟩ := flt_inv hf
          subst f2
          have zk := (cZ k hk).1
          obtain ⟨a, m', rfl, e, ha⟩ := hc_nat (by omega) f3
          have e2 : 2 * m = m' := (i3_inj (by omega) (by omega)).mp e
          subst e2
          by_cases hat : allB (fun p => rg (C k (a + 2 * p)) 0 ((nd : Int) - 1) && rg (C k (a + (2 * p + 1))) 0 ((n : Int) - 1)) m = false
          · exact ⟨_, _, _, C_LJ_year_unk cJ cB hk hm b3 cZ b1 h0 f1 ha hat, C_Mo_year_unk (hM1 _).1 (hM1 _).2.1 hk hm b3 (hM1 _).2.2.1 b1 h0 f1 ha hat, hF 0⟩
          · have hat' : allB (fun p => rg (C k (a + 2 * p)) 0 ((nd : Int) - 1) && rg (C k (a + (2 * p + 1))) 0 ((n : Int) - 1)) m = true := by simpa using hat
            have hpp : ∀ p, p < m → rg (C k (a + 2 * p)) 0 ((nd : Int) - 1) = true ∧ rg (C k (a + (2 * p + 1))) 0 ((n : Int) - 1) = true := fun p hp => by
              have w := allB_all hat' p hp
              rw [Bool.and_eq_true] at w
              exact w
            have hpb : ∀ p, p < m → (fun p => (C k (a + 2 * p)).toInt.toNat) p < nd ∧ C k (a + 2 * p) = i3 ((fun p => (C k (a + 2 * p)).toInt.toNat) p) := fun p hp => rg_tn (hpp p hp).1
            have hpj : ∀ p, p < m → (fun p => (C k (a + (2 * p + 1))).toInt.toNat) p < n ∧ C k (a + (2 * p + 1)) = i3 ((fun p => (C k (a + (2 * p + 1))).toInt.toNat) p) := fun p hp => rg_tn (hpp p hp).2
            have hM2 : MIV (YM (upM M 2 6 0) n nd (yr J B (fun p => (C k (a + 2 * p)).toInt.toNat) (fun p => (C k (a + (2 * p + 1))).toInt.toNat) m)) n nd J B zs ln C rc rj rt tr fa := (hM1 0).eq (fun q hq i => YM_ne (by omega))
            have hC2 : CIV (YM (upM M 2 6 0) n nd (yr J B (fun p => (C k (a + 2 * p)).toInt.toNat) (fun p => (C k (a + (2 * p + 1))).toInt.toNat) m)) n nd J B zs ln C rc rj rt tr 0 := hC.flt.eq2 (fun q hq hq2 i => YM_ne (by omega))
            have hM3 : MIV (cpF (cpF (YM (upM M 2 6 0) n nd (yr J B (fun p => (C k (a + 2 * p)).toInt.toNat) (fun p => (C k (a + (2 * p + 1))).toInt.toNat) m)) 54 (fun i => J i 3) n) 55 (fun i => B i 2) nd) n nd J B zs ln C rc rj rt tr fa := hM2.eq2 (fun q i hq h1 h2 h3 => by rw [cpF_ne (by omega), cpF_ne (by omega)])
            exact ⟨_, _, _, C_LJ_year_ok cJ cB hk hm b3 cZ b1 h0 f1 ha hat' hpb hpj, C_Mo_year_ok hM2.1 hM2.2.1 hk hm b3 hM2.2.2.1 b1 h0 f1 ha hat' hpb hpj, ⟨n, nd, J, B, zs, ln, C, rc, rj, rt, tr, 0, hC2.eq (fun q hq i => by rw [upM_ne (by omega), cpF_ne (by omega), cpF_ne (by omega)]), hM3.flt, hO⟩⟩
        · exact ⟨_, _, _, C_LJ_year_fail cJ hk b1 hm b3 cZ h0 hf, C_Mo_year_fail (hM1 _).1 hk b1 hm b3 (hM1 _).2.2.1 h0 hf, hF _⟩
theorem dg_9 {q : Nat → Int32} {m p : Nat} (h : dgB q m p = true) : ∃ c, c ≤ 9 ∧ q p - 48 = i3 c := by
  unfold dgB at h
  rw [Bool.and_eq_true] at h
  exact rg_9 h.2
theorem kc_012 {x : Int32} (h : kcN x ≠ -9) : kcN x = 0 ∨ kcN x = 1 ∨ kcN x = 2 := by
  unfold kcN at h ⊢
  by_cases h1 : x = 108
  · rw [if_pos h1]; exact Or.inl rfl
  · rw [if_neg h1] at h ⊢
    by_cases h2 : x = 112
    · rw [if_pos h2]; exact Or.inr (Or.inr rfl)
    · rw [if_neg h2] at h ⊢
      by_cases h3 : x = 119
      · rw [if_pos h3]; exact Or.inr (Or.inl rfl)
      · rw [if_neg h3] at h; exact absurd rfl h
theorem OS.txt {zs : Nat → Nat} {ln : Nat → Int32} {q : Nat → Int32} {m : Nat} (h : ∀ k, k < 4 → zs k ≠ 0 → rg (ln k) 0 2 = true) : OS (nJ q m) (fun j i => tJf q (1 + 6 * j) i) zs ln := by
  have hd : ∀ j, j < nJ q m → ∀ i, i < 4 → dgB q m (1 + 6 * j + 2 + i) = true := fun j hj i hi => (ft6 (nJ_lt hj).2).2 i hi
  refine ⟨⟨fun j => (tJf q (1 + 6 * j) 3).toInt.toNat, fun j hj => ?_⟩, fun j hj => ?_, fun j hj => ?_, h⟩
  · obtain ⟨c, hc, e⟩ := dg_9 (hd j hj 2 (by decide))
    have e2 : tJf q (1 + 6 * j) 3 = i3 c := e
    show tJf q (1 + 6 * j) 3 = i3 (tJf q (1 + 6 * j) 3).toInt.toNat ∧ (tJf q (1 + 6 * j) 3).toInt.toNat ≤ 9
    rw [e2, i3_int (by omega)]
    exact ⟨rfl, hc⟩
  · obtain ⟨c, hc, e⟩ := dg_9 (hd j hj 3 (by decide))
    exact ⟨c, hc, e⟩
  · have w := (ft6 (nJ_lt hj).2).1.2
    exact kc_012 w
theorem WD.txt {q : Nat → Int32} {m x : Nat} : WD (nD q m (1 + 6 * x)) (fun j i => tDf q (1 + 6 * x + 5 * j) i) := fun j hj => by
  obtain ⟨c, hc, e⟩ := dg_9 (ft5 (nD_lt hj).2 1 (by decide))
  show 0 ≤ q (1 + 6 * x + 5 * j + 2) - 48
  rw [show 1 + 6 * x + 5 * j + 2 = 1 + 6 * x + 5 * j + 1 + 1 by omega, e]
  exact i3_nn (by omega)
theorem CIV.txt {M : MM} {n nd : Nat} {J B : JT} {zs : Nat → Nat} {ln : Nat → Int32} {C : JT} {rc : Nat} {rj : Nat → Nat} {rt : JT} {tr fa : Int32} {q : Nat → Int32} {x y : Nat} (h : CIV M n nd J B zs ln C rc rj rt tr fa) (hx : x ≤ 6) (hy : y ≤ 4) : CIV (upM (K2 (upM M 2 6 0) q x y) 22 3 0) x y (fun j i => tJf q (1 + 6 * j) i) (fun j i => tDf q (1 + 6 * x + 5 * j) i) zs ln C 0 rj rt tr 0 := by
  have hn : ∀ a i, ¬ a = 3 → ¬ (6 ≤ a ∧ a < 16) → K2 (upM M 2 6 0) q x y a i = upM M 2 6 0 a i := fun a i h1 h2 => by
    unfold K2 K1
    rw [if_neg (by omega), if_neg (by omega), if_neg (by omega), if_neg (by omega), if_neg (by omega)]
  obtain ⟨h1, h2, h3, h4, h5, h6⟩ := h
  refine ⟨⟨hx, ?_, fun j hj i hi => ?_⟩, ⟨hy, ?_, fun j hj i hi => ?_⟩, fun k hk => ?_, ⟨by omega, upM_same, fun t ht => by omega⟩, ?_, ?_⟩
  · rw [upM_ne (by omega)]; unfold K2 K1; rw [if_neg (by omega), if_neg (by omega), if_pos ⟨rfl, rfl⟩]
  · rw [upM_ne (by omega)]; unfold K2 K1; rw [if_neg (by omega), if_neg (by omega), if_neg (by omega), if_neg (by omega), if_pos (by omega), show 6 + j - 6 = j by omega]
  · rw [upM_ne (by omega)]; unfold K2; rw [if_pos ⟨rfl, rfl⟩]
  · rw [upM_ne (by omega)]; unfold K2; rw [if_neg (by omega), if_pos (by omega), show 12 + j - 12 = j by omega]
  · obtain ⟨a1, a2, a3⟩ := h3 k hk
    refine ⟨a1, fun e => ?_, fun e => ⟨?_, ?_, ?_, fun i hi => ?_⟩⟩
    · rw [upM_ne (by omega), hn _ _ (by omega) (by omega), upM_ne (by omega)]; exact a2 e
    · rw [upM_ne (by omega), hn _ _ (by omega) (by omega), upM_ne (by omega)]; exact (a3 e).1
    · rw [upM_ne (by omega), hn _ _ (by omega) (by omega), upM_ne (by omega)]; exact (a3 e).2.1
    · rw [upM_ne (by omega), hn _ _ (by omega) (by omega), upM_ne (by omega)]; exact (a3 e).2.2.1
    · rw [upM_ne (by omega), hn _ _ (by omega) (by omega), upM_ne (by omega)]; exact (a3 e).2.2.2 i hi
  · rw [upM_ne (by omega), hn _ _ (by omega) (by omega), upM_ne (by omega)]; exact h5
  · rw [upM_ne (by omega), hn _ _ (by omega) (by omega), upM_same]
theorem stO_ne {M : MM} {q : Nat → Int32} {r x y P a i : Nat} (h : ¬ (a = 36 ∧ (i = 0 ∨ i = 1 ∨ i = 7 ∨ i = 12 ∨ i = 13 ∨ i = 14 ∨ i = 27))) (h2 : ¬ (37 ≤ a ∧ a ≤ 53)) : stO M q r x y P a i = M a i := by
  unfold stO
  rw [upM_ne (by omega), upM_ne (by omega), SD_ne (by omega), SJ_ne (by omega), upM_ne (by omega), upM_ne (by omega), RS_ne (by omega) (by omega)]
theorem RS_j {M : MM} {q : Nat → Int32} {r x y P k j : Nat} (hk : k < 5) (hj : j < x) : RS M q r x y P (46 + k) j = tJf q (1 + 6 * j) k := by
  unfold RS
  rw [if_neg (by omega), if_neg (by omega), if_neg (by omega), if_pos (by omega), show 46 + k - 46 = k by omega]
theorem RS_d {M : MM} {q : Nat → Int32} {r x y P k j : Nat} (hk : k < 3) (hj : j < y) : RS M q r x y P (51 + k) j = tDf q (P + 5 * j) k := by
  unfold RS
  rw [if_neg (by omega), if_neg (by omega), if_neg (by omega), if_neg (by omega), if_pos (by omega), show 51 + k - 51 = k by omega]
theorem MIV.txt {M : MM} {n nd : Nat} {J B : JT} {zs : Nat → Nat} {ln : Nat → Int32} {C : JT} {rc : Nat} {rj : Nat → Nat} {rt : JT} {tr fa : Int32} {q : Nat → Int32} {r x y : Nat} (h : MIV M n nd J B zs ln C rc rj rt tr fa) (hx : x ≤ 6) (hy : y ≤ 4) (hk : KD x (fun j i => tJf q (1 + 6 * j) i)) (hw : WD y (fun j i => tDf q (1 + 6 * x + 5 * j) i)) : MIV (stO M q r x y (1 + 6 * x)) x y (fun j i => tJf q (1 + 6 * j) i) (fun j i => tDf q (1 + 6 * x + 5 * j) i) zs ln C 0 rj rt tr 0 := by
  obtain ⟨h1, h2, h3, h4, h5, h6⟩ := h
  refine ⟨⟨hx, ?_, fun j hj k hk => ?_, hk⟩, ⟨hy, ?_, fun j hj k hk => ?_, hw⟩, fun k hk => ?_, ⟨by omega, ?_, fun t ht => by omega, fun t ht => by omega⟩, ?_, upM_same⟩
  · unfold stO
    rw [upM_ne (by omega), upM_ne (by omega), SD_ne (by omega), SJ_ne (by omega), upM_ne (by omega), upM_same]
  · unfold stO
    rw [upM_ne (by omega), upM_ne (by omega), SD_ne (by omega)]
    unfold SJ
    rw [if_pos (by omega), upM_ne (by omega), upM_ne (by omega), show 37 + k + 9 = 46 + k by omega, RS_j hk hj]
  · unfold stO
    rw [upM_ne (by omega), upM_ne (by omega), SD_ne (by omega), SJ_ne (by omega), upM_same]
  · unfold stO
    rw [upM_ne (by omega), upM_ne (by omega)]
    unfold SD
    by_cases e : k = 3
    · subst e
      rw [if_neg (by omega), if_pos (by omega)]; rfl
    · rw [if_pos (by omega), SJ_ne (by omega), upM_ne (by omega), upM_ne (by omega), show 42 + k + 9 = 51 + k by omega, RS_d (by omega) hj]
  · obtain ⟨a1, a2, a3⟩ := h3 k hk
    refine ⟨a1, ?_, fun e => ⟨?_, fun i hi => ?_⟩⟩
    · rw [stO_ne (by omega) (by omega)]; exact a2
    · rw [stO_ne (by omega) (by omega)]; exact (a3 e).1
    · rw [stO_ne (by omega) (by omega)]; exact (a3 e).2 i hi
  · unfold stO
    rw [upM_ne (by omega), upM_same]; rfl
  · rw [stO_ne (by omega) (by omega)]; exact h5
theorem OP_store {M : MM} (h : INV M) (x u v w : Int32) : RESI y_LJ_store c_LJ_store 8 5 [vR 2, vI x, vI u, vI v, vI w] y_Mo_store c_Mo_store 7 5 [vR 36, vI x, vI u, vI v, vI w] M := by
  obtain ⟨n, nd, J, B, zs, ln, C, rc, rj, rt, tr, fa, hC, hM, hO⟩ := h
  obtain ⟨cJ, cB, cZ, cR, cT, cF⟩ := id hC
  obtain ⟨mJ, mB, mZ, mR, mT, mF⟩ := id hM
  have hI : INV M := ⟨n, nd, J, B, zs, ln, C, rc, rj, rt, tr, fa, hC, hM, hO⟩
  have hF : ∀ f, INV (upM (upM M 2 6 f) 36 0 f) := fun f => ⟨n, nd, J, B, zs, ln, C, rc, rj, rt, tr, f, hC.flt.mU (by decide), (hM.cU (by decide)).flt, hO⟩
  have hM1 : ∀ f, MIV (upM M 2 6 f) n nd J B zs ln C rc rj rt tr fa := fun f => hM.cU (by decide)
  by_cases hx : rg x 0 3 = false
  · exact ⟨_, _, _, C_LJ_store_out hx, C_Mo_store_out hx, hF 0⟩
  · obtain ⟨k, hk, rfl⟩ := rg_nat' (n := 4) (x := x) (H := 3) (by decide) (by simpa using hx)
    by_cases hu : rg u 0 2 = false
    · exact ⟨_, _, _, C_LJ_store_lane hk hu, C_Mo_store_lane hk hu, hF 0⟩
    · have hu' : rg u 0 2 = true := by simpa using hu
      by_cases hf : flt (zs k) (ln k) u v w = 0
      · obtain ⟨f1, f2, f3⟩ := flt_inv hf
        subst f2
        have zk := (cZ k hk).1
        obtain ⟨a, m, rfl, rfl, ha⟩ := hc_nat (by omega) f3
        cases hff : ffO (fun t => C k (a + t)) m with
        | some f =>
          obtain ⟨x, y, P, hm⟩ := C_Mo_store_bad (hM1 0).2.2.1 hk hu' f1 ha hff
          have hM2 : MIV (RS (upM M 2 6 0) (fun t => C k (a + t)) f x y P) n nd J B zs ln C rc rj rt tr fa := (hM1 0).eq2 (fun q i h1 h2 h3 h4 => RS_ne (by omega) (by omega))
          exact ⟨_, _, _, C_LJ_store_bad cZ hk hu' f1 ha hff, hm, ⟨n, nd, J, B, zs, ln, C, rc, rj, rt, tr, 0, hC.flt.eq (fun q hq i => by rw [upM_ne (by omega), RS_ne (by omega) (by omega)]), hM2.flt, hO⟩⟩
        | none =>
          have n6 := nJ_le (fun t => C k (a + t)) m
          have n4 := nD_le (fun t => C k (a + t)) m (1 + 6 * nJ (fun t => C k (a + t)) m)
          have hM2 : MIV (upM (K2 (upM M 2 6 0) (fun t => C k (a + t)) (nJ (fun t => C k (a + t)) m) (nD (fun t => C k (a + t)) m (1 + 6 * nJ (fun t => C k (a + t)) m))) 22 3 0) n nd J B zs ln C rc rj rt tr fa := hM.eq (fun q hq i => by
            rw [upM_ne (by omega)]
            unfold K2 K1
            rw [if_neg (by omega), if_neg (by omega), if_neg (by omega), if_neg (by omega), if_neg (by omega), upM_ne (by omega)])
          exact ⟨_, _, _, C_LJ_store_ok cZ hk hu' f1 ha hff, C_Mo_store_ok hM2.2.2.1 hk hu' f1 ha hff, ⟨_, _, _, _, zs, ln, C, _, rj, rt, tr, _, (hC.txt n6 n4).eq (fun q hq i => stO_ne (by omega) (by omega)), hM2.txt n6 n4 (OS.txt hO.2.2.2).2.2.1 WD.txt, OS.txt hO.2.2.2⟩⟩
      · exact ⟨_, _, _, C_LJ_store_fail cZ hk hu' hf, C_Mo_store_fail (hM1 _).2.2.1 hk hu' hf, hF _⟩
