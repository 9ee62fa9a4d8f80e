/-! Class and model, call by call: readings and sheets. -/
theorem CIV.newR {M M' : MM} {n nd : Nat} {J B : JT} {zs : Nat → Nat} {ln : Nat → Int32} {C : JT} {rc : Nat} {rj : Nat → Nat} {rt : JT} {tr fa : Int32} {rc' : Nat} {rj' : Nat → Nat} {rt' : JT} (h : CIV M n nd J B zs ln C rc rj rt tr fa) (he : ∀ a, a < 36 → ¬ (22 ≤ a ∧ a ≤ 25) → ∀ i, M' a i = M a i) (hr : CR M' n rc' rj' rt') : CIV M' n nd J B zs ln C rc' rj' rt' tr fa := by
  obtain ⟨h1, h2, h3, h4, h5, h6⟩ := h
  have n6 := h1.1
  have n4 := h2.1
  refine ⟨h1.eq (fun a ha i => he a (by omega) (by omega) i), h2.eq (fun a ha i => he a (by omega) (by omega) i), fun k hk => ?_, hr, ?_, ?_⟩
  · obtain ⟨a1, a2, a3⟩ := h3 k hk
    refine ⟨a1, fun e => ?_, fun e => ⟨?_, ?_, ?_, fun i hi => ?_⟩⟩
    · rw [he _ (by omega) (by omega)]; exact a2 e
    · rw [he _ (by omega) (by omega)]; exact (a3 e).1
    · rw [he _ (by omega) (by omega)]; exact (a3 e).2.1
    · rw [he _ (by omega) (by omega)]; exact (a3 e).2.2.1
    · rw [he _ (by omega) (by omega)]; exact (a3 e).2.2.2 i hi
  · rw [he _ (by omega) (by omega)]; exact h5
  · rw [he _ (by omega) (by omega)]; exact h6
theorem MIV.newR {M M' : MM} {n nd : Nat} {J B : JT} {zs : Nat → Nat} {ln : Nat → Int32} {C : JT} {rc : Nat} {rj : Nat → Nat} {rt : JT} {tr fa : Int32} {rc' : Nat} {rj' : Nat → Nat} {rt' : JT} (h : MIV M n nd J B zs ln C rc rj rt tr fa) (he : ∀ a i, 36 ≤ a → ¬ (a = 36 ∧ i = 27) → ¬ (57 ≤ a ∧ a ≤ 59) → M' a i = M a i) (hr : MR M' n rc' rj' rt') : MIV M' n nd J B zs ln C rc' rj' rt' tr fa := by
  obtain ⟨h1, h2, h3, h4, h5, h6⟩ := h
  refine ⟨h1.eq (he _ _ (by omega) (by omega) (by omega)) (fun a ha ha2 i => he a i (by omega) (by omega) (by omega)), h2.eq (he _ _ (by omega) (by omega) (by omega)) (fun a ha ha2 i => he a i (by omega) (by omega) (by omega)), fun k hk => ?_, hr, ?_, ?_⟩
  · obtain ⟨a1, a2, a3⟩ := h3 k hk
    refine ⟨a1, ?_, fun e => ⟨?_, fun i hi => ?_⟩⟩
    · rw [he _ _ (by omega) (by omega) (by omega)]; exact a2
    · rw [he _ _ (by omega) (by omega) (by omega)]; exact (a3 e).1
    · rw [he _ _ (by omega) (by omega) (by omega)]; exact (a3 e).2 i hi
  · rw [he _ _ (by omega) (by omega) (by omega)]; exact h5
  · rw [he _ _ (by omega) (by omega) (by omega)]; exact h6
theorem CIV.newZ {M M' : MM} {n nd : Nat} {J B : JT} {zs : Nat → Nat} {ln : Nat → Int32} {C : JT} {rc : Nat} {rj : Nat → Nat} {rt : JT} {tr fa : Int32} {zs' : Nat → Nat} {ln' : Nat → Int32} {C' : JT} {f : Int32} (h : CIV M n nd J B zs ln C rc rj rt tr fa) (he : ∀ a i, a < 28 → ¬ (a = 2 ∧ i = 6) → M' a i = M a i) (hz : CZ M' zs' ln' C') (hf : M' 2 6 = f) : CIV M' n nd J B zs' ln' C' rc rj rt tr f := by
  obtain ⟨h1, h2, h3, h4, h5, h6⟩ := h
  have n6 := h1.1
  have n4 := h2.1
  refine ⟨⟨n6, by rw [he _ _ (by omega) (by omega)]; exact h1.2.1, fun t ht i hi => by rw [he _ _ (by omega) (by omega)]; exact h1.2.2 t ht i hi⟩, ⟨n4, by rw [he _ _ (by omega) (by omega)]; exact h2.2.1, fun t ht i hi => by rw [he _ _ (by omega) (by omega)]; exact h2.2.2 t ht i hi⟩, hz, ⟨h4.1, ?_, fun x hx => ?_⟩, ?_, hf⟩
  · rw [he _ _ (by omega) (by omega)]; exact h4.2.1
  · rw [he _ _ (by omega) (by omega), he _ _ (by omega) (by omega), he _ _ (by omega) (by omega)]; exact h4.2.2 x hx
  · rw [he _ _ (by omega) (by omega)]; exact h5
theorem MIV.newZ {M M' : MM} {n nd : Nat} {J B : JT} {zs : Nat → Nat} {ln : Nat → Int32} {C : JT} {rc : Nat} {rj : Nat → Nat} {rt : JT} {tr fa : Int32} {zs' : Nat → Nat} {ln' : Nat → Int32} {C' : JT} {f : Int32} (h : MIV M n nd J B zs ln C rc rj rt tr fa) (he : ∀ a i, 36 ≤ a → a < 60 → ¬ (a = 36 ∧ i = 0) → M' a i = M a i) (hz : MZ M' zs' ln' C') (hf : M' 36 0 = f) : MIV M' n nd J B zs' ln' C' rc rj rt tr f := by
  obtain ⟨h1, h2, h3, h4, h5, h6⟩ := h
  refine ⟨h1.eq (he _ _ (by omega) (by omega) (by omega)) (fun a ha ha2 i => he a i (by omega) (by omega) (by omega)), h2.eq (he _ _ (by omega) (by omega) (by omega)) (fun a ha ha2 i => he a i (by omega) (by omega) (by omega)), hz, ⟨h4.1, ?_, fun x hx => ?_, h4.2.2.2⟩, ?_, hf⟩
  · rw [he _ _ (by omega) (by omega) (by omega)]; exact h4.2.1
  · rw [he _ _ (by omega) (by omega) (by omega), he _ _ (by omega) (by omega) (by omega), he _ _ (by omega) (by omega) (by omega)]; exact h4.2.2.1 x hx
  · rw [he _ _ (by omega) (by omega) (by omega)]; exact h5
theorem flt_inv {z : Nat} {l lane i n : Int32} (h : flt z l lane i n = 0) : z ≠ 0 ∧ lane = l ∧ hcB (i3 (z - 1)) i n = true := by
  unfold flt at h
  by_cases h1 : z = 0
  · rw [if_pos h1] at h; exact absurd h (by decide)
  · rw [if_neg h1] at h
    by_cases h2 : lane = l
    · rw [if_neg (fun w => w h2)] at h
      by_cases h3 : n < 0
      · rw [if_pos h3] at h; exact absurd h (by decide)
      · rw [if_neg h3] at h
        by_cases h4 : hcB (i3 (z - 1)) i n = true
        · exact ⟨h1, h2, h4⟩
        · rw [if_neg h4] at h; exact absurd h (by decide)
    · rw [if_pos h2] at h; exact absurd h (by decide)
theorem hc_nat {z : Nat} {i n : Int32} (hz : z ≤ 60) (h : hcB (i3 z) i n = true) : ∃ a m, i = i3 a ∧ n = i3 m ∧ a + m ≤ z := by
  obtain ⟨h1, h2, h3⟩ := (hcB_int hz).mp h
  refine ⟨i.toInt.toNat, n.toInt.toNat, ?_, ?_, by omega⟩
  · apply Int32.toInt_inj.mp; rw [i3_int (by omega)]; omega
  · apply Int32.toInt_inj.mp; rw [i3_int (by omega)]; omega
theorem hc1_nat {z : Nat} {i : Int32} (hz : z ≤ 60) (h : hcB (i3 z) i 1 = true) : ∃ a, i = i3 a ∧ a < z := by
  obtain ⟨a, m, h1, h2, h3⟩ := hc_nat hz h
  have : m = 1 := by
    have := congrArg Int32.toInt h2
    rw [i3_int (by omega)] at this
    have e : (1 : Int32).toInt = 1 := rfl
    omega
  exact ⟨a, h1, by omega⟩
def upN (f : Nat → Nat) (k v : Nat) : Nat → Nat := fun t => if t = k then v else f t
theorem upN_same {f : Nat → Nat} {k v : Nat} : upN f k v k = v := if_pos rfl
theorem upN_ne {f : Nat → Nat} {k v t : Nat} (h : ¬ t = k) : upN f k v t = f t := if_neg h
theorem CIV.read {M : MM} {n nd : Nat} {J B : JT} {zs : Nat → Nat} {ln : Nat → Int32} {C : JT} {rc : Nat} {rj : Nat → Nat} {rt : JT} {tr fa : Int32} {j : Nat} {u v : Int32} (h : CIV M n nd J B zs ln C rc rj rt tr fa) (hj : j < n) (hr : rc < 8) : CIV (upM (upM (upM (upM M 23 rc (i3 j)) 24 rc u) 25 rc v) 22 3 (i3 (rc + 1))) n nd J B zs ln C (rc + 1) (upN rj rc j) (upM (upM rt rc 0 u) rc 1 v) tr fa := by
  refine h.newR (fun a ha hb i => by rw [upM_ne (by omega), upM_ne (by omega), upM_ne (by omega), upM_ne (by omega)]) ⟨by omega, upM_same, fun t ht => ?_⟩
  by_cases e : t = rc
  · subst e
    exact ⟨by rw [upN_same]; exact hj, by rw [upN_same, upM_ne (by omega), upM_ne (by omega), upM_ne (by omega), upM_same], by rw [upM_ne (by omega), upM_ne (by omega), upM_same, upM_ne (by omega), upM_same], by rw [upM_ne (by omega), upM_same, upM_same]⟩
  · obtain ⟨w1, w2, w3, w4⟩ := h.2.2.2.1.2.2 t (by omega)
    exact ⟨by rw [upN_ne e]; exact w1, by rw [upN_ne e, upM_ne (by omega), upM_ne (by omega), upM_ne (by omega), upM_ne (by omega)]; exact w2, by rw [upM_ne (by omega), upM_ne (by omega), upM_ne (by omega), upM_ne (by omega), upM_ne (by omega), upM_ne (by omega)]; exact w3, by rw [upM_ne (by omega), upM_ne (by omega), upM_ne (by omega), upM_ne (by omega), upM_ne (by omega), upM_ne (by omega)]; exact w4⟩
theorem MIV.read {M : MM} {n nd : Nat} {J B : JT} {zs : Nat → Nat} {ln : Nat → Int32} {C : JT} {rc : Nat} {rj : Nat → Nat} {rt : JT} {tr fa : Int32} {j : Nat} {u v : Int32} (h : MIV M n nd J B zs ln C rc rj rt tr fa) (hj : j < n) (hr : rc < 8) (hu : 0 ≤ u) : MIV (upM (upM (upM (upM M 57 rc (i3 j)) 58 rc u) 59 rc v) 36 27 (i3 (rc + 1))) n nd J B zs ln C (rc + 1) (upN rj rc j) (upM (upM rt rc 0 u) rc 1 v) tr fa := by
  refine h.newR (fun a i ha hb hc => by rw [upM_ne (by omega), upM_ne (by omega), upM_ne (by omega), upM_ne (by omega)]) ⟨by omega, upM_same, fun t ht => ?_, fun t ht => ?_⟩
  rotate_left
  · by_cases e : t = rc
    · rw [e, upM_ne (by omega), upM_same]; exact hu
    · rw [upM_ne (by omega), upM_ne (by omega)]; exact h.2.2.2.1.2.2.2 t (by omega)
  by_cases e : t = rc
  · subst e
    exact ⟨by rw [upN_same]; exact hj, by rw [upN_same, upM_ne (by omega), upM_ne (by omega), upM_ne (by omega), upM_same], by rw [upM_ne (by omega), upM_ne (by omega), upM_same, upM_ne (by omega), upM_same], by rw [upM_ne (by omega), upM_same, upM_same]⟩
  · obtain ⟨w1, w2, w3, w4⟩ := h.2.2.2.1.2.2.1 t (by omega)
    exact ⟨by rw [upN_ne e]; exact w1, by rw [upN_ne e, upM_ne (by omega), upM_ne (by omega), upM_ne (by omega), upM_ne (by omega)]; exact w2, by rw [upM_ne (by omega), upM_ne (by omega), upM_ne (by omega), upM_ne (by omega), upM_ne (by omega), upM_ne (by omega)]; exact w3, by rw [upM_ne (by omega), upM_ne (by omega), upM_ne (by omega), upM_ne (by omega), upM_ne (by omega), upM_ne (by omega)]; exact w4⟩
theorem OP_reading {M : MM} (h : INV M) (x u v : Int32) : RESI y_LJ_reading c_LJ_reading 4 3 [vR 2, vI x, vI u, vI v] y_Mo_reading c_Mo_reading 4 3 [vR 36, vI x, vI u, vI v] M := by
  obtain ⟨n, nd, J, B, zs, ln, C, rc, rj, rt, tr, fa, hC, hM, hO⟩ := h
  obtain ⟨cJ, cB, cZ, cR, cT, cF⟩ := id hC
  obtain ⟨mJ, mB, mZ, mR, mT, mF⟩ := id hM
  have hI : INV M := ⟨n, nd, J, B, zs, ln, C, rc, rj, rt, tr, fa, hC, hM, hO⟩
  have hF : ∀ f, INV (upM (upM M 2 6 f) 36 0 f) := fun f => ⟨n, nd, J, B, zs, ln, C, rc, rj, rt, tr, f, hC.flt.mU (by decide), (hM.cU (by decide)).flt, hO⟩
  by_cases hx : rg x 0 ((n : Int) - 1) = false
  · exact ⟨_, _, _, C_LJ_reading_out cJ hx, C_Mo_reading_out mJ hx, hI⟩
  · obtain ⟨j, hj, rfl⟩ := rg_nat (n := n) (x := x) (by simpa using hx)
    by_cases hb : (rg u 0 9 && rg v 0 9) = false
    · exact ⟨_, _, _, C_LJ_reading_bad cJ hj hb, C_Mo_reading_bad mJ hj hb, hI⟩
    · have hb' : (rg u 0 9 && rg v 0 9) = true := by simpa using hb
      rw [Bool.and_eq_true] at hb'
      have r8 := cR.1
      by_cases h8 : rc = 8
      · exact ⟨_, _, _, C_LJ_reading_full cJ hj hb'.1 hb'.2 (by rw [cR.2.1, h8]), C_Mo_reading_full mJ hj hb'.1 hb'.2 (by rw [mR.2.1, h8]), hI⟩
      · have hr8 : rc < 8 := by omega
        have hM1 : MIV (upM (upM (upM (upM M 23 rc (i3 j)) 24 rc u) 25 rc v) 22 3 (i3 (rc + 1))) n nd J B zs ln C rc rj rt tr fa := (((hM.cU (by decide)).cU (by decide)).cU (by decide)).cU (by decide)
        exact ⟨_, _, _, C_LJ_reading_ok cJ hj hb'.1 hb'.2 hr8 cR.2.1, C_Mo_reading_ok hM1.1 hj hb'.1 hb'.2 hr8 hM1.2.2.2.1.2.1, ⟨n, nd, J, B, zs, ln, C, rc + 1, upN rj rc j, upM (upM rt rc 0 u) rc 1 v, tr, fa, ((((hC.read hj hr8).mU (by decide)).mU (by decide)).mU (by decide)).mU (by decide), hM1.read hj hr8 (rg_nn hb'.1), hO⟩⟩
theorem OP_back {M : MM} (h : INV M) (x : Int32) : RESI y_LJ_back c_LJ_back 2 1 [vR 2, vI x] y_Mo_back c_Mo_back 2 2 [vR 36, vI x] M := by
  obtain ⟨n, nd, J, B, zs, ln, C, rc, rj, rt, tr, fa, hC, hM, hO⟩ := h
  obtain ⟨cJ, cB, cZ, cR, cT, cF⟩ := id hC
  obtain ⟨mJ, mB, mZ, mR, mT, mF⟩ := id hM
  have hI : INV M := ⟨n, nd, J, B, zs, ln, C, rc, rj, rt, tr, fa, hC, hM, hO⟩
  have hF : ∀ f, INV (upM (upM M 2 6 f) 36 0 f) := fun f => ⟨n, nd, J, B, zs, ln, C, rc, rj, rt, tr, f, hC.flt.mU (by decide), (hM.cU (by decide)).flt, hO⟩
  have r8 := cR.1
  by_cases hx : rg x 0 rc = false
  · exact ⟨_, _, _, C_LJ_back_bad r8 cR.2.1 hx, C_Mo_back_bad r8 mR.2.1 hx, hI⟩
  · obtain ⟨k, hk, rfl⟩ := rg_nat' (n := rc + 1) (x := x) (H := rc) (by omega) (by simpa using hx)
    have hM1 := hM.cU (r := 22) (k := 3) (x := i3 (rc - k)) (by decide)
    exact ⟨_, _, _, C_LJ_back_ok r8 cR.2.1 (by omega), C_Mo_back_ok r8 hM1.2.2.2.1.2.1 (by omega), ⟨n, nd, J, B, zs, ln, C, rc - k, rj, rt, tr, fa, CIV.mU (hC.newR (fun a ha hb i => upM_ne (by omega)) ⟨by omega, upM_same, fun t ht => by rw [upM_ne (by omega), upM_ne (by omega), upM_ne (by omega)]; exact cR.2.2 t (by omega)⟩) (by decide), hM1.newR (fun a i ha hb hc => upM_ne (by omega)) ⟨by omega, upM_same, fun t ht => by rw [upM_ne (by omega), upM_ne (by omega), upM_ne (by omega)]; exact hM1.2.2.2.1.2.2.1 t (by omega), fun t ht => hM1.2.2.2.1.2.2.2 t (by omega)⟩, hO⟩⟩
theorem OP_lose {M : MM} (h : INV M) (x : Int32) : RESI y_LJ_lose c_LJ_lose 4 3 [vR 2, vI x] y_Mo_lose c_Mo_lose 3 3 [vR 36, vI x] M := by
  obtain ⟨n, nd, J, B, zs, ln, C, rc, rj, rt, tr, fa, hC, hM, hO⟩ := h
  obtain ⟨cJ, cB, cZ, cR, cT, cF⟩ := id hC
  obtain ⟨mJ, mB, mZ, mR, mT, mF⟩ := id hM
  have hI : INV M := ⟨n, nd, J, B, zs, ln, C, rc, rj, rt, tr, fa, hC, hM, hO⟩
  have hF : ∀ f, INV (upM (upM M 2 6 f) 36 0 f) := fun f => ⟨n, nd, J, B, zs, ln, C, rc, rj, rt, tr, f, hC.flt.mU (by decide), (hM.cU (by decide)).flt, hO⟩
  by_cases hx : rg x 0 3 = false
  · exact ⟨_, _, _, C_LJ_lose_out hx, C_Mo_lose_out hx, hI⟩
  · obtain ⟨k, hk, rfl⟩ := rg_nat' (n := 4) (x := x) (H := 3) (by decide) (by simpa using hx)
    have hM1 := hM.cU (r := 28 + 2 * k) (k := 1) (x := 0) (by omega)
    refine ⟨_, _, _, C_LJ_lose_in cZ hk, C_Mo_lose_in hM1.2.2.1 hk, ⟨n, nd, J, B, upN zs k 0, ln, C, rc, rj, rt, tr, fa, CIV.mU (hC.newZ (fun a i ha hb => upM_ne (by omega)) (fun t ht => by
      by_cases e : t = k
      · subst e; rw [upN_same]; exact ⟨by omega, fun _ => upM_same, fun w => absurd rfl w⟩
      · rw [upN_ne e]
        obtain ⟨a1, a2, a3⟩ := cZ t ht
        refine ⟨a1, fun w => ?_, fun w => ⟨?_, ?_, ?_, fun i hi => ?_⟩⟩
        · rw [upM_ne (by omega)]; exact a2 w
        · rw [upM_ne (by omega)]; exact (a3 w).1
        · rw [upM_ne (by omega)]; exact (a3 w).2.1
        · rw [upM_ne (by omega)]; exact (a3 w).2.2.1
        · rw [upM_ne (by omega)]; exact (a3 w).2.2.2 i hi) (by rw [upM_ne (by omega)]; exact cF)) (by decide), hM1.newZ (fun a i ha hb hc => upM_ne (by omega)) (fun t ht => by
      by_cases e : t = k
      · subst e; rw [upN_same]; exact ⟨by omega, by rw [if_pos rfl]; exact upM_same, fun w => absurd rfl w⟩
      · rw [upN_ne e]
        obtain ⟨a1, a2, a3⟩ := hM1.2.2.1 t ht
        refine ⟨a1, ?_, fun w => ⟨?_, fun i hi => ?_⟩⟩
        · rw [upM_ne (by omega)]; exact a2
        · rw [upM_ne (by omega)]; exact (a3 w).1
        · rw [upM_ne (by omega)]; exact (a3 w).2 i hi) (by rw [upM_ne (by omega)]; exact hM1.2.2.2.2.2), ⟨hO.1, hO.2.1, hO.2.2.1, fun t ht w => by
        by_cases e : t = k
        · subst e; rw [upN_same] at w; exact absurd rfl w
        · rw [upN_ne e] at w; exact hO.2.2.2 t ht w⟩⟩⟩
theorem OP_cell {M : MM} (h : INV M) (x u v : Int32) : RESL y_LJ_cell c_LJ_cell 5 3 [vR 2, vI x, vI u, vI v] y_Mo_cell c_Mo_cell 4 3 [vR 36, vI x, vI u, vI v] M := by
  obtain ⟨n, nd, J, B, zs, ln, C, rc, rj, rt, tr, fa, hC, hM, hO⟩ := h
  obtain ⟨cJ, cB, cZ, cR, cT, cF⟩ := id hC
  obtain ⟨mJ, mB, mZ, mR, mT, mF⟩ := id hM
  have hI : INV M := ⟨n, nd, J, B, zs, ln, C, rc, rj, rt, tr, fa, hC, hM, hO⟩
  have hF : ∀ f, INV (upM (upM M 2 6 f) 36 0 f) := fun f => ⟨n, nd, J, B, zs, ln, C, rc, rj, rt, tr, f, hC.flt.mU (by decide), (hM.cU (by decide)).flt, hO⟩
  have hM1 : ∀ f, MIV (upM M 2 6 f) n nd J B zs ln C rc rj rt tr fa := fun f => hM.cU (by decide)
  by_cases hx : rg x 0 3 = false
  · exact ⟨_, _, _, C_LJ_cell_out hx, C_Mo_cell_out hx, hF 0⟩
  · obtain ⟨k, hk, rfl⟩ := rg_nat' (n := 4) (x := x) (H := 3) (by decide) (by simpa using hx)
    by_cases hu : rg v 0 2 = false
    · exact ⟨_, _, _, C_LJ_cell_bad hk hu, C_Mo_cell_bad hk hu, hF 0⟩
    · have hu' : rg v 0 2 = true := by simpa using hu
      by_cases hf : flt (zs k) (ln k) v u 1 = 0
      · obtain ⟨f1, f2, f3⟩ := flt_inv hf
        subst f2
        obtain ⟨a, rfl, ha⟩ := hc1_nat (by have := (cZ k hk).1; omega) f3
        exact ⟨_, _, _, C_LJ_cell_ok cZ hk hu' f1 ha, C_Mo_cell_ok (hM1 _).2.2.1 hk hu' f1 ha, hF 0⟩
      · exact ⟨_, _, _, C_LJ_cell_fail cZ hk hu' hf, C_Mo_cell_fail (hM1 _).2.2.1 hk hu' hf, hF _⟩
theorem OP_guess {M : MM} (h : INV M) (x u v w y : Int32) : RESI y_LJ_guess c_LJ_guess 8 5 [vR 2, vI x, vI u, vI v, vI w, vI y] y_Mo_guess c_Mo_guess 7 6 [vR 36, vI x, vI u, vI v, vI w, vI y] M := by
  obtain ⟨n, nd, J, B, zs, ln, C, rc, rj, rt, tr, fa, hC, hM, hO⟩ := h
  obtain ⟨cJ, cB, cZ, cR, cT, cF⟩ := id hC
  obtain ⟨mJ, mB, mZ, mR, mT, mF⟩ := id hM
  have hI : INV M := ⟨n, nd, J, B, zs, ln, C, rc, rj, rt, tr, fa, hC, hM, hO⟩
  have hF : ∀ f, INV (upM (upM M 2 6 f) 36 0 f) := fun f => ⟨n, nd, J, B, zs, ln, C, rc, rj, rt, tr, f, hC.flt.mU (by decide), (hM.cU (by decide)).flt, hO⟩
  have hM1 : ∀ f, MIV (upM M 2 6 f) n nd J B zs ln C rc rj rt tr fa := fun f => hM.cU (by decide)
  by_cases hx : rg x 0 3 = false
  · exact ⟨_, _, _, C_LJ_guess_out hx, C_Mo_guess_out hx, hF 0⟩
  · obtain ⟨k, hk, rfl⟩ := rg_nat' (n := 4) (x := x) (H := 3) (by decide) (by simpa using hx)
    by_cases hb : (rg u 0 2 && (rg w 0 10 && rg y 0 2)) = false
    · exact ⟨_, _, _, C_LJ_guess_bad hk hb, C_Mo_guess_bad hk hb, hF 0⟩
    · have hb' : (rg u 0 2 && (rg w 0 10 && rg y 0 2)) = true := by simpa using hb
      rw [Bool.and_eq_true, Bool.and_eq_true] at hb'
      obtain ⟨b1, b2, b3⟩ := hb'
      obtain ⟨m, hm, rfl⟩ := rg_nat' (n := 11) (x := w) (H := 10) (by decide) b2
      by_cases h0 : n = 0
      · exact ⟨_, _, _, C_LJ_guess_no cJ hk b1 hm b3 h0, C_Mo_guess_no (hM1 _).1 hk b1 hm b3 h0, hF 0⟩
      · by_cases hf : flt (zs k) (ln k) u v (i3 m) = 0
        · obtain ⟨f1, f2, f3⟩ := flt_inv hf
          subst f2
          obtain ⟨a, m', rfl, e, ha⟩ := hc_nat (by have := (cZ k hk).1; omega) f3
          have e2 : m = m' := (i3_inj (by omega) (by have := (cZ k hk).1; omega)).mp e
          subst e2
          exact ⟨_, _, _, C_LJ_guess_ok cJ hk hm b3 cZ b1 h0 f1 ha, C_Mo_guess_ok (hM1 _).1 hk hm b3 (hM1 _).2.2.1 b1 h0 f1 ha, hF 0⟩
        · exact ⟨_, _, _, C_LJ_guess_fail cJ hk b1 hm b3 cZ h0 hf, C_Mo_guess_fail (hM1 _).1 hk b1 hm b3 (hM1 _).2.2.1 h0 hf, hF _⟩
