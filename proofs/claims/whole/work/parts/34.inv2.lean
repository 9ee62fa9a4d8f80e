/-! Class and model, call by call: what changes jars and deciders. -/
theorem CIV.eq2 {M M' : MM} {n nd : Nat} {J B : JT} {zs : Nat → Nat} {ln : Nat → Int32} {C : JT} {rc : Nat} {rj : Nat → Nat} {rt : JT} {tr fa : Int32} (h : CIV M n nd J B zs ln C rc rj rt tr fa) (he : ∀ a, a < 36 → ¬ (16 ≤ a ∧ a ≤ 21) → ∀ i, M' a i = M a i) : CIV M' n nd J B zs ln C rc rj rt tr fa := by
  obtain ⟨h1, h2, h3, h4, h5, h6⟩ := h
  have n6 := h1.1
  have n4 := h2.1
  refine ⟨h1.eq (fun a ha i => he a (by omega) (by omega) i), h2.eq (fun a ha i => he a (by omega) (by omega) i), fun k hk => ?_, ⟨h4.1, ?_, fun x hx => ?_⟩, ?_, ?_⟩
  · obtain ⟨a1, a2, a3⟩ := h3 k hk
    refine ⟨a1, fun e => ?_, fun e => ⟨?_, ?_, ?_, fun i hi => ?_⟩⟩
    · rw [he _ (by omega) (by omega)]; exact a2 e
    · rw [he _ (by omega) (by omega)]; exact (a3 e).1
    · rw [he _ (by omega) (by omega)]; exact (a3 e).2.1
    · rw [he _ (by omega) (by omega)]; exact (a3 e).2.2.1
    · rw [he _ (by omega) (by omega)]; exact (a3 e).2.2.2 i hi
  · rw [he _ (by omega) (by omega)]; exact h4.2.1
  · rw [he _ (by omega) (by omega), he _ (by omega) (by omega), he _ (by omega) (by omega)]; exact h4.2.2 x hx
  · rw [he _ (by omega) (by omega)]; exact h5
  · rw [he _ (by omega) (by omega)]; exact h6
theorem MIV.eq2 {M M' : MM} {n nd : Nat} {J B : JT} {zs : Nat → Nat} {ln : Nat → Int32} {C : JT} {rc : Nat} {rj : Nat → Nat} {rt : JT} {tr fa : Int32} (h : MIV M n nd J B zs ln C rc rj rt tr fa) (he : ∀ a i, 36 ≤ a → ¬ (a = 36 ∧ (i = 12 ∨ i = 13 ∨ i = 14 ∨ i = 26)) → ¬ (46 ≤ a ∧ a ≤ 56) → a ≠ 63 → M' a i = M a i) : MIV M' n nd J B zs ln C rc rj rt tr fa := by
  obtain ⟨h1, h2, h3, h4, h5, h6⟩ := h
  refine ⟨h1.eq (he _ _ (by omega) (by omega) (by omega) (by omega)) (fun a ha ha2 i => he a i (by omega) (by omega) (by omega) (by omega)), h2.eq (he _ _ (by omega) (by omega) (by omega) (by omega)) (fun a ha ha2 i => he a i (by omega) (by omega) (by omega) (by omega)), fun k hk => ?_, ⟨h4.1, ?_, fun x hx => ?_, h4.2.2.2⟩, ?_, ?_⟩
  · obtain ⟨a1, a2, a3⟩ := h3 k hk
    refine ⟨a1, ?_, fun e => ⟨?_, fun i hi => ?_⟩⟩
    · rw [he _ _ (by omega) (by omega) (by omega) (by omega)]; exact a2
    · rw [he _ _ (by omega) (by omega) (by omega) (by omega)]; exact (a3 e).1
    · rw [he _ _ (by omega) (by omega) (by omega) (by omega)]; exact (a3 e).2 i hi
  · rw [he _ _ (by omega) (by omega) (by omega) (by omega)]; exact h4.2.1
  · rw [he _ _ (by omega) (by omega) (by omega) (by omega), he _ _ (by omega) (by omega) (by omega) (by omega), he _ _ (by omega) (by omega) (by omega) (by omega)]; exact h4.2.2.1 x hx
  · rw [he _ _ (by omega) (by omega) (by omega) (by omega)]; exact h5
  · rw [he _ _ (by omega) (by omega) (by omega) (by omega)]; exact h6
theorem CIV.setJ {M : MM} {n nd : Nat} {J B : JT} {zs : Nat → Nat} {ln : Nat → Int32} {C : JT} {rc : Nat} {rj : Nat → Nat} {rt : JT} {tr fa : Int32} {j k : Nat} {x : Int32} (h : CIV M n nd J B zs ln C rc rj rt tr fa) (hj : j < n) (hk : k < 5) : CIV (upM M (6 + j) k x) n nd (upM J j k x) B zs ln C rc rj rt tr fa := by
  obtain ⟨h1, h2, h3, h4, h5, h6⟩ := h
  have n6 := h1.1
  refine ⟨⟨n6, by rw [upM_ne (by omega)]; exact h1.2.1, fun t ht i hi => ?_⟩, ⟨h2.1, by rw [upM_ne (by omega)]; exact h2.2.1, fun t ht i hi => by rw [upM_ne (by omega)]; exact h2.2.2 t ht i hi⟩, fun k hk => ?_, ⟨h4.1, ?_, fun x hx => ?_⟩, ?_, ?_⟩
  · by_cases e : t = j ∧ i = k
    · rw [e.1, e.2, upM_same, upM_same]
    · rw [upM_ne (by omega), upM_ne e]; exact h1.2.2 t ht i hi
  · obtain ⟨a1, a2, a3⟩ := h3 k hk
    refine ⟨a1, fun e => ?_, fun e => ⟨?_, ?_, ?_, fun i hi => ?_⟩⟩
    · rw [upM_ne (by omega)]; exact a2 e
    · rw [upM_ne (by omega)]; exact (a3 e).1
    · rw [upM_ne (by omega)]; exact (a3 e).2.1
    · rw [upM_ne (by omega)]; exact (a3 e).2.2.1
    · rw [upM_ne (by omega)]; exact (a3 e).2.2.2 i hi
  · rw [upM_ne (by omega)]; exact h4.2.1
  · rw [upM_ne (by omega), upM_ne (by omega), upM_ne (by omega)]; exact h4.2.2 x hx
  · rw [upM_ne (by omega)]; exact h5
  · rw [upM_ne (by omega)]; exact h6
theorem CIV.setB {M : MM} {n nd : Nat} {J B : JT} {zs : Nat → Nat} {ln : Nat → Int32} {C : JT} {rc : Nat} {rj : Nat → Nat} {rt : JT} {tr fa : Int32} {j k : Nat} {x : Int32} (h : CIV M n nd J B zs ln C rc rj rt tr fa) (hj : j < nd) (hk : k < 4) : CIV (upM M (12 + j) k x) n nd J (upM B j k x) zs ln C rc rj rt tr fa := by
  obtain ⟨h1, h2, h3, h4, h5, h6⟩ := h
  have n6 := h1.1
  have n4 := h2.1
  refine ⟨⟨n6, by rw [upM_ne (by omega)]; exact h1.2.1, fun t ht i hi => by rw [upM_ne (by omega)]; exact h1.2.2 t ht i hi⟩, ⟨h2.1, by rw [upM_ne (by omega)]; exact h2.2.1, fun t ht i hi => ?_⟩, fun k hk => ?_, ⟨h4.1, ?_, fun x hx => ?_⟩, ?_, ?_⟩
  · by_cases e : t = j ∧ i = k
    · rw [e.1, e.2, upM_same, upM_same]
    · rw [upM_ne (by omega), upM_ne e]; exact h2.2.2 t ht i hi
  · obtain ⟨a1, a2, a3⟩ := h3 k hk
    refine ⟨a1, fun e => ?_, fun e => ⟨?_, ?_, ?_, fun i hi => ?_⟩⟩
    · rw [upM_ne (by omega)]; exact a2 e
    · rw [upM_ne (by omega)]; exact (a3 e).1
    · rw [upM_ne (by omega)]; exact (a3 e).2.1
    · rw [upM_ne (by omega)]; exact (a3 e).2.2.1
    · rw [upM_ne (by omega)]; exact (a3 e).2.2.2 i hi
  · rw [upM_ne (by omega)]; exact h4.2.1
  · rw [upM_ne (by omega), upM_ne (by omega), upM_ne (by omega)]; exact h4.2.2 x hx
  · rw [upM_ne (by omega)]; exact h5
  · rw [upM_ne (by omega)]; exact h6
theorem MZ.up2 {M : MM} {zs : Nat → Nat} {ln : Nat → Int32} {C : JT} {r i : Nat} {x : Int32} (h : MZ M zs ln C) (hr : r < 60) : MZ (upM M r i x) zs ln C := h.up hr
theorem MR.up2 {M : MM} {n rc : Nat} {rj : Nat → Nat} {rt : JT} {r i : Nat} {x : Int32} (h : MR M n rc rj rt) (hr : r < 57 ∧ ¬ (r = 36 ∧ i = 27)) : MR (upM M r i x) n rc rj rt :=
  ⟨h.1, by rw [upM_ne (by omega)]; exact h.2.1, fun y hy => by rw [upM_ne (by omega), upM_ne (by omega), upM_ne (by omega)]; exact h.2.2.1 y hy, h.2.2.2⟩
theorem MIV.setJ {M : MM} {n nd : Nat} {J B : JT} {zs : Nat → Nat} {ln : Nat → Int32} {C : JT} {rc : Nat} {rj : Nat → Nat} {rt : JT} {tr fa : Int32} {j k : Nat} {x : Int32} (h : MIV M n nd J B zs ln C rc rj rt tr fa) (hk : k < 5) (hv : k ≠ 0) : MIV (upM M (37 + k) j x) n nd (upM J j k x) B zs ln C rc rj rt tr fa := by
  obtain ⟨h1, h2, h3, h4, h5, h6⟩ := h
  exact ⟨h1.set hk (fun w => absurd w hv), h2.eq (upM_ne (by omega)) (fun a ha ha2 i => upM_ne (by omega)), h3.up (by omega), h4.up2 (by omega), by rw [upM_ne (by omega)]; exact h5, by rw [upM_ne (by omega)]; exact h6⟩
theorem MIV.setB {M : MM} {n nd : Nat} {J B : JT} {zs : Nat → Nat} {ln : Nat → Int32} {C : JT} {rc : Nat} {rj : Nat → Nat} {rt : JT} {tr fa : Int32} {j k : Nat} {x : Int32} (h : MIV M n nd J B zs ln C rc rj rt tr fa) (hk : k < 4) (hv : k ≠ 1) : MIV (upM M (42 + k) j x) n nd J (upM B j k x) zs ln C rc rj rt tr fa := by
  obtain ⟨h1, h2, h3, h4, h5, h6⟩ := h
  exact ⟨h1.eq (upM_ne (by omega)) (fun a ha ha2 i => upM_ne (by omega)), h2.set hk hv, h3.up (by omega), h4.up2 (by omega), by rw [upM_ne (by omega)]; exact h5, by rw [upM_ne (by omega)]; exact h6⟩
theorem OS.set {n j k : Nat} {J : JT} {zs : Nat → Nat} {ln : Nat → Int32} {x : Int32} (h : OS n J zs ln) (hk : k ≠ 0) (h3 : k = 3 → ∃ c, c ≤ 9 ∧ x = i3 c) (h4 : k = 4 → ∃ c, c ≤ 9 ∧ x = i3 c) : OS n (upM J j k x) zs ln := by
  obtain ⟨⟨hv, a1⟩, a2, a3, a4⟩ := h
  refine ⟨?_, fun t ht => ?_, fun t ht => ?_, a4⟩
  · by_cases e : k = 3
    · obtain ⟨c, hc, hx⟩ := h3 e
      refine ⟨fun i => if i = j then c else hv i, fun t ht => ?_⟩
      show upM J j k x t 3 = i3 (if t = j then c else hv t) ∧ (if t = j then c else hv t) ≤ 9
      by_cases f : t = j
      · rw [if_pos f, f, e, upM_same]; exact ⟨hx, hc⟩
      · rw [if_neg f, upM_ne (by omega)]; exact a1 t ht
    · exact ⟨hv, fun t ht => by rw [upM_ne (by omega)]; exact a1 t ht⟩
  · by_cases e : t = j ∧ 4 = k
    · obtain ⟨c, hc, hx⟩ := h4 e.2.symm
      exact ⟨c, hc, by rw [e.1, ← e.2, upM_same]; exact hx⟩
    · rw [upM_ne e]; exact a2 t ht
  · rw [upM_ne (fun w => hk w.2.symm)]; exact a3 t ht
theorem rg_9 {x : Int32} (h : rg x 0 9 = true) : ∃ c, c ≤ 9 ∧ x = i3 c := by
  obtain ⟨c, hc, e⟩ := rg_nat' (n := 10) (by decide) h
  exact ⟨c, by omega, e⟩
theorem CIV.lv {M : MM} {n nd : Nat} {J B : JT} {zs : Nat → Nat} {ln : Nat → Int32} {C : JT} {rc : Nat} {rj : Nat → Nat} {rt : JT} {tr fa : Int32} {v : Int32} (h : CIV M n nd J B zs ln C rc rj rt tr fa) : CIV (lvM M v) n nd J B zs ln C rc rj rt (31 * tr + v) fa := by
  have h0 := h.2.2.2.2.1
  obtain ⟨h1, h2, h3, h4, h5, h6⟩ := h
  unfold lvM
  refine ⟨⟨h1.1, by rw [upM_ne (by omega)]; exact h1.2.1, fun t ht i hi => by rw [upM_ne (by have := h1.1; omega)]; exact h1.2.2 t ht i hi⟩, ⟨h2.1, by rw [upM_ne (by omega)]; exact h2.2.1, fun t ht i hi => by rw [upM_ne (by have := h2.1; omega)]; exact h2.2.2 t ht i hi⟩, fun k hk => ?_, ⟨h4.1, ?_, fun x hx => ?_⟩, ?_, ?_⟩
  · obtain ⟨a1, a2, a3⟩ := h3 k hk
    refine ⟨a1, fun e => ?_, fun e => ⟨?_, ?_, ?_, fun i hi => ?_⟩⟩
    · rw [upM_ne (by omega)]; exact a2 e
    · rw [upM_ne (by omega)]; exact (a3 e).1
    · rw [upM_ne (by omega)]; exact (a3 e).2.1
    · rw [upM_ne (by omega)]; exact (a3 e).2.2.1
    · rw [upM_ne (by omega)]; exact (a3 e).2.2.2 i hi
  · rw [upM_ne (by omega)]; exact h4.2.1
  · rw [upM_ne (by omega), upM_ne (by omega), upM_ne (by omega)]; exact h4.2.2 x hx
  · rw [upM_same, h0]
  · rw [upM_ne (by omega)]; exact h6
theorem MIV.tr {M : MM} {n nd : Nat} {J B : JT} {zs : Nat → Nat} {ln : Nat → Int32} {C : JT} {rc : Nat} {rj : Nat → Nat} {rt : JT} {tr fa : Int32} {v : Int32} (h : MIV M n nd J B zs ln C rc rj rt tr fa) : MIV (trM M v) n nd J B zs ln C rc rj rt (31 * tr + v) fa := by
  obtain ⟨h1, h2, h3, h4, h5, h6⟩ := h
  unfold trM
  exact ⟨h1.eq (upM_ne (by omega)) (fun a ha ha2 i => upM_ne (by omega)), h2.eq (upM_ne (by omega)) (fun a ha ha2 i => upM_ne (by omega)), h3.up (by omega), h4.up2 (by omega), by rw [upM_same, h5], by rw [upM_ne (by omega)]; exact h6⟩
theorem MIV.lv {M : MM} {n nd : Nat} {J B : JT} {zs : Nat → Nat} {ln : Nat → Int32} {C : JT} {rc : Nat} {rj : Nat → Nat} {rt : JT} {tr fa : Int32} {v : Int32} (h : MIV M n nd J B zs ln C rc rj rt tr fa) : MIV (lvM M v) n nd J B zs ln C rc rj rt tr fa := h.cU (by decide)
theorem CIV.tr {M : MM} {n nd : Nat} {J B : JT} {zs : Nat → Nat} {ln : Nat → Int32} {C : JT} {rc : Nat} {rj : Nat → Nat} {rt : JT} {tr fa : Int32} {v : Int32} (h : CIV M n nd J B zs ln C rc rj rt tr fa) : CIV (trM M v) n nd J B zs ln C rc rj rt tr fa := h.mU (by decide)
theorem OP_cure {M : MM} (h : INV M) (x u : Int32) : RESI y_LJ_cure c_LJ_cure 3 5 [vR 2, vI x, vI u] y_Mo_cure c_Mo_cure 4 3 [vR 36, vI x, vI u] M := by
  obtain ⟨n, nd, J, B, zs, ln, C, rc, rj, rt, tr, fa, hC, hM, hO⟩ := h
  obtain ⟨cJ, cB, cZ, cR, cT, cF⟩ := id hC
  obtain ⟨mJ, mB, mZ, mR, mT, mF⟩ := id hM
  have hI : INV M := ⟨n, nd, J, B, zs, ln, C, rc, rj, rt, tr, fa, hC, hM, hO⟩
  have hF : ∀ f, INV (upM (upM M 2 6 f) 36 0 f) := fun f => ⟨n, nd, J, B, zs, ln, C, rc, rj, rt, tr, f, hC.flt.mU (by decide), (hM.cU (by decide)).flt, hO⟩
  by_cases hx : rg x 0 ((n : Int) - 1) = false
  · exact ⟨_, _, _, C_LJ_cure_out cJ hx, C_Mo_cure_out mJ hx, hI⟩
  · obtain ⟨j, hj, rfl⟩ := rg_nat (n := n) (x := x) (by simpa using hx)
    have n6 := cJ.1
    by_cases hu : rg u 0 9 = false
    · exact ⟨_, _, _, C_LJ_cure_bad cJ hj hu, C_Mo_cure_bad mJ hj hu, hI⟩
    · have hu' : rg u 0 9 = true := by simpa using hu
      have hM1 := hM.cU (r := 6 + j) (k := 1) (x := u) (by omega)
      exact ⟨_, _, _, C_LJ_cure_ok cJ hj hu', C_Mo_cure_ok hM1.1 hj hu', ⟨n, nd, upM J j 1 u, B, zs, ln, C, rc, rj, rt, _, fa, (hC.setJ hj (by decide)).mU (by decide), hM1.setJ (k := 1) (by decide) (by decide), hO.set (by decide) (fun _ => rg_9 hu') (fun _ => rg_9 hu')⟩⟩
theorem OP_fetch {M : MM} (h : INV M) (x u : Int32) : RESI y_LJ_fetch c_LJ_fetch 3 5 [vR 2, vI x, vI u] y_Mo_fetch c_Mo_fetch 4 3 [vR 36, vI x, vI u] M := by
  obtain ⟨n, nd, J, B, zs, ln, C, rc, rj, rt, tr, fa, hC, hM, hO⟩ := h
  obtain ⟨cJ, cB, cZ, cR, cT, cF⟩ := id hC
  obtain ⟨mJ, mB, mZ, mR, mT, mF⟩ := id hM
  have hI : INV M := ⟨n, nd, J, B, zs, ln, C, rc, rj, rt, tr, fa, hC, hM, hO⟩
  have hF : ∀ f, INV (upM (upM M 2 6 f) 36 0 f) := fun f => ⟨n, nd, J, B, zs, ln, C, rc, rj, rt, tr, f, hC.flt.mU (by decide), (hM.cU (by decide)).flt, hO⟩
  by_cases hx : rg x 0 ((n : Int) - 1) = false
  · exact ⟨_, _, _, C_LJ_fetch_out cJ hx, C_Mo_fetch_out mJ hx, hI⟩
  · obtain ⟨j, hj, rfl⟩ := rg_nat (n := n) (x := x) (by simpa using hx)
    have n6 := cJ.1
    by_cases hu : rg u 0 9 = false
    · exact ⟨_, _, _, C_LJ_fetch_bad cJ hj hu, C_Mo_fetch_bad mJ hj hu, hI⟩
    · have hu' : rg u 0 9 = true := by simpa using hu
      have hM1 := hM.cU (r := 6 + j) (k := 3) (x := u) (by omega)
      exact ⟨_, _, _, C_LJ_fetch_ok cJ hj hu', C_Mo_fetch_ok hM1.1 hj hu', ⟨n, nd, upM J j 3 u, B, zs, ln, C, rc, rj, rt, _, fa, (hC.setJ hj (by decide)).mU (by decide), hM1.setJ (k := 3) (by decide) (by decide), hO.set (by decide) (fun _ => rg_9 hu') (fun _ => rg_9 hu')⟩⟩
theorem OP_price {M : MM} (h : INV M) (x u : Int32) : RESI y_LJ_price c_LJ_price 3 5 [vR 2, vI x, vI u] y_Mo_price c_Mo_price 4 3 [vR 36, vI x, vI u] M := by
  obtain ⟨n, nd, J, B, zs, ln, C, rc, rj, rt, tr, fa, hC, hM, hO⟩ := h
  obtain ⟨cJ, cB, cZ, cR, cT, cF⟩ := id hC
  obtain ⟨mJ, mB, mZ, mR, mT, mF⟩ := id hM
  have hI : INV M := ⟨n, nd, J, B, zs, ln, C, rc, rj, rt, tr, fa, hC, hM, hO⟩
  have hF : ∀ f, INV (upM (upM M 2 6 f) 36 0 f) := fun f => ⟨n, nd, J, B, zs, ln, C, rc, rj, rt, tr, f, hC.flt.mU (by decide), (hM.cU (by decide)).flt, hO⟩
  by_cases hx : rg x 0 ((n : Int) - 1) = false
  · exact ⟨_, _, _, C_LJ_price_out cJ hx, C_Mo_price_out mJ hx, hI⟩
  · obtain ⟨j, hj, rfl⟩ := rg_nat (n := n) (x := x) (by simpa using hx)
    have n6 := cJ.1
    by_cases hu : rg u 0 9 = false
    · exact ⟨_, _, _, C_LJ_price_bad cJ hj hu, C_Mo_price_bad mJ hj hu, hI⟩
    · have hu' : rg u 0 9 = true := by simpa using hu
      have hM1 := hM.cU (r := 6 + j) (k := 4) (x := u) (by omega)
      exact ⟨_, _, _, C_LJ_price_ok cJ hj hu', C_Mo_price_ok hM1.1 hj hu', ⟨n, nd, upM J j 4 u, B, zs, ln, C, rc, rj, rt, _, fa, (hC.setJ hj (by decide)).mU (by decide), hM1.setJ (k := 4) (by decide) (by decide), hO.set (by decide) (fun _ => rg_9 hu') (fun _ => rg_9 hu')⟩⟩
theorem OP_dread {M : MM} (h : INV M) (x u : Int32) : RESI y_LJ_dread c_LJ_dread 3 4 [vR 2, vI x, vI u] y_Mo_dread c_Mo_dread 4 3 [vR 36, vI x, vI u] M := by
  obtain ⟨n, nd, J, B, zs, ln, C, rc, rj, rt, tr, fa, hC, hM, hO⟩ := h
  obtain ⟨cJ, cB, cZ, cR, cT, cF⟩ := id hC
  obtain ⟨mJ, mB, mZ, mR, mT, mF⟩ := id hM
  have hI : INV M := ⟨n, nd, J, B, zs, ln, C, rc, rj, rt, tr, fa, hC, hM, hO⟩
  have hF : ∀ f, INV (upM (upM M 2 6 f) 36 0 f) := fun f => ⟨n, nd, J, B, zs, ln, C, rc, rj, rt, tr, f, hC.flt.mU (by decide), (hM.cU (by decide)).flt, hO⟩
  by_cases hx : rg x 0 ((nd : Int) - 1) = false
  · exact ⟨_, _, _, C_LJ_dread_out cB hx, C_Mo_dread_out mB hx, hI⟩
  · obtain ⟨j, hj, rfl⟩ := rg_nat (n := nd) (x := x) (by simpa using hx)
    have n4 := cB.1
    by_cases hu : rg u 0 9 = false
    · exact ⟨_, _, _, C_LJ_dread_bad cB hj hu, C_Mo_dread_bad mB hj hu, hI⟩
    · have hu' : rg u 0 9 = true := by simpa using hu
      have hM1 := hM.cU (r := 12 + j) (k := 0) (x := u) (by omega)
      exact ⟨_, _, _, C_LJ_dread_ok cB hj hu', C_Mo_dread_ok hM1.2.1 hj hu', ⟨n, nd, J, upM B j 0 u, zs, ln, C, rc, rj, rt, _, fa, (hC.setB hj (by decide)).mU (by decide), hM1.setB (k := 0) (by decide) (by decide), hO⟩⟩
theorem OP_pay {M : MM} (h : INV M) (x u : Int32) : RESI y_LJ_pay c_LJ_pay 3 4 [vR 2, vI x, vI u] y_Mo_pay c_Mo_pay 4 3 [vR 36, vI x, vI u] M := by
  obtain ⟨n, nd, J, B, zs, ln, C, rc, rj, rt, tr, fa, hC, hM, hO⟩ := h
  obtain ⟨cJ, cB, cZ, cR, cT, cF⟩ := id hC
  obtain ⟨mJ, mB, mZ, mR, mT, mF⟩ := id hM
  have hI : INV M := ⟨n, nd, J, B, zs, ln, C, rc, rj, rt, tr, fa, hC, hM, hO⟩
  have hF : ∀ f, INV (upM (upM M 2 6 f) 36 0 f) := fun f => ⟨n, nd, J, B, zs, ln, C, rc, rj, rt, tr, f, hC.flt.mU (by decide), (hM.cU (by decide)).flt, hO⟩
  by_cases hx : rg x 0 ((nd : Int) - 1) = false
  · exact ⟨_, _, _, C_LJ_pay_out cB hx, C_Mo_pay_out mB hx, hI⟩
  · obtain ⟨j, hj, rfl⟩ := rg_nat (n := nd) (x := x) (by simpa using hx)
    have n4 := cB.1
    by_cases hu : rg u 0 99 = false
    · exact ⟨_, _, _, C_LJ_pay_bad cB hj hu, C_Mo_pay_bad mB hj hu, hI⟩
    · have hu' : rg u 0 99 = true := by simpa using hu
      have hM1 := hM.cU (r := 12 + j) (k := 2) (x := u) (by omega)
      exact ⟨_, _, _, C_LJ_pay_ok cB hj hu', C_Mo_pay_ok hM1.2.1 hj hu', ⟨n, nd, J, upM B j 2 u, zs, ln, C, rc, rj, rt, _, fa, (hC.setB hj (by decide)).mU (by decide), hM1.setB (k := 2) (by decide) (by decide), hO⟩⟩
theorem OP_sell {M : MM} (h : INV M) (x u : Int32) : RESI y_LJ_sell c_LJ_sell 5 3 [vR 2, vI x, vI u] y_Mo_sell c_Mo_sell 4 6 [vR 36, vI x, vI u] M := by
  obtain ⟨n, nd, J, B, zs, ln, C, rc, rj, rt, tr, fa, hC, hM, hO⟩ := h
  obtain ⟨cJ, cB, cZ, cR, cT, cF⟩ := id hC
  obtain ⟨mJ, mB, mZ, mR, mT, mF⟩ := id hM
  have hI : INV M := ⟨n, nd, J, B, zs, ln, C, rc, rj, rt, tr, fa, hC, hM, hO⟩
  have hF : ∀ f, INV (upM (upM M 2 6 f) 36 0 f) := fun f => ⟨n, nd, J, B, zs, ln, C, rc, rj, rt, tr, f, hC.flt.mU (by decide), (hM.cU (by decide)).flt, hO⟩
  by_cases hx : rg x 0 ((nd : Int) - 1) = false
  · exact ⟨_, _, _, C_LJ_sell_o1 cJ cB hx, C_Mo_sell_o1 mJ mB hx, hI⟩
  · obtain ⟨b, hb, rfl⟩ := rg_nat (n := nd) (x := x) (by simpa using hx)
    by_cases hy : rg u 0 ((n : Int) - 1) = false
    · exact ⟨_, _, _, C_LJ_sell_o2 cJ cB hb hy, C_Mo_sell_o2 mJ mB hb hy, hI⟩
    · obtain ⟨j, hj, rfl⟩ := rg_nat (n := n) (x := u) (by simpa using hy)
      have n6 := cJ.1
      have n4 := cB.1
      by_cases hc : 0 < J j 3 ∧ J j 4 ≤ B b 2
      · have hO1 : OS n (upM J j 3 (J j 3 - 1)) zs ln := hO.set (by decide) (fun _ => by
          obtain ⟨hv, a1⟩ := hO.1
          have e := a1 j hj
          have hp : 0 < hv j := by
            have w := hc.1
            rw [e.1] at w
            exact (i3_lt (a := 0) (by decide) (by omega)).mp w
          exact ⟨hv j - 1, by omega, by rw [e.1, i3_sub1 hp]⟩) (fun w => by omega)
        have hM1 := (hM.cU (r := 6 + j) (k := 3) (x := J j 3 - 1) (by omega)).cU (r := 12 + b) (k := 2) (x := B b 2 - J j 4) (by omega)
        have hC1 := (hC.setJ (k := 3) (x := J j 3 - 1) hj (by decide)).setB (k := 2) (x := B b 2 - J j 4) hb (by decide)
        by_cases hd : dkB J B j b = true
        · have hM2 := hM1.cU (r := 12 + b) (k := 3) (x := B b 3 + 1) (by omega)
          exact ⟨_, _, _, C_LJ_sell_y cJ cB hb hj hc hd, C_Mo_sell_y hM2.1 hM2.2.1 hb hj hc hd, ⟨n, nd, upM J j 3 (J j 3 - 1), upM (upM B b 2 (B b 2 - J j 4)) b 3 (B b 3 + 1), zs, ln, C, rc, rj, rt, _, fa, (((hC1.setB (k := 3) hb (by decide)).mU (by decide)).mU (by decide)).mU (by decide), ((hM2.setJ (k := 3) (by decide) (by decide)).setB (k := 2) (by decide) (by decide)).setB (k := 3) (by decide) (by decide), hO1⟩⟩
        · have hd' : dkB J B j b = false := by simpa using hd
          exact ⟨_, _, _, C_LJ_sell_n cJ cB hb hj hc hd', C_Mo_sell_n hM1.1 hM1.2.1 hb hj hc hd', ⟨n, nd, upM J j 3 (J j 3 - 1), upM B b 2 (B b 2 - J j 4), zs, ln, C, rc, rj, rt, _, fa, (hC1.mU (by decide)).mU (by decide), (hM1.setJ (k := 3) (by decide) (by decide)).setB (k := 2) (by decide) (by decide), hO1⟩⟩
      · exact ⟨_, _, _, C_LJ_sell_st cJ cB hb hj hc, C_Mo_sell_st mJ mB hb hj hc, hI⟩
theorem OP_tell {M : MM} (h : INV M) (x : Int32) : RESI y_LJ_tell c_LJ_tell 3 5 [vR 2, vI x] y_Mo_tell c_Mo_tell 4 3 [vR 36, vI x] M := by
  obtain ⟨n, nd, J, B, zs, ln, C, rc, rj, rt, tr, fa, hC, hM, hO⟩ := h
  obtain ⟨cJ, cB, cZ, cR, cT, cF⟩ := id hC
  obtain ⟨mJ, mB, mZ, mR, mT, mF⟩ := id hM
  have hI : INV M := ⟨n, nd, J, B, zs, ln, C, rc, rj, rt, tr, fa, hC, hM, hO⟩
  have hF : ∀ f, INV (upM (upM M 2 6 f) 36 0 f) := fun f => ⟨n, nd, J, B, zs, ln, C, rc, rj, rt, tr, f, hC.flt.mU (by decide), (hM.cU (by decide)).flt, hO⟩
  by_cases hx : rg x 0 ((n : Int) - 1) = false
  · exact ⟨_, _, _, C_LJ_tell_out cJ hx, C_Mo_tell_out mJ hx, hI⟩
  · obtain ⟨j, hj, rfl⟩ := rg_nat (n := n) (x := x) (by simpa using hx)
    rcases hO.2.2.1 j hj with hk | hk | hk
    · exact ⟨_, _, _, C_LJ_tell_0 cJ hj hk, C_Mo_tell_0 hM.lv.1 hj hk, ⟨n, nd, J, B, zs, ln, C, rc, rj, rt, _, fa, hC.lv.tr, hM.lv.tr, hO⟩⟩
    · exact ⟨_, _, _, C_LJ_tell_1 cJ hj hk, C_Mo_tell_1 hM.lv.lv.1 hj hk, ⟨n, nd, J, B, zs, ln, C, rc, rj, rt, _, fa, hC.lv.lv.tr.tr, hM.lv.lv.tr.tr, hO⟩⟩
    · exact ⟨_, _, _, C_LJ_tell_2 cJ hj hk, C_Mo_tell_2 hM.lv.lv.lv.lv.1 hj hk, ⟨n, nd, J, B, zs, ln, C, rc, rj, rt, _, fa, hC.lv.lv.lv.lv.tr.tr.tr.tr, hM.lv.lv.lv.lv.tr.tr.tr.tr, hO⟩⟩
theorem OP_sniff {M : MM} (h : INV M) (x : Int32) : RESI y_LJ_sniff c_LJ_sniff 3 3 [vR 2, vI x] y_Mo_sniff c_Mo_sniff 2 3 [vR 36, vI x] M := by
  obtain ⟨n, nd, J, B, zs, ln, C, rc, rj, rt, tr, fa, hC, hM, hO⟩ := h
  obtain ⟨cJ, cB, cZ, cR, cT, cF⟩ := id hC
  obtain ⟨mJ, mB, mZ, mR, mT, mF⟩ := id hM
  have hI : INV M := ⟨n, nd, J, B, zs, ln, C, rc, rj, rt, tr, fa, hC, hM, hO⟩
  have hF : ∀ f, INV (upM (upM M 2 6 f) 36 0 f) := fun f => ⟨n, nd, J, B, zs, ln, C, rc, rj, rt, tr, f, hC.flt.mU (by decide), (hM.cU (by decide)).flt, hO⟩
  by_cases hx : rg x 0 ((n : Int) - 1) = false
  · exact ⟨_, _, _, C_LJ_sniff_out cJ hx, C_Mo_sniff_out mJ hx, hI⟩
  · obtain ⟨j, hj, rfl⟩ := rg_nat (n := n) (x := x) (by simpa using hx)
    by_cases hk : J j 0 = 2
    · exact ⟨_, _, _, C_LJ_sniff_p cJ hj hk, C_Mo_sniff_p hM.lv.1 hj hk, ⟨n, nd, J, B, zs, ln, C, rc, rj, rt, _, fa, hC.lv.tr, hM.lv.tr, hO⟩⟩
    · exact ⟨_, _, _, C_LJ_sniff_l cJ hj hk, C_Mo_sniff_l hM.lv.1 hj hk, ⟨n, nd, J, B, zs, ln, C, rc, rj, rt, _, fa, hC.lv.tr, hM.lv.tr, hO⟩⟩
theorem OP_serve {M : MM} (h : INV M) (x : Int32) : RESI y_LJ_serve c_LJ_serve 2 15 [vR 2, vI x] y_Mo_serve c_Mo_serve 5 7 [vR 36, vI x] M := by
  obtain ⟨n, nd, J, B, zs, ln, C, rc, rj, rt, tr, fa, hC, hM, hO⟩ := h
  obtain ⟨cJ, cB, cZ, cR, cT, cF⟩ := id hC
  obtain ⟨mJ, mB, mZ, mR, mT, mF⟩ := id hM
  have hI : INV M := ⟨n, nd, J, B, zs, ln, C, rc, rj, rt, tr, fa, hC, hM, hO⟩
  have hF : ∀ f, INV (upM (upM M 2 6 f) 36 0 f) := fun f => ⟨n, nd, J, B, zs, ln, C, rc, rj, rt, tr, f, hC.flt.mU (by decide), (hM.cU (by decide)).flt, hO⟩
  by_cases hx : rg x (-1) 3 = false
  · exact ⟨_, _, _, C_LJ_serve_bad hx, C_Mo_serve_bad hx, hI⟩
  · have hx' : rg x (-1) 3 = true := by simpa using hx
    by_cases h0 : n = 0
    · exact ⟨_, _, _, C_LJ_serve_no cJ hx' h0, C_Mo_serve_no mJ hx' h0, hI⟩
    · obtain ⟨hv, hH⟩ := hO.1
      have hw : ∀ M1 : MM, MIV M1 n nd J B zs ln C rc rj rt tr fa → CIV M1 n nd J B zs ln C rc rj rt tr fa → INV (msM J B n nd hv M1 ((n + 1) ^ nd)) := fun M1 h1 h2 =>
        ⟨n, nd, J, B, zs, ln, C, rc, rj, rt, tr, fa, h2.eq (fun a ha i => msM_ne (by omega) (by omega)), h1.eq2 (fun a i ha hb hc hd => msM_ne (by omega) (by omega)), hO⟩
      rw [rg_true] at hx'
      by_cases hn : x = -1
      · subst hn
        have hM1 : MIV (bgM M 6) n nd J B zs ln C rc rj rt tr fa := hM.eq (fun a ha i => bgM_ne (by omega))
        have hC1 : CIV (bgM M 6) n nd J B zs ln C rc rj rt tr fa := hC.eq2 (fun a ha hb i => bgM_ne (by omega))
        exact ⟨_, _, _, C_LJ_serve_all cJ cB hH h0, C_Mo_serve_all hM1.1 hM1.2.1 hH h0, hw _ hM1 hC1⟩
      · obtain ⟨k, hk4, rfl⟩ : ∃ k, k < 4 ∧ x = i3 k := by
          have hn' : ¬ x.toInt = -1 := fun w => hn (Int32.toInt_inj.mp w)
          refine ⟨x.toInt.toNat, by omega, ?_⟩
          apply Int32.toInt_inj.mp
          rw [i3_int (by omega)]; omega
        have hne : ∀ a i, ¬ (16 ≤ a ∧ a ≤ 21) → KM J B n nd hv M nd a i = M a i := fun a i ha => by
          unfold KM; rw [if_neg (by omega), if_neg (by omega)]
        have hM1 : MIV (KM J B n nd hv M nd) n nd J B zs ln C rc rj rt tr fa := hM.eq (fun a ha i => hne a i (by omega))
        have hC1 : CIV (KM J B n nd hv M nd) n nd J B zs ln C rc rj rt tr fa := hC.eq2 (fun a ha hb i => hne a i hb)
        by_cases hk : k < nd
        · exact ⟨_, _, _, C_LJ_serve_in cJ cB hH h0 hk hk4, C_Mo_serve_in hM1.1 hM1.2.1 hH h0 hk hk4, hw _ hM1 hC1⟩
        · exact ⟨_, _, _, C_LJ_serve_out cJ cB hH h0 (by omega) hk4, C_Mo_serve_out hM1.1 hM1.2.1 hH h0 (by omega) hk4, hw _ hM1 hC1⟩
theorem OP_dear {M : MM} (h : INV M) (x : Int32) : RESI y_LJ_dear c_LJ_dear 3 15 [vR 2, vI x] y_Mo_dear c_Mo_dear 6 7 [vR 36, vI x] M := by
  obtain ⟨n, nd, J, B, zs, ln, C, rc, rj, rt, tr, fa, hC, hM, hO⟩ := h
  obtain ⟨cJ, cB, cZ, cR, cT, cF⟩ := id hC
  obtain ⟨mJ, mB, mZ, mR, mT, mF⟩ := id hM
  have hI : INV M := ⟨n, nd, J, B, zs, ln, C, rc, rj, rt, tr, fa, hC, hM, hO⟩
  have hF : ∀ f, INV (upM (upM M 2 6 f) 36 0 f) := fun f => ⟨n, nd, J, B, zs, ln, C, rc, rj, rt, tr, f, hC.flt.mU (by decide), (hM.cU (by decide)).flt, hO⟩
  by_cases hx : rg x 0 ((n : Int) - 1) = false
  · exact ⟨_, _, _, C_LJ_dear_out cJ hx, C_Mo_dear_out mJ hx, hI⟩
  · obtain ⟨j, hj, rfl⟩ := rg_nat (n := n) (x := x) (by simpa using hx)
    obtain ⟨hv, hH⟩ := hO.1
    obtain ⟨p, hp9, hp⟩ := hO.2.1 j hj
    have hM1 : MIV (bgM M 6) n nd J B zs ln C rc rj rt tr fa := hM.eq (fun a ha i => bgM_ne (by omega))
    have hC1 : CIV (bgM M 6) n nd J B zs ln C rc rj rt tr fa := hC.eq2 (fun a ha hb i => bgM_ne (by omega))
    refine ⟨_, _, _, C_LJ_dear_in cJ cB hH hj hp hp9, C_Mo_dear_in hM1.1 hM1.2.1 hH hj hp hp9, ⟨n, nd, J, B, zs, ln, C, rc, rj, rt, tr, fa, hC1.eq (fun a ha i => by rw [upM_ne (by omega), drH_ne (by omega) (by omega) (by omega)]), hM1.eq2 (fun a i ha hb hc hd => by
      by_cases e : a = 41 ∧ i = j
      · rw [e.1, e.2, upM_same, ← hp]; exact (hM1.1.2.2.1 j hj 4 (by decide)).symm
      · rw [upM_ne e, drH_ne (by omega) (by omega) e]), hO⟩⟩
