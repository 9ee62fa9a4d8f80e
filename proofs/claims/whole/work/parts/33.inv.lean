/-! Class and model, call by call. -/
def CIV (M : MM) (n nd : Nat) (J B : JT) (zs : Nat → Nat) (ln : Nat → Int32) (C : JT) (rc : Nat) (rj : Nat → Nat) (rt : JT) (tr fa : Int32) : Prop :=
  CJ M n J ∧ CB M nd B ∧ CZ M zs ln C ∧ CR M n rc rj rt ∧ M 26 0 = tr ∧ M 2 6 = fa
def MIV (M : MM) (n nd : Nat) (J B : JT) (zs : Nat → Nat) (ln : Nat → Int32) (C : JT) (rc : Nat) (rj : Nat → Nat) (rt : JT) (tr fa : Int32) : Prop :=
  MJ M n J ∧ MB M nd B ∧ MZ M zs ln C ∧ MR M n rc rj rt ∧ M 36 35 = tr ∧ M 36 0 = fa
def OS (n : Nat) (J : JT) (zs : Nat → Nat) (ln : Nat → Int32) : Prop :=
  (∃ hv, HV n J hv) ∧ PR n J ∧ (∀ j, j < n → J j 0 = 0 ∨ J j 0 = 1 ∨ J j 0 = 2) ∧ (∀ k, k < 4 → zs k ≠ 0 → rg (ln k) 0 2 = true)
def INV (M : MM) : Prop := ∃ n nd J B zs ln C rc rj rt tr fa, CIV M n nd J B zs ln C rc rj rt tr fa ∧ MIV M n nd J B zs ln C rc rj rt tr fa ∧ OS n J zs ln
def RESI (yc : MethodName) (cc : ByteArray) (nc dc : Nat) (ac : List AV) (ym : MethodName) (cm : ByteArray) (nm dm : Nat) (am : List AV) (M : MM) : Prop :=
  ∃ v M1 M2, AF yc cc nc (some .int) dc ac M (some (vI v)) M1 ∧ AF ym cm nm (some .int) dm am M1 (some (vI v)) M2 ∧ INV M2
def RESL (yc : MethodName) (cc : ByteArray) (nc dc : Nat) (ac : List AV) (ym : MethodName) (cm : ByteArray) (nm dm : Nat) (am : List AV) (M : MM) : Prop :=
  ∃ v M1 M2, AF yc cc nc (some .long) dc ac M (some (vL v)) M1 ∧ AF ym cm nm (some .long) dm am M1 (some (vL v)) M2 ∧ INV M2
theorem CIV.eq {M M' : MM} {n nd : Nat} {J B : JT} {zs : Nat → Nat} {ln : Nat → Int32} {C : JT} {rc : Nat} {rj : Nat → Nat} {rt : JT} {tr fa : Int32} (h : CIV M n nd J B zs ln C rc rj rt tr fa) (he : ∀ a, a < 36 → ∀ i, M' a i = M a i) : CIV M' n nd J B zs ln C rc rj rt tr fa := by
  obtain ⟨h1, h2, h3, h4, h5, h6⟩ := h
  refine ⟨h1.eq (fun a ha i => he a (by omega) i), h2.eq (fun a ha i => he a (by omega) i), fun k hk => ?_, ⟨h4.1, ?_, fun x hx => ?_⟩, ?_, ?_⟩
  · obtain ⟨a1, a2, a3⟩ := h3 k hk
    refine ⟨a1, fun e => ?_, fun e => ⟨?_, ?_, ?_, fun i hi => ?_⟩⟩
    · rw [he _ (by omega)]; exact a2 e
    · rw [he _ (by omega)]; exact (a3 e).1
    · rw [he _ (by omega)]; exact (a3 e).2.1
    · rw [he _ (by omega)]; exact (a3 e).2.2.1
    · rw [he _ (by omega)]; exact (a3 e).2.2.2 i hi
  · rw [he _ (by omega)]; exact h4.2.1
  · rw [he _ (by omega), he _ (by omega), he _ (by omega)]; exact h4.2.2 x hx
  · rw [he _ (by omega)]; exact h5
  · rw [he _ (by omega)]; exact h6
theorem MIV.eq {M M' : MM} {n nd : Nat} {J B : JT} {zs : Nat → Nat} {ln : Nat → Int32} {C : JT} {rc : Nat} {rj : Nat → Nat} {rt : JT} {tr fa : Int32} (h : MIV M n nd J B zs ln C rc rj rt tr fa) (he : ∀ a, 36 ≤ a → ∀ i, M' a i = M a i) : MIV M' n nd J B zs ln C rc rj rt tr fa := by
  obtain ⟨h1, h2, h3, h4, h5, h6⟩ := h
  refine ⟨h1.eq (he _ (by omega) _) (fun a ha ha2 i => he a (by omega) i), h2.eq (he _ (by omega) _) (fun a ha ha2 i => he a (by omega) i), fun k hk => ?_, ⟨h4.1, ?_, fun x hx => ?_, h4.2.2.2⟩, ?_, ?_⟩
  · obtain ⟨a1, a2, a3⟩ := h3 k hk
    refine ⟨a1, ?_, fun e => ⟨?_, fun i hi => ?_⟩⟩
    · rw [he _ (by omega)]; exact a2
    · rw [he _ (by omega)]; exact (a3 e).1
    · rw [he _ (by omega)]; exact (a3 e).2 i hi
  · rw [he _ (by omega)]; exact h4.2.1
  · rw [he _ (by omega), he _ (by omega), he _ (by omega)]; exact h4.2.2.1 x hx
  · rw [he _ (by omega)]; exact h5
  · rw [he _ (by omega)]; exact h6
theorem CIV.flt {M : MM} {n nd : Nat} {J B : JT} {zs : Nat → Nat} {ln : Nat → Int32} {C : JT} {rc : Nat} {rj : Nat → Nat} {rt : JT} {tr fa f : Int32} (h : CIV M n nd J B zs ln C rc rj rt tr fa) : CIV (upM M 2 6 f) n nd J B zs ln C rc rj rt tr f := by
  obtain ⟨h1, h2, h3, h4, h5, h6⟩ := h
  refine ⟨⟨h1.1, by rw [upM_ne (by omega)]; exact h1.2.1, fun j hj k hk => by rw [upM_ne (by omega)]; exact h1.2.2 j hj k hk⟩, ⟨h2.1, by rw [upM_ne (by omega)]; exact h2.2.1, fun j hj k hk => by rw [upM_ne (by omega)]; exact h2.2.2 j hj k hk⟩, fun k hk => ?_, ⟨h4.1, ?_, fun x hx => ?_⟩, ?_, upM_same⟩
  · obtain ⟨a1, a2, a3⟩ := h3 k hk
    refine ⟨a1, fun e => ?_, fun e => ⟨?_, ?_, ?_, fun i hi => ?_⟩⟩
    · rw [upM_ne (by omega)]; exact a2 e
    · rw [upM_ne (by omega)]; exact (a3 e).1
    · rw [upM_ne (by omega)]; exact (a3 e).2.1
    · rw [upM_ne (by omega)]; exact (a3 e).2.2.1
    · rw [upM_ne (by omega)]; exact (a3 e).2.2.2 i hi
  · rw [upM_ne (by omega)]; exact h4.2.1
  · rw [upM_ne (by omega), upM_ne (by omega), upM_ne (by omega)]; exact h4.2.2 x hx
  · rw [upM_ne (by omega)]; exact h5
theorem MIV.flt {M : MM} {n nd : Nat} {J B : JT} {zs : Nat → Nat} {ln : Nat → Int32} {C : JT} {rc : Nat} {rj : Nat → Nat} {rt : JT} {tr fa f : Int32} (h : MIV M n nd J B zs ln C rc rj rt tr fa) : MIV (upM M 36 0 f) n nd J B zs ln C rc rj rt tr f := by
  obtain ⟨h1, h2, h3, h4, h5, h6⟩ := h
  refine ⟨h1.eq (upM_ne (by omega)) (fun a ha ha2 i => upM_ne (by omega)), h2.eq (upM_ne (by omega)) (fun a ha ha2 i => upM_ne (by omega)), fun k hk => ?_, ⟨h4.1, ?_, fun x hx => ?_, h4.2.2.2⟩, ?_, upM_same⟩
  · obtain ⟨a1, a2, a3⟩ := h3 k hk
    refine ⟨a1, ?_, fun e => ⟨?_, fun i hi => ?_⟩⟩
    · rw [upM_ne (by omega)]; exact a2
    · rw [upM_ne (by omega)]; exact (a3 e).1
    · rw [upM_ne (by omega)]; exact (a3 e).2 i hi
  · rw [upM_ne (by omega)]; exact h4.2.1
  · rw [upM_ne (by omega), upM_ne (by omega), upM_ne (by omega)]; exact h4.2.2.1 x hx
  · rw [upM_ne (by omega)]; exact h5
theorem MIV.cU {M : MM} {n nd : Nat} {J B : JT} {zs : Nat → Nat} {ln : Nat → Int32} {C : JT} {rc : Nat} {rj : Nat → Nat} {rt : JT} {tr fa x : Int32} {r k : Nat} (h : MIV M n nd J B zs ln C rc rj rt tr fa) (hr : r < 36) : MIV (upM M r k x) n nd J B zs ln C rc rj rt tr fa := h.eq (fun a ha i => upM_ne (by omega))
theorem CIV.mU {M : MM} {n nd : Nat} {J B : JT} {zs : Nat → Nat} {ln : Nat → Int32} {C : JT} {rc : Nat} {rj : Nat → Nat} {rt : JT} {tr fa x : Int32} {r k : Nat} (h : CIV M n nd J B zs ln C rc rj rt tr fa) (hr : 36 ≤ r) : CIV (upM M r k x) n nd J B zs ln C rc rj rt tr fa := h.eq (fun a ha i => upM_ne (by omega))
/-- a range with a number in it -/
theorem rg_nat {x : Int32} {n : Nat} (h : rg x 0 ((n : Int) - 1) = true) : ∃ j, j < n ∧ x = i3 j := by
  rw [rg_true] at h
  refine ⟨x.toInt.toNat, by omega, ?_⟩
  apply Int32.toInt_inj.mp
  have hb := x.toInt_lt
  rw [i3_int (by omega)]; omega
theorem rg_nat' {x : Int32} {n : Nat} {H : Int} (hH : H = (n : Int) - 1) (h : rg x 0 H = true) : ∃ j, j < n ∧ x = i3 j := by
  subst hH; exact rg_nat h
theorem OP_ofJar {M : MM} (h : INV M) (x u : Int32) : RESI y_LJ_ofJar c_LJ_ofJar 4 4 [vR 2, vI x, vI u] y_Mo_ofJar c_Mo_ofJar 3 4 [vR 36, vI x, vI u] M := by
  obtain ⟨n, nd, J, B, zs, ln, C, rc, rj, rt, tr, fa, hC, hM, hO⟩ := h
  obtain ⟨cJ, cB, cZ, cR, cT, cF⟩ := id hC
  obtain ⟨mJ, mB, mZ, mR, mT, mF⟩ := id hM
  have hI : INV M := ⟨n, nd, J, B, zs, ln, C, rc, rj, rt, tr, fa, hC, hM, hO⟩
  have hF : ∀ f, INV (upM (upM M 2 6 f) 36 0 f) := fun f => ⟨n, nd, J, B, zs, ln, C, rc, rj, rt, tr, f, hC.flt.mU (by decide), (hM.cU (by decide)).flt, hO⟩
  by_cases hx : rg x 0 ((n : Int) - 1) = false
  · exact ⟨_, _, _, C_LJ_ofJar_out cJ hx, C_Mo_ofJar_out mJ hx, hI⟩
  · obtain ⟨j, hj, rfl⟩ := rg_nat (n := n) (x := x) (by simpa using hx)
    exact ⟨_, _, _, C_LJ_ofJar_in cJ hj, C_Mo_ofJar_in mJ hj, hI⟩

theorem OP_like {M : MM} (h : INV M) (x : Int32) : RESI y_LJ_like c_LJ_like 2 5 [vR 2, vI x] y_Mo_like c_Mo_like 5 5 [vR 36, vI x] M := by
  obtain ⟨n, nd, J, B, zs, ln, C, rc, rj, rt, tr, fa, hC, hM, hO⟩ := h
  obtain ⟨cJ, cB, cZ, cR, cT, cF⟩ := id hC
  obtain ⟨mJ, mB, mZ, mR, mT, mF⟩ := id hM
  have hI : INV M := ⟨n, nd, J, B, zs, ln, C, rc, rj, rt, tr, fa, hC, hM, hO⟩
  have hF : ∀ f, INV (upM (upM M 2 6 f) 36 0 f) := fun f => ⟨n, nd, J, B, zs, ln, C, rc, rj, rt, tr, f, hC.flt.mU (by decide), (hM.cU (by decide)).flt, hO⟩
  by_cases hx : rg x 0 ((n : Int) - 1) = false
  · exact ⟨_, _, _, C_LJ_like_out cJ hx, C_Mo_like_out mJ hx, hI⟩
  · obtain ⟨j, hj, rfl⟩ := rg_nat (n := n) (x := x) (by simpa using hx)
    exact ⟨_, _, _, C_LJ_like_in cJ hj, C_Mo_like_in mJ hj, hI⟩

theorem OP_sures {M : MM} (h : INV M) (x : Int32) : RESI y_LJ_sures c_LJ_sures 2 5 [vR 2, vI x] y_Mo_sures c_Mo_sures 5 4 [vR 36, vI x] M := by
  obtain ⟨n, nd, J, B, zs, ln, C, rc, rj, rt, tr, fa, hC, hM, hO⟩ := h
  obtain ⟨cJ, cB, cZ, cR, cT, cF⟩ := id hC
  obtain ⟨mJ, mB, mZ, mR, mT, mF⟩ := id hM
  have hI : INV M := ⟨n, nd, J, B, zs, ln, C, rc, rj, rt, tr, fa, hC, hM, hO⟩
  have hF : ∀ f, INV (upM (upM M 2 6 f) 36 0 f) := fun f => ⟨n, nd, J, B, zs, ln, C, rc, rj, rt, tr, f, hC.flt.mU (by decide), (hM.cU (by decide)).flt, hO⟩
  by_cases hx : rg x 0 ((n : Int) - 1) = false
  · exact ⟨_, _, _, C_LJ_sures_out cJ hx, C_Mo_sures_out mJ hx, hI⟩
  · obtain ⟨j, hj, rfl⟩ := rg_nat (n := n) (x := x) (by simpa using hx)
    exact ⟨_, _, _, C_LJ_sures_in cJ cR hj, C_Mo_sures_in mJ mR hj, hI⟩

theorem OP_fades {M : MM} (h : INV M) (x : Int32) : RESI y_LJ_fades c_LJ_fades 2 5 [vR 2, vI x] y_Mo_fades c_Mo_fades 5 4 [vR 36, vI x] M := by
  obtain ⟨n, nd, J, B, zs, ln, C, rc, rj, rt, tr, fa, hC, hM, hO⟩ := h
  obtain ⟨cJ, cB, cZ, cR, cT, cF⟩ := id hC
  obtain ⟨mJ, mB, mZ, mR, mT, mF⟩ := id hM
  have hI : INV M := ⟨n, nd, J, B, zs, ln, C, rc, rj, rt, tr, fa, hC, hM, hO⟩
  have hF : ∀ f, INV (upM (upM M 2 6 f) 36 0 f) := fun f => ⟨n, nd, J, B, zs, ln, C, rc, rj, rt, tr, f, hC.flt.mU (by decide), (hM.cU (by decide)).flt, hO⟩
  by_cases hx : rg x 0 ((n : Int) - 1) = false
  · exact ⟨_, _, _, C_LJ_fades_out cJ hx, C_Mo_fades_out mJ hx, hI⟩
  · obtain ⟨j, hj, rfl⟩ := rg_nat (n := n) (x := x) (by simpa using hx)
    exact ⟨_, _, _, C_LJ_fades_in cJ cR hj, C_Mo_fades_in mJ mR hj, hI⟩

theorem OP_kinds {M : MM} (h : INV M) (x : Int32) : RESI y_LJ_kinds c_LJ_kinds 2 5 [vR 2, vI x] y_Mo_kinds c_Mo_kinds 5 4 [vR 36, vI x] M := by
  obtain ⟨n, nd, J, B, zs, ln, C, rc, rj, rt, tr, fa, hC, hM, hO⟩ := h
  obtain ⟨cJ, cB, cZ, cR, cT, cF⟩ := id hC
  obtain ⟨mJ, mB, mZ, mR, mT, mF⟩ := id hM
  have hI : INV M := ⟨n, nd, J, B, zs, ln, C, rc, rj, rt, tr, fa, hC, hM, hO⟩
  have hF : ∀ f, INV (upM (upM M 2 6 f) 36 0 f) := fun f => ⟨n, nd, J, B, zs, ln, C, rc, rj, rt, tr, f, hC.flt.mU (by decide), (hM.cU (by decide)).flt, hO⟩
  by_cases hx : rg x 0 ((n : Int) - 1) = false
  · exact ⟨_, _, _, C_LJ_kinds_out cJ hx, C_Mo_kinds_out mJ hx, hI⟩
  · obtain ⟨j, hj, rfl⟩ := rg_nat (n := n) (x := x) (by simpa using hx)
    exact ⟨_, _, _, C_LJ_kinds_in cJ cR hj, C_Mo_kinds_in mJ mR hj, hI⟩

theorem OP_ofDecider {M : MM} (h : INV M) (x u : Int32) : RESI y_LJ_ofDecider c_LJ_ofDecider 4 3 [vR 2, vI x, vI u] y_Mo_ofDecider c_Mo_ofDecider 3 3 [vR 36, vI x, vI u] M := by
  obtain ⟨n, nd, J, B, zs, ln, C, rc, rj, rt, tr, fa, hC, hM, hO⟩ := h
  obtain ⟨cJ, cB, cZ, cR, cT, cF⟩ := id hC
  obtain ⟨mJ, mB, mZ, mR, mT, mF⟩ := id hM
  have hI : INV M := ⟨n, nd, J, B, zs, ln, C, rc, rj, rt, tr, fa, hC, hM, hO⟩
  have hF : ∀ f, INV (upM (upM M 2 6 f) 36 0 f) := fun f => ⟨n, nd, J, B, zs, ln, C, rc, rj, rt, tr, f, hC.flt.mU (by decide), (hM.cU (by decide)).flt, hO⟩
  by_cases hx : rg x 0 ((nd : Int) - 1) = false
  · exact ⟨_, _, _, C_LJ_ofDecider_out cB hx, C_Mo_ofDecider_out mB hx, hI⟩
  · obtain ⟨j, hj, rfl⟩ := rg_nat (n := nd) (x := x) (by simpa using hx)
    exact ⟨_, _, _, C_LJ_ofDecider_in cB hj, C_Mo_ofDecider_in mB hj, hI⟩

theorem OP_mark {M : MM} (h : INV M) (x u : Int32) : RESI y_LJ_mark c_LJ_mark 4 3 [vR 2, vI x, vI u] y_Mo_mark c_Mo_mark 3 3 [vR 36, vI x, vI u] M := by
  obtain ⟨n, nd, J, B, zs, ln, C, rc, rj, rt, tr, fa, hC, hM, hO⟩ := h
  obtain ⟨cJ, cB, cZ, cR, cT, cF⟩ := id hC
  obtain ⟨mJ, mB, mZ, mR, mT, mF⟩ := id hM
  have hI : INV M := ⟨n, nd, J, B, zs, ln, C, rc, rj, rt, tr, fa, hC, hM, hO⟩
  have hF : ∀ f, INV (upM (upM M 2 6 f) 36 0 f) := fun f => ⟨n, nd, J, B, zs, ln, C, rc, rj, rt, tr, f, hC.flt.mU (by decide), (hM.cU (by decide)).flt, hO⟩
  by_cases hx : rg x 0 ((n : Int) - 1) = false
  · exact ⟨_, _, _, C_LJ_mark_out cJ hx, C_Mo_mark_out mJ hx, hI⟩
  · obtain ⟨j, hj, rfl⟩ := rg_nat (n := n) (x := x) (by simpa using hx)
    by_cases hu : rg u 0 9 = false
    · exact ⟨_, _, _, C_LJ_mark_bad cJ hj hu, C_Mo_mark_bad mJ hj hu, hI⟩
    · have hu' : rg u 0 9 = true := by simpa using hu
      exact ⟨_, _, _, C_LJ_mark_ok cJ hj hu', C_Mo_mark_ok mJ hj hu', hI⟩
theorem OP_blend {M : MM} (h : INV M) (x u : Int32) : RESI y_LJ_blend c_LJ_blend 3 3 [vR 2, vI x, vI u] y_Mo_blend c_Mo_blend 3 4 [vR 36, vI x, vI u] M := by
  obtain ⟨n, nd, J, B, zs, ln, C, rc, rj, rt, tr, fa, hC, hM, hO⟩ := h
  obtain ⟨cJ, cB, cZ, cR, cT, cF⟩ := id hC
  obtain ⟨mJ, mB, mZ, mR, mT, mF⟩ := id hM
  have hI : INV M := ⟨n, nd, J, B, zs, ln, C, rc, rj, rt, tr, fa, hC, hM, hO⟩
  have hF : ∀ f, INV (upM (upM M 2 6 f) 36 0 f) := fun f => ⟨n, nd, J, B, zs, ln, C, rc, rj, rt, tr, f, hC.flt.mU (by decide), (hM.cU (by decide)).flt, hO⟩
  by_cases h0 : n = 0
  · exact ⟨_, _, _, C_LJ_blend_no cJ h0, C_Mo_blend_no mJ h0, hI⟩
  · by_cases hb : (rg x 1 ((2 ^ n : Nat) - 1) && rg u 0 9) = false
    · exact ⟨_, _, _, C_LJ_blend_bad cJ h0 hb, C_Mo_blend_bad mJ h0 hb, hI⟩
    · have hb' : (rg x 1 ((2 ^ n : Nat) - 1) && rg u 0 9) = true := by simpa using hb
      rw [Bool.and_eq_true] at hb'
      obtain ⟨s, hs0, hs, rfl⟩ : ∃ s, 0 < s ∧ s < 2 ^ n ∧ x = i3 s := by
        have h1 := hb'.1
        rw [rg_true] at h1
        refine ⟨x.toInt.toNat, by omega, by omega, ?_⟩
        apply Int32.toInt_inj.mp
        have hb2 := x.toInt_lt
        rw [i3_int (by omega)]; omega
      exact ⟨_, _, _, C_LJ_blend_ok cJ h0 hs0 hs hb'.2, C_Mo_blend_ok mJ h0 hs0 hs hb'.2, hI⟩
theorem OP_hold {M : MM} (h : INV M) (x u : Int32) : RESI y_LJ_hold c_LJ_hold 3 4 [vR 2, vI x, vI u] y_Mo_hold c_Mo_hold 6 4 [vR 36, vI x, vI u] M := by
  obtain ⟨n, nd, J, B, zs, ln, C, rc, rj, rt, tr, fa, hC, hM, hO⟩ := h
  obtain ⟨cJ, cB, cZ, cR, cT, cF⟩ := id hC
  obtain ⟨mJ, mB, mZ, mR, mT, mF⟩ := id hM
  have hI : INV M := ⟨n, nd, J, B, zs, ln, C, rc, rj, rt, tr, fa, hC, hM, hO⟩
  have hF : ∀ f, INV (upM (upM M 2 6 f) 36 0 f) := fun f => ⟨n, nd, J, B, zs, ln, C, rc, rj, rt, tr, f, hC.flt.mU (by decide), (hM.cU (by decide)).flt, hO⟩
  by_cases h0 : n = 0
  · exact ⟨_, _, _, C_LJ_hold_no cJ h0, C_Mo_hold_no mJ h0, hI⟩
  · by_cases hb : (rg x 1 ((2 ^ n : Nat) - 1) && rg u 0 9) = false
    · exact ⟨_, _, _, C_LJ_hold_bad cJ h0 hb, C_Mo_hold_bad mJ h0 hb, hI⟩
    · have hb' : (rg x 1 ((2 ^ n : Nat) - 1) && rg u 0 9) = true := by simpa using hb
      rw [Bool.and_eq_true] at hb'
      obtain ⟨s, hs0, hs, rfl⟩ : ∃ s, 0 < s ∧ s < 2 ^ n ∧ x = i3 s := by
        have h1 := hb'.1
        rw [rg_true] at h1
        refine ⟨x.toInt.toNat, by omega, by omega, ?_⟩
        apply Int32.toInt_inj.mp
        have hb2 := x.toInt_lt
        rw [i3_int (by omega)]; omega
      exact ⟨_, _, _, C_LJ_hold_ok cJ h0 hs0 hs hb'.2, C_Mo_hold_ok mJ h0 hs0 hs hb'.2, hI⟩
theorem OP_mix {M : MM} (h : INV M) (x u : Int32) : RESI y_LJ_mix c_LJ_mix 5 5 [vR 2, vI x, vI u] y_Mo_mix c_Mo_mix 7 5 [vR 36, vI x, vI u] M := by
  obtain ⟨n, nd, J, B, zs, ln, C, rc, rj, rt, tr, fa, hC, hM, hO⟩ := h
  obtain ⟨cJ, cB, cZ, cR, cT, cF⟩ := id hC
  obtain ⟨mJ, mB, mZ, mR, mT, mF⟩ := id hM
  have hI : INV M := ⟨n, nd, J, B, zs, ln, C, rc, rj, rt, tr, fa, hC, hM, hO⟩
  have hF : ∀ f, INV (upM (upM M 2 6 f) 36 0 f) := fun f => ⟨n, nd, J, B, zs, ln, C, rc, rj, rt, tr, f, hC.flt.mU (by decide), (hM.cU (by decide)).flt, hO⟩
  by_cases hx : rg x 0 ((nd : Int) - 1) = false
  · exact ⟨_, _, _, C_LJ_mix_out cB hx, C_Mo_mix_out mB hx, hI⟩
  · obtain ⟨j, hj, rfl⟩ := rg_nat (n := nd) (x := x) (by simpa using hx)
    by_cases hu : rg u 0 1 = false
    · exact ⟨_, _, _, C_LJ_mix_bad cJ cB hj hu, C_Mo_mix_bad mJ mB hj hu, hI⟩
    · have hu' : rg u 0 1 = true := by simpa using hu
      exact ⟨_, _, _, C_LJ_mix_ok cJ cB hj hu', C_Mo_mix_ok mJ mB hj hO.2.1 hu', hI⟩
theorem OP_odds {M : MM} (h : INV M) (x u : Int32) : RESL y_LJ_odds c_LJ_odds 7 5 [vR 2, vI x, vI u] y_Mo_odds c_Mo_odds 9 5 [vR 36, vI x, vI u] M := by
  obtain ⟨n, nd, J, B, zs, ln, C, rc, rj, rt, tr, fa, hC, hM, hO⟩ := h
  obtain ⟨cJ, cB, cZ, cR, cT, cF⟩ := id hC
  obtain ⟨mJ, mB, mZ, mR, mT, mF⟩ := id hM
  have hI : INV M := ⟨n, nd, J, B, zs, ln, C, rc, rj, rt, tr, fa, hC, hM, hO⟩
  have hF : ∀ f, INV (upM (upM M 2 6 f) 36 0 f) := fun f => ⟨n, nd, J, B, zs, ln, C, rc, rj, rt, tr, f, hC.flt.mU (by decide), (hM.cU (by decide)).flt, hO⟩
  by_cases hx : rg x 0 ((nd : Int) - 1) = false
  · exact ⟨_, _, _, C_LJ_odds_out cB hx, C_Mo_odds_out mB hx, hI⟩
  · obtain ⟨j, hj, rfl⟩ := rg_nat (n := nd) (x := x) (by simpa using hx)
    by_cases hu : rg u 0 1 = false
    · exact ⟨_, _, _, C_LJ_odds_bad cJ cB hj hu, C_Mo_odds_bad mJ mB hj hu, hI⟩
    · obtain ⟨w, hw, rfl⟩ := rg_nat' (n := 2) (x := u) (H := 1) (by decide) (by simpa using hu)
      exact ⟨_, _, _, C_LJ_odds_ok cJ cB hj hw, C_Mo_odds_ok mJ mB hj hw, hI⟩
theorem OP_trace {M : MM} (h : INV M) : RESI y_LJ_trace c_LJ_trace 1 1 [vR 2] y_Mo_trace c_Mo_trace 1 1 [vR 36] M := by
  obtain ⟨n, nd, J, B, zs, ln, C, rc, rj, rt, tr, fa, hC, hM, hO⟩ := h
  obtain ⟨cJ, cB, cZ, cR, cT, cF⟩ := id hC
  obtain ⟨mJ, mB, mZ, mR, mT, mF⟩ := id hM
  have hI : INV M := ⟨n, nd, J, B, zs, ln, C, rc, rj, rt, tr, fa, hC, hM, hO⟩
  have hF : ∀ f, INV (upM (upM M 2 6 f) 36 0 f) := fun f => ⟨n, nd, J, B, zs, ln, C, rc, rj, rt, tr, f, hC.flt.mU (by decide), (hM.cU (by decide)).flt, hO⟩
  exact ⟨_, _, _, C_LJ_trace, (by rw [cT, ← mT]; exact C_Mo_trace), hI⟩
theorem OP_fault {M : MM} (h : INV M) : RESI y_LJ_fault c_LJ_fault 1 1 [vR 2] y_Mo_fault c_Mo_fault 1 1 [vR 36] M := by
  obtain ⟨n, nd, J, B, zs, ln, C, rc, rj, rt, tr, fa, hC, hM, hO⟩ := h
  obtain ⟨cJ, cB, cZ, cR, cT, cF⟩ := id hC
  obtain ⟨mJ, mB, mZ, mR, mT, mF⟩ := id hM
  have hI : INV M := ⟨n, nd, J, B, zs, ln, C, rc, rj, rt, tr, fa, hC, hM, hO⟩
  have hF : ∀ f, INV (upM (upM M 2 6 f) 36 0 f) := fun f => ⟨n, nd, J, B, zs, ln, C, rc, rj, rt, tr, f, hC.flt.mU (by decide), (hM.cU (by decide)).flt, hO⟩
  exact ⟨_, _, _, C_LJ_fault, (by rw [cF, ← mF]; exact C_Mo_fault), hI⟩
theorem OP_many {M : MM} (h : INV M) (x : Int32) : RESI y_LJ_many c_LJ_many 2 2 [vR 2, vI x] y_Mo_many c_Mo_many 2 2 [vR 36, vI x] M := by
  obtain ⟨n, nd, J, B, zs, ln, C, rc, rj, rt, tr, fa, hC, hM, hO⟩ := h
  obtain ⟨cJ, cB, cZ, cR, cT, cF⟩ := id hC
  obtain ⟨mJ, mB, mZ, mR, mT, mF⟩ := id hM
  have hI : INV M := ⟨n, nd, J, B, zs, ln, C, rc, rj, rt, tr, fa, hC, hM, hO⟩
  have hF : ∀ f, INV (upM (upM M 2 6 f) 36 0 f) := fun f => ⟨n, nd, J, B, zs, ln, C, rc, rj, rt, tr, f, hC.flt.mU (by decide), (hM.cU (by decide)).flt, hO⟩
  exact ⟨_, _, _, C_LJ_many cJ cB cR.2.1, C_Mo_many mJ mB mR.2.1, hI⟩
theorem OP_as {M : MM} (h : INV M) (x u : Int32) : RESI y_LJ_as c_LJ_as 4 3 [vR 2, vI x, vI u] y_Mo_as c_Mo_as 3 3 [vR 36, vI x, vI u] M := by
  obtain ⟨n, nd, J, B, zs, ln, C, rc, rj, rt, tr, fa, hC, hM, hO⟩ := h
  obtain ⟨cJ, cB, cZ, cR, cT, cF⟩ := id hC
  obtain ⟨mJ, mB, mZ, mR, mT, mF⟩ := id hM
  have hI : INV M := ⟨n, nd, J, B, zs, ln, C, rc, rj, rt, tr, fa, hC, hM, hO⟩
  have hF : ∀ f, INV (upM (upM M 2 6 f) 36 0 f) := fun f => ⟨n, nd, J, B, zs, ln, C, rc, rj, rt, tr, f, hC.flt.mU (by decide), (hM.cU (by decide)).flt, hO⟩
  by_cases hx : rg x 0 ((n : Int) - 1) = false
  · exact ⟨_, _, _, C_LJ_as_out cJ hx, C_Mo_as_out (mJ.eq (upM_ne (by omega)) (fun a h1 h2 i => upM_ne (by omega))) hx, hF 0⟩
  · obtain ⟨j, hj, rfl⟩ := rg_nat (n := n) (x := x) (by simpa using hx)
    have mJ' : ∀ f, MJ (upM M 2 6 f) n J := fun f => mJ.eq (upM_ne (by omega)) (fun a h1 h2 i => upM_ne (by omega))
    by_cases hu : rg u 0 2 = false
    · exact ⟨_, _, _, C_LJ_as_bad cJ hj hu, C_Mo_as_bad (mJ' _) hj hu, hF 0⟩
    · have hu' : rg u 0 2 = true := by simpa using hu
      by_cases hk : J j 0 < u
      · exact ⟨_, _, _, C_LJ_as_no cJ hj hu' hk, C_Mo_as_no (mJ' _) hj hu' hk, hF 2⟩
      · exact ⟨_, _, _, C_LJ_as_ok cJ hj hu' hk, C_Mo_as_ok (mJ' _) hj hu' hk, hF 0⟩
