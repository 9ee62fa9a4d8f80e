/-! Class and model, call by call: sheets. -/
def upI (f : Nat → Int32) (k : Nat) (v : Int32) : Nat → Int32 := fun t => if t = k then v else f t
theorem upI_same {f : Nat → Int32} {k : Nat} {v : Int32} : upI f k v k = v := if_pos rfl
theorem upI_ne {f : Nat → Int32} {k t : Nat} {v : Int32} (h : ¬ t = k) : upI f k v t = f t := if_neg h
def zrC (C : JT) (k : Nat) : JT := fun t i => if t = k then 0 else C t i
theorem zrC_same {C : JT} {k i : Nat} : zrC C k k i = 0 := if_pos rfl
theorem zrC_ne {C : JT} {k t i : Nat} (h : ¬ t = k) : zrC C k t i = C t i := if_neg h
theorem fl_ne {M : MM} {c k a i : Nat} {v : Int32} (h : ¬ a = c) : fillM M c v k a i = M a i := if_neg (fun w => h w.1)
theorem fl_in {M : MM} {c k i : Nat} {v : Int32} (h : i < k) : fillM M c v k c i = v := if_pos ⟨rfl, h⟩
theorem CIV.sheet {M : MM} {n nd : Nat} {J B : JT} {zs : Nat → Nat} {ln : Nat → Int32} {C : JT} {rc : Nat} {rj : Nat → Nat} {rt : JT} {tr fa : Int32} {k m : Nat} {u : Int32} (h : CIV M n nd J B zs ln C rc rj rt tr fa) (hk : k < 4) (hm : m ≤ 60) : CIV (fillM (upM (upM (upM (upM M 2 6 0) (28 + 2 * k) 1 1) (28 + 2 * k) 2 u) (28 + 2 * k) 3 (i3 m)) (29 + 2 * k) 0 60) n nd J B (upN zs k (m + 1)) (upI ln k u) (zrC C k) rc rj rt tr 0 := by
  have cZ := h.2.2.1
  refine h.newZ (fun a i ha hb => by rw [fl_ne (by omega), upM_ne (by omega), upM_ne (by omega), upM_ne (by omega), upM_ne (by omega)]) (fun t ht => ?_) (by rw [fl_ne (by omega), upM_ne (by omega), upM_ne (by omega), upM_ne (by omega), upM_same])
  by_cases e : t = k
  · subst e
    rw [upN_same, upI_same]
    refine ⟨by omega, fun w => absurd w (Nat.succ_ne_zero m), fun _ => ⟨?_, ?_, ?_, fun i hi => ?_⟩⟩
    · rw [fl_ne (by omega), upM_ne (by omega), upM_ne (by omega), upM_same]
    · rw [fl_ne (by omega), upM_ne (by omega), upM_same]
    · rw [fl_ne (by omega), upM_same]; rfl
    · rw [fl_in (by omega), zrC_same]
  · rw [upN_ne e, upI_ne e]
    obtain ⟨a1, a2, a3⟩ := cZ t ht
    refine ⟨a1, fun w => ?_, fun w => ⟨?_, ?_, ?_, fun i hi => ?_⟩⟩
    · rw [fl_ne (by omega), upM_ne (by omega), upM_ne (by omega), upM_ne (by omega), upM_ne (by omega)]; exact a2 w
    · rw [fl_ne (by omega), upM_ne (by omega), upM_ne (by omega), upM_ne (by omega), upM_ne (by omega)]; exact (a3 w).1
    · rw [fl_ne (by omega), upM_ne (by omega), upM_ne (by omega), upM_ne (by omega), upM_ne (by omega)]; exact (a3 w).2.1
    · rw [fl_ne (by omega), upM_ne (by omega), upM_ne (by omega), upM_ne (by omega), upM_ne (by omega)]; exact (a3 w).2.2.1
    · rw [fl_ne (by omega), upM_ne (by omega), upM_ne (by omega), upM_ne (by omega), upM_ne (by omega), zrC_ne e]; exact (a3 w).2.2.2 i hi
theorem rw_in {M : MM} {r lo k i : Nat} {f : Nat → Int32} (h : lo ≤ i ∧ i < lo + k) : rwF M r lo f k r i = f (i - lo) := if_pos ⟨rfl, h⟩
theorem rw_out {M : MM} {r lo k q i : Nat} {f : Nat → Int32} (h : ¬ (lo ≤ i ∧ i < lo + k)) : rwF M r lo f k q i = M q i := if_neg (fun w => h w.2)
theorem MIV.sheet {M : MM} {n nd : Nat} {J B : JT} {zs : Nat → Nat} {ln : Nat → Int32} {C : JT} {rc : Nat} {rj : Nat → Nat} {rt : JT} {tr fa : Int32} {k m : Nat} {u : Int32} (h : MIV M n nd J B zs ln C rc rj rt tr fa) (hk : k < 4) (hm : m ≤ 60) : MIV (upM (rwF (upM (upM M 60 k (i3 m)) 61 k u) 62 (60 * k) (fun _ => 0) m) 36 0 0) n nd J B (upN zs k (m + 1)) (upI ln k u) (zrC C k) rc rj rt tr 0 := by
  have mZ := h.2.2.1
  refine h.newZ (fun a i ha hb hc => by rw [upM_ne (by omega), rwF_ne (by omega), upM_ne (by omega), upM_ne (by omega)]) (fun t ht => ?_) upM_same
  by_cases e : t = k
  · subst e
    rw [upN_same, upI_same]
    refine ⟨by omega, ?_, fun _ => ⟨?_, fun i hi => ?_⟩⟩
    · rw [if_neg (Nat.succ_ne_zero m), upM_ne (by omega), rwF_ne (by omega), upM_ne (by omega), upM_same]; rfl
    · rw [upM_ne (by omega), rwF_ne (by omega), upM_same]
    · rw [upM_ne (by omega), rw_in (by omega), zrC_same]
  · rw [upN_ne e, upI_ne e]
    obtain ⟨a1, a2, a3⟩ := mZ t ht
    refine ⟨a1, ?_, fun w => ⟨?_, fun i hi => ?_⟩⟩
    · rw [upM_ne (by omega), rwF_ne (by omega), upM_ne (by omega), upM_ne (by omega)]; exact a2
    · rw [upM_ne (by omega), rwF_ne (by omega), upM_ne (by omega), upM_ne (by omega)]; exact (a3 w).1
    · rw [upM_ne (by omega), rw_out (by omega), upM_ne (by omega), upM_ne (by omega), zrC_ne e]; exact (a3 w).2 i hi
theorem CIV.put {M : MM} {n nd : Nat} {J B : JT} {zs : Nat → Nat} {ln : Nat → Int32} {C : JT} {rc : Nat} {rj : Nat → Nat} {rt : JT} {tr fa : Int32} {k a : Nat} {c : Int32} (h : CIV M n nd J B zs ln C rc rj rt tr fa) (hk : k < 4) : CIV (upM (upM M 2 6 0) (29 + 2 * k) a c) n nd J B zs ln (upM C k a c) rc rj rt tr 0 := by
  have cZ := h.2.2.1
  refine h.newZ (fun a i ha hb => by rw [upM_ne (by omega), upM_ne (by omega)]) (fun t ht => ?_) (by rw [upM_ne (by omega), upM_same])
  obtain ⟨a1, a2, a3⟩ := cZ t ht
  refine ⟨a1, fun w => ?_, fun w => ⟨?_, ?_, ?_, fun i hi => ?_⟩⟩
  · rw [upM_ne (by omega), upM_ne (by omega)]; exact a2 w
  · rw [upM_ne (by omega), upM_ne (by omega)]; exact (a3 w).1
  · rw [upM_ne (by omega), upM_ne (by omega)]; exact (a3 w).2.1
  · rw [upM_ne (by omega), upM_ne (by omega)]; exact (a3 w).2.2.1
  · by_cases e : t = k ∧ i = a
    · rw [e.1, e.2, upM_same, upM_same]
    · rw [upM_ne (by omega), upM_ne (by omega), upM_ne e]; exact (a3 w).2.2.2 i hi
theorem MIV.put {M : MM} {n nd : Nat} {J B : JT} {zs : Nat → Nat} {ln : Nat → Int32} {C : JT} {rc : Nat} {rj : Nat → Nat} {rt : JT} {tr fa : Int32} {k a : Nat} {c : Int32} (h : MIV M n nd J B zs ln C rc rj rt tr fa) (hk : k < 4) (ha : a < 60) : MIV (upM (upM M 62 (60 * k + a) c) 36 0 0) n nd J B zs ln (upM C k a c) rc rj rt tr 0 := by
  have mZ := h.2.2.1
  refine h.newZ (fun a i ha hb hc => by rw [upM_ne (by omega), upM_ne (by omega)]) (fun t ht => ?_) upM_same
  obtain ⟨a1, a2, a3⟩ := mZ t ht
  refine ⟨a1, ?_, fun w => ⟨?_, fun i hi => ?_⟩⟩
  · rw [upM_ne (by omega), upM_ne (by omega)]; exact a2
  · rw [upM_ne (by omega), upM_ne (by omega)]; exact (a3 w).1
  · by_cases e : t = k ∧ i = a
    · rw [e.1, e.2, upM_ne (by omega), upM_same, upM_same]
    · rw [upM_ne (by omega), upM_ne (by omega), upM_ne e]; exact (a3 w).2 i hi
def cyC (C : JT) (k p a b m : Nat) : JT := fun t i => if t = p ∧ b ≤ i ∧ i < b + m then C k (a + (i - b)) else C t i
theorem CIV.copy {M : MM} {n nd : Nat} {J B : JT} {zs : Nat → Nat} {ln : Nat → Int32} {C : JT} {rc : Nat} {rj : Nat → Nat} {rt : JT} {tr fa : Int32} {k p a b m : Nat} (h : CIV M n nd J B zs ln C rc rj rt tr fa) (hk : k < 4) (hp : p < 4) (hz : zs k ≠ 0) (h1 : a + m ≤ zs k - 1) : CIV (cpM (upM M 2 6 0) (29 + 2 * k) (29 + 2 * p) a b m) n nd J B zs ln (cyC C k p a b m) rc rj rt tr 0 := by
  have cZ := h.2.2.1
  have hn : ∀ q i, ¬ q = 29 + 2 * p → cpM (upM M 2 6 0) (29 + 2 * k) (29 + 2 * p) a b m q i = upM M 2 6 0 q i := fun q i hq => if_neg hq
  refine h.newZ (fun a i ha hb => by rw [hn _ _ (by omega), upM_ne (by omega)]) (fun t ht => ?_) (by rw [hn _ _ (by omega), upM_same])
  obtain ⟨a1, a2, a3⟩ := cZ t ht
  refine ⟨a1, fun w => ?_, fun w => ⟨?_, ?_, ?_, fun i hi => ?_⟩⟩
  · rw [hn _ _ (by omega), upM_ne (by omega)]; exact a2 w
  · rw [hn _ _ (by omega), upM_ne (by omega)]; exact (a3 w).1
  · rw [hn _ _ (by omega), upM_ne (by omega)]; exact (a3 w).2.1
  · rw [hn _ _ (by omega), upM_ne (by omega)]; exact (a3 w).2.2.1
  · by_cases e : t = p
    · subst e
      have e1 : cpM (upM M 2 6 0) (29 + 2 * k) (29 + 2 * t) a b m (29 + 2 * t) i = if b ≤ i ∧ i < b + m then upM M 2 6 0 (29 + 2 * k) (a + (i - b)) else upM M 2 6 0 (29 + 2 * t) i := if_pos rfl
      rw [e1]
      unfold cyC
      by_cases f : b ≤ i ∧ i < b + m
      · rw [if_pos f, if_pos ⟨rfl, f⟩, upM_ne (by omega)]
        exact ((cZ k hk).2.2 hz).2.2.2 _ (by omega)
      · rw [if_neg f, if_neg (fun w => f w.2), upM_ne (by omega)]
        exact (a3 w).2.2.2 i hi
    · rw [hn _ _ (by omega), upM_ne (by omega)]
      unfold cyC
      rw [if_neg (fun w => e w.1)]
      exact (a3 w).2.2.2 i hi
theorem MIV.copy {M : MM} {n nd : Nat} {J B : JT} {zs : Nat → Nat} {ln : Nat → Int32} {C : JT} {rc : Nat} {rj : Nat → Nat} {rt : JT} {tr fa : Int32} {k p a b m : Nat} (h : MIV M n nd J B zs ln C rc rj rt tr fa) (hk : k < 4) (hp : p < 4) (hz : zs k ≠ 0) (h1 : a + m ≤ zs k - 1) (h2 : b + m ≤ zs p - 1) : MIV (upM (rwF (cpF M 63 (fun y => M 62 (60 * k + a + y)) m) 62 (60 * p + b) (fun y => M 62 (60 * k + a + y)) m) 36 0 0) n nd J B zs ln (cyC C k p a b m) rc rj rt tr 0 := by
  have mZ := h.2.2.1
  refine h.newZ (fun a i ha hb hc => by rw [upM_ne (by omega), rwF_ne (by omega), cpF_ne (by omega)]) (fun t ht => ?_) upM_same
  obtain ⟨a1, a2, a3⟩ := mZ t ht
  have zp := (mZ p hp).1
  refine ⟨a1, ?_, fun w => ⟨?_, fun i hi => ?_⟩⟩
  · rw [upM_ne (by omega), rwF_ne (by omega), cpF_ne (by omega)]; exact a2
  · rw [upM_ne (by omega), rwF_ne (by omega), cpF_ne (by omega)]; exact (a3 w).1
  · rw [upM_ne (by omega)]
    unfold cyC
    by_cases f : t = p ∧ b ≤ i ∧ i < b + m
    · rw [if_pos f, f.1, rw_in (by omega)]
      show M 62 (60 * k + a + (60 * p + i - (60 * p + b))) = _
      rw [show 60 * k + a + (60 * p + i - (60 * p + b)) = 60 * k + (a + (i - b)) by omega]
      exact ((mZ k hk).2.2 hz).2 _ (by omega)
    · rw [if_neg f, rw_out (by omega), cpF_ne (by omega)]
      exact (a3 w).2 i hi
theorem OP_sheet {M : MM} (h : INV M) (x u v : Int32) : RESI y_LJ_sheet c_LJ_sheet 5 3 [vR 2, vI x, vI u, vI v] y_Mo_sheet c_Mo_sheet 5 3 [vR 36, vI x, vI u, vI v] M := by
  obtain ⟨n, nd, J, B, zs, ln, C, rc, rj, rt, tr, fa, hC, hM, hO⟩ := h
  obtain ⟨cJ, cB, cZ, cR, cT, cF⟩ := id hC
  obtain ⟨mJ, mB, mZ, mR, mT, mF⟩ := id hM
  have hI : INV M := ⟨n, nd, J, B, zs, ln, C, rc, rj, rt, tr, fa, hC, hM, hO⟩
  have hF : ∀ f, INV (upM (upM M 2 6 f) 36 0 f) := fun f => ⟨n, nd, J, B, zs, ln, C, rc, rj, rt, tr, f, hC.flt.mU (by decide), (hM.cU (by decide)).flt, hO⟩
  have hM1 : ∀ f, MIV (upM M 2 6 f) n nd J B zs ln C rc rj rt tr fa := fun f => hM.cU (by decide)
  by_cases hx : rg x 0 3 = false
  · exact ⟨_, _, _, C_LJ_sheet_out hx, C_Mo_sheet_out hx, hF 0⟩
  · obtain ⟨k, hk, rfl⟩ := rg_nat' (n := 4) (x := x) (H := 3) (by decide) (by simpa using hx)
    by_cases hb : (rg u 0 2 && decide (v ≤ 60)) = false
    · exact ⟨_, _, _, C_LJ_sheet_bad hk hb, C_Mo_sheet_bad hk hb, hF 0⟩
    · have hb' : (rg u 0 2 && decide (v ≤ 60)) = true := by simpa using hb
      rw [Bool.and_eq_true, decide_eq_true_eq] at hb'
      by_cases hv : v < 0
      · exact ⟨_, _, _, C_LJ_sheet_neg hk hb'.1 hv, C_Mo_sheet_neg hk hb'.1 hv, hF 4⟩
      · obtain ⟨m, hm, rfl⟩ : ∃ m, m ≤ 60 ∧ v = i3 m := by
          have w1 := hb'.2
          rw [Int32.le_iff_toInt_le] at w1
          rw [Int32.lt_iff_toInt_lt] at hv
          have e1 : (60 : Int32).toInt = 60 := rfl
          have e2 : (0 : Int32).toInt = 0 := rfl
          rw [e1] at w1
          rw [e2] at hv
          refine ⟨v.toInt.toNat, by omega, ?_⟩
          apply Int32.toInt_inj.mp
          rw [i3_int (by omega)]; omega
        have hM2 : MIV (fillM (upM (upM (upM (upM M 2 6 0) (28 + 2 * k) 1 1) (28 + 2 * k) 2 u) (28 + 2 * k) 3 (i3 m)) (29 + 2 * k) 0 60) n nd J B zs ln C rc rj rt tr fa := hM.eq (fun a ha i => by rw [fl_ne (by omega), upM_ne (by omega), upM_ne (by omega), upM_ne (by omega), upM_ne (by omega)])
        exact ⟨_, _, _, C_LJ_sheet_ok hk hb'.1 hm, C_Mo_sheet_ok hk hb'.1 hm, ⟨n, nd, J, B, upN zs k (m + 1), upI ln k u, zrC C k, rc, rj, rt, tr, 0, (hC.sheet hk hm).eq (fun a ha i => by rw [upM_ne (by omega), rwF_ne (by omega), upM_ne (by omega), upM_ne (by omega)]), hM2.sheet hk hm, ⟨hO.1, hO.2.1, hO.2.2.1, fun t ht w => by
          by_cases e : t = k
          · subst e; rw [upI_same]; exact hb'.1
          · rw [upN_ne e] at w; rw [upI_ne e]; exact hO.2.2.2 t ht w⟩⟩⟩
theorem OP_put {M : MM} (h : INV M) (x u v : Int32) : RESI y_LJ_put c_LJ_put 6 3 [vR 2, vI x, vI u, vI v] y_Mo_put c_Mo_put 4 3 [vR 36, vI x, vI u, vI v] M := by
  obtain ⟨n, nd, J, B, zs, ln, C, rc, rj, rt, tr, fa, hC, hM, hO⟩ := h
  obtain ⟨cJ, cB, cZ, cR, cT, cF⟩ := id hC
  obtain ⟨mJ, mB, mZ, mR, mT, mF⟩ := id hM
  have hI : INV M := ⟨n, nd, J, B, zs, ln, C, rc, rj, rt, tr, fa, hC, hM, hO⟩
  have hF : ∀ f, INV (upM (upM M 2 6 f) 36 0 f) := fun f => ⟨n, nd, J, B, zs, ln, C, rc, rj, rt, tr, f, hC.flt.mU (by decide), (hM.cU (by decide)).flt, hO⟩
  have hM1 : ∀ f, MIV (upM M 2 6 f) n nd J B zs ln C rc rj rt tr fa := fun f => hM.cU (by decide)
  by_cases hx : rg x 0 3 = false
  · exact ⟨_, _, _, C_LJ_put_out hx, C_Mo_put_out hx, hF 0⟩
  · obtain ⟨k, hk, rfl⟩ := rg_nat' (n := 4) (x := x) (H := 3) (by decide) (by simpa using hx)
    by_cases hf : flt (zs k) (ln k) (ln k) u 1 = 0
    · obtain ⟨f1, f2, f3⟩ := flt_inv hf
      have z1 := (cZ k hk).1
      obtain ⟨a, rfl, ha⟩ := hc1_nat (by omega) f3
      have hM2 := (hM1 0).cU (r := 29 + 2 * k) (k := a) (x := cutM (ln k) v) (by omega)
      exact ⟨_, _, _, C_LJ_put_ok cZ hk f1 ha, C_Mo_put_ok hM2.2.2.1 hk f1 ha, ⟨n, nd, J, B, zs, ln, upM C k a (cutM (ln k) v), rc, rj, rt, tr, 0, ((hC.put hk).mU (by decide)).mU (by decide), hM2.put hk (by omega), hO⟩⟩
    · exact ⟨_, _, _, C_LJ_put_fail cZ hk hf, C_Mo_put_fail (hM1 _).2.2.1 hk hf, hF _⟩
theorem OP_copy {M : MM} (h : INV M) (x u v w y : Int32) : RESI y_LJ_copy c_LJ_copy 8 3 [vR 2, vI x, vI u, vI v, vI w, vI y] y_Mo_copy c_Mo_copy 7 3 [vR 36, vI x, vI u, vI v, vI w, vI y] M := by
  obtain ⟨n, nd, J, B, zs, ln, C, rc, rj, rt, tr, fa, hC, hM, hO⟩ := h
  obtain ⟨cJ, cB, cZ, cR, cT, cF⟩ := id hC
  obtain ⟨mJ, mB, mZ, mR, mT, mF⟩ := id hM
  have hI : INV M := ⟨n, nd, J, B, zs, ln, C, rc, rj, rt, tr, fa, hC, hM, hO⟩
  have hF : ∀ f, INV (upM (upM M 2 6 f) 36 0 f) := fun f => ⟨n, nd, J, B, zs, ln, C, rc, rj, rt, tr, f, hC.flt.mU (by decide), (hM.cU (by decide)).flt, hO⟩
  have hM1 : ∀ f, MIV (upM M 2 6 f) n nd J B zs ln C rc rj rt tr fa := fun f => hM.cU (by decide)
  by_cases hx : rg x 0 3 = false
  · exact ⟨_, _, _, C_LJ_copy_o1 hx, C_Mo_copy_o1 hx, hF 0⟩
  · obtain ⟨k, hk, rfl⟩ := rg_nat' (n := 4) (x := x) (H := 3) (by decide) (by simpa using hx)
    by_cases hx2 : rg v 0 3 = false
    · exact ⟨_, _, _, C_LJ_copy_o2 hx2 hk, C_Mo_copy_o2 hx2 hk, hF 0⟩
    · obtain ⟨p, hp, rfl⟩ := rg_nat' (n := 4) (x := v) (H := 3) (by decide) (by simpa using hx2)
      by_cases z1 : zs k = 0
      · exact ⟨_, _, _, C_LJ_copy_null cZ hk hp (Or.inl z1), C_Mo_copy_null1 (hM1 _).2.2.1 hk hp z1, hF 1⟩
      · by_cases z2 : zs p = 0
        · exact ⟨_, _, _, C_LJ_copy_null cZ hk hp (Or.inr z2), C_Mo_copy_null2 (hM1 _).2.2.1 hk hp z1 z2, hF 1⟩
        · by_cases hl : ln k = ln p
          · by_cases hh : (hcB (i3 (zs k - 1)) u y && hcB (i3 (zs p - 1)) w y) = false
            · exact ⟨_, _, _, C_LJ_copy_ix cZ hk hp z1 z2 hl hh, C_Mo_copy_ix (hM1 _).2.2.1 hk hp z1 z2 hl hh, hF 3⟩
            · have hh' : (hcB (i3 (zs k - 1)) u y && hcB (i3 (zs p - 1)) w y) = true := by simpa using hh
              rw [Bool.and_eq_true] at hh'
              have zk := (cZ k hk).1
              have zp := (cZ p hp).1
              obtain ⟨a, m, rfl, rfl, h1⟩ := hc_nat (by omega) hh'.1
              obtain ⟨b, m', rfl, e, h2⟩ := hc_nat (by omega) hh'.2
              have e2 : m = m' := (i3_inj (by omega) (by omega)).mp e
              subst e2
              have hM2 : MIV (cpM (upM M 2 6 0) (29 + 2 * k) (29 + 2 * p) a b m) n nd J B zs ln C rc rj rt tr fa := (hM1 0).eq (fun q hq i => if_neg (by omega))
              exact ⟨_, _, _, C_LJ_copy_ok cZ hk hp z1 z2 hl h1 h2, C_Mo_copy_ok hM2.2.2.1 hk hp z1 z2 hl h1 h2, ⟨n, nd, J, B, zs, ln, cyC C k p a b m, rc, rj, rt, tr, 0, (hC.copy hk hp z1 h1).eq (fun q hq i => by rw [upM_ne (by omega), rwF_ne (by omega), cpF_ne (by omega)]), hM2.copy hk hp z1 h1 h2, hO⟩⟩
          · exact ⟨_, _, _, C_LJ_copy_cast cZ hk hp z1 z2 hl, C_Mo_copy_cast (hM1 _).2.2.1 hk hp z1 z2 hl, hF 2⟩
