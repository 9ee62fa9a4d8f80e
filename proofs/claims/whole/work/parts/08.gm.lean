/-! The rows over the one heap behind the constructors (its shape and its references stay), contracts that name answer and heap. -/
def SZ : Nat := (SH.map shS).sum
abbrev CM (X : CX) (own : String) (cc : ByteArray) (nL d : Nat) : Prop := CO X own cc nL d 0 0 SH.length SZ
def AF (y : MethodName) (cc : ByteArray) (nL : Nat) (ret : Option FieldType) (d : Nat) (as : List AV) (M : MM) (o : Option AV) (M1 : MM) : Prop := AMet y cc nL ret d 0 0 as (gM M) (fun r G' => r = o ∧ G' = gM M1)
abbrev RF (X : CX) (ret : Option FieldType) (o : Option AV) (M1 : MM) : Prop := RT X ret 0 0 (fun r G' => r = o ∧ G' = gM M1)
theorem AF.of {y : MethodName} {cc : ByteArray} {nL : Nat} {ret : Option FieldType} {n d : Nat} {as : List AV} {M M1 : MM} {o : Option AV} (hk : YI y cc nL ret n) {lo : List (Option AV)} (hlo : ent as ++ List.replicate (nL - (ent as).length) none = lo) (hle : (ent as).length ≤ nL)
    (body : ∀ X : CX, CM X y.cls cc nL d → RF X ret o M1 → VW X 0 lo [] (gM M)) : AF y cc nL ret d as M o M1 :=
  AMet.of hk hlo hle (fun X hX hR _ => body X hX hR)
def bI (b : Bool) : Int32 := if b = true then 1 else 0
theorem narrow_bI (b : Bool) : narrow .boolean (.int (bI b)) = .int (bI b) := by cases b <;> rfl
abbrev i3 (k : Nat) : Int32 := Int32.ofNat k
/-- i is place j of a row of n -/
def IX (i : Int32) (j n : Nat) : Prop := i.toNatClampNeg = j ∧ ¬ i < 0 ∧ j < n
theorem IX.vp {i : Int32} {j n : Nat} (h : IX i j n) : vp_in i n := fun q => by
  obtain ⟨h1, h2, h3⟩ := h
  rcases q with q | q
  · exact h2 q
  · omega
theorem IX.mono {i : Int32} {j n n' : Nat} (h : IX i j n) (hn : n ≤ n') : IX i j n' := ⟨h.1, h.2.1, Nat.lt_of_lt_of_le h.2.2 hn⟩
theorem i3_int {k : Nat} (h : k < 2147483648) : (i3 k).toInt = (k : Int) := Int32.toInt_ofNat_of_lt h
theorem i3_lt {a b : Nat} (ha : a < 2147483648) (hb : b < 2147483648) : (i3 a < i3 b) ↔ a < b := by
  rw [Int32.lt_iff_toInt_lt, i3_int ha, i3_int hb]; omega
theorem i3_le {a b : Nat} (ha : a < 2147483648) (hb : b < 2147483648) : (i3 a ≤ i3 b) ↔ a ≤ b := by
  rw [Int32.le_iff_toInt_le, i3_int ha, i3_int hb]; omega
theorem i3_inj {a b : Nat} (ha : a < 2147483648) (hb : b < 2147483648) : (i3 a = i3 b) ↔ a = b := by
  constructor
  · intro h
    have h := congrArg Int32.toInt h
    rw [i3_int ha, i3_int hb] at h
    omega
  · intro h; rw [h]
theorem i3_succ (k : Nat) : i3 (k + 1) = i3 k + 1 := Int32.ofNat_add k 1
theorem i3_add (a b : Nat) : i3 (a + b) = i3 a + i3 b := Int32.ofNat_add a b
theorem i3_mul (a b : Nat) : i3 (a * b) = i3 a * i3 b := Int32.ofNat_mul a b
theorem IX.of {k n : Nat} (h : k < n) (hn : n ≤ 1000) : IX (i3 k) k n := by
  have hk := i3_int (k := k) (by omega)
  refine ⟨?_, ?_, h⟩
  · show (i3 k).toInt.toNat = k
    rw [hk]; rfl
  · intro q
    have q := Int32.lt_iff_toInt_lt.mp q
    rw [hk, show (0 : Int32).toInt = 0 from rfl] at q
    omega
theorem sh_two {r ci : Nat} (hs : SH[r]? = some (0, ci)) : 2 ≤ r := by
  match r, hs with
  | 0, hs => cases hs
  | 1, hs => cases hs
  | r + 2, _ => omega
theorem sh_two' {r n : Nat} (hs : SH[r]? = some (1, n)) (hn : n ≠ 0) : 2 ≤ r := by
  match r, hs with
  | 0, hs => cases hs; exact absurd rfl hn
  | 1, hs => cases hs; exact absurd rfl hn
  | r + 2, _ => omega
def fgl : List Bool → List (Option AV) → List (Option AV)
  | true :: m, x :: l => x :: fgl m l
  | false :: m, _ :: l => none :: fgl m l
  | [], l => l
  | _ :: _, [] => []
theorem fgl_len : ∀ (m : List Bool) (l : List (Option AV)), (fgl m l).length = l.length
  | true :: m, x :: l => by simp [fgl, fgl_len m l]
  | false :: m, x :: l => by simp [fgl, fgl_len m l]
  | [], l => by simp [fgl]
  | true :: _, [] => rfl
  | false :: _, [] => rfl
theorem fgl_at : ∀ (m : List Bool) (l : List (Option AV)) (k : Nat) (v : AV), (fgl m l)[k]? = some (some v) → l[k]? = some (some v)
  | true :: m, x :: l, 0, v, h => h
  | true :: m, x :: l, k + 1, v, h => fgl_at m l k v h
  | false :: m, x :: l, 0, v, h => by cases h
  | false :: m, x :: l, k + 1, v, h => fgl_at m l k v h
  | [], l, k, v, h => by simpa [fgl] using h
  | true :: _, [], k, v, h => h
  | false :: _, [], k, v, h => h
/-- locals forgotten -/
theorem VW.fg {X : CX} {pc : Nat} {lo : List (Option AV)} {st : List AV} {G : GG} (m : List Bool) (k : VW X pc (fgl m lo) st G) : VW X pc lo st G := VW.less (fgl_len m lo) (fgl_at m lo) k
section GMR
variable {X : CX} {own : String} {cc : ByteArray} {nL d : Nat} {pc : Nat} {lo : List (Option AV)} {st : List AV} {M M1 : MM}
theorem g_getI (hX : CM X own cc nL d) {idx ci k r : Nat} (hf : FL own idx ci k) (ht : rsT ci k = false) (hs : SH[r]? = some (0, ci)) (hd : decode cc pc = .ok (.getfield idx, 3)) (kk : VW X (pc + 3) lo (vI (M r k) :: st) (gM M)) : VW X pc lo (vR r :: st) (gM M) :=
  v_getI hX hf ht (sh_two hs) hs hd kk
theorem g_getR (hX : CM X own cc nL d) {idx ci k r v : Nat} (hf : FL own idx ci k) (ht : rsT ci k = true) (hs : SH[r]? = some (0, ci)) (hv : NF r k = v) (hd : decode cc pc = .ok (.getfield idx, 3)) (kk : VW X (pc + 3) lo (vR v :: st) (gM M)) : VW X pc lo (vR r :: st) (gM M) :=
  w_getR hX hf ht (sh_two hs) hs hv hd kk
theorem g_putI (hX : CM X own cc nL d) {idx ci k r : Nat} {x : Int32} (hf : FL own idx ci k) (ht : rsT ci k = false) (hfin : ∀ q : vw_C, CL[ci]? = some q → (q.2.1 k).2.2.2 = false) (hs : SH[r]? = some (0, ci)) (hn : narrow (tyF ci k) (.int x) = .int x) (hfit : fits (tyF ci k) (.int x) = true) (hd : decode cc pc = .ok (.putfield idx, 3)) (kk : VW X (pc + 3) lo st (gM (upM M r k x))) : VW X pc lo (vI x :: vR r :: st) (gM M) :=
  v_putI hX hf ht hfin (sh_two hs) hs hn hfit hd kk
theorem g_iald (hX : CM X own cc nL d) {r n j : Nat} {i : Int32} (hs : SH[r]? = some (1, n)) (hi : IX i j n) (hd : decode cc pc = .ok (.iaload, 1)) (kk : VW X (pc + 1) lo (vI (M r j) :: st) (gM M)) : VW X pc lo (vI i :: vR r :: st) (gM M) := by
  refine v_iald hX (sh_two' hs (fun e => by have := hi.2.2; omega)) hs hi.vp hd ?_
  rw [hi.1]
  exact kk
theorem g_iast (hX : CM X own cc nL d) {r n j : Nat} {i x : Int32} (hs : SH[r]? = some (1, n)) (hi : IX i j n) (hd : decode cc pc = .ok (.iastore, 1)) (kk : VW X (pc + 1) lo st (gM (upM M r j x))) : VW X pc lo (vI x :: vI i :: vR r :: st) (gM M) := by
  refine v_iast hX (sh_two' hs (fun e => by have := hi.2.2; omega)) hs hi.vp hd ?_
  rw [hi.1]
  exact kk
theorem g_aald (hX : CM X own cc nL d) {r c n j v : Nat} {i : Int32} (hcc : c = 0 ∨ c = 1 ∨ c = 5) (h2 : 2 ≤ r) (hs : SH[r]? = some (c + 2, n)) (hi : IX i j n) (hv : NF r j = v) (hd : decode cc pc = .ok (.aaload, 1)) (kk : VW X (pc + 1) lo (vR v :: st) (gM M)) : VW X pc lo (vI i :: vR r :: st) (gM M) := by
  refine v_aald hX hcc h2 hs hi.vp hd ?_
  rw [hi.1]
  subst hv
  exact kk
theorem g_alen (hX : CM X own cc nL d) {r n : Nat} {v : Int32} (hs : SH[r]? = some (1, n)) (hn : n ≠ 0) (hv : Int32.ofNat n = v) (hd : decode cc pc = .ok (.arraylength, 1)) (kk : VW X (pc + 1) lo (vI v :: st) (gM M)) : VW X pc lo (vR r :: st) (gM M) :=
  v_alen hX (sh_two' hs hn) hs hv hd kk
theorem g_max (hX : CM X own cc nL d) {idx : Nat} {x y : Int32} (hl : Cond.methodLink own idx Lib.Math.max.name ∈ GW) (hlo : lo.length = nL) (hrm : 1 ≤ d) (hc : (st.map catA).sum ≤ 8) (hd : decode cc pc = .ok (.invokestatic idx, 3)) (kk : VW X (pc + 3) lo (vI (if x < y then y else x) :: st) (gM M)) : VW X pc lo (vI y :: vI x :: st) (gM M) :=
  v_max hX hl hlo ⟨hrm, hc, Nat.le_refl _, Nat.le_refl _⟩ hd kk
theorem f_iret (hX : CM X own cc nL d) {v v' : Int32} (hR : RF X (some .int) (some (vI v')) M1) (hv : v = v') (hM : M = M1) (hd : decode cc pc = .ok (.ireturn, 1)) : VW X pc lo [vI v] (gM M) :=
  v_iret hX hR rfl rfl ⟨by rw [hv], by rw [hM]⟩ hd
theorem f_zret (hX : CM X own cc nL d) {v : Int32} {b : Bool} (hR : RF X (some .boolean) (some (vI (bI b))) M1) (hv : v = bI b) (hM : M = M1) (hd : decode cc pc = .ok (.ireturn, 1)) : VW X pc lo [vI v] (gM M) := by
  subst hv
  exact v_zret hX hR (narrow_bI b) rfl rfl ⟨rfl, by rw [hM]⟩ hd
theorem f_lret (hX : CM X own cc nL d) {v v' : Int64} (hR : RF X (some .long) (some (vL v')) M1) (hv : v = v') (hM : M = M1) (hd : decode cc pc = .ok (.lreturn, 1)) : VW X pc lo [vL v] (gM M) :=
  v_lret hX hR rfl rfl ⟨by rw [hv], by rw [hM]⟩ hd
theorem f_aret (hX : CM X own cc nL d) {r r' : Nat} {cn : String} (hR : RF X (some (.object cn)) (some (vR r')) M1) (hv : r = r') (hM : M = M1) (hd : decode cc pc = .ok (.areturn, 1)) : VW X pc lo [vR r] (gM M) :=
  v_aret hX hR rfl rfl ⟨by rw [hv], by rw [hM]⟩ hd
theorem f_vret (hX : CM X own cc nL d) (hR : RF X none none M1) (hM : M = M1) (hd : decode cc pc = .ok (.return_, 1)) : VW X pc lo [] (gM M) :=
  v_vret hX hR rfl rfl ⟨rfl, by rw [hM]⟩ hd
theorem f_callS (hX : CM X own cc nL d) {y : MethodName} {bytes : ByteArray} {maxL n idx d' : Nat} {ret : Option FieldType} {as S : List AV} {v : AV} (hk : YI y bytes maxL ret n) (hs : Cond.static y ∈ GW) (hl : Cond.methodLink own idx y ∈ GW) (hM : AF y bytes maxL ret d' as M (some v) M1) (hst : S = as.reverse ++ st) (hn : as.length = n) (hlo : lo.length = nL) (r1 : d' + 1 ≤ d) (r2 : maxL ≤ 21) (r3 : (st.map catA).sum ≤ 8) (hd : decode cc pc = .ok (.invokestatic idx, 3)) (k : VW X (pc + 3) lo (v :: st) (gM M1)) : VW X pc lo S (gM M) :=
  v_callS hX hk hs hl hM hst hn hlo ⟨r1, r2, r3, Nat.le_refl _, Nat.le_refl _⟩ (fun r G' h => by rw [h.2]; exact ⟨rfl, rfl⟩) hd (fun r G' h => by obtain ⟨rfl, rfl⟩ := h; exact k)
theorem f_callS0 (hX : CM X own cc nL d) {y : MethodName} {bytes : ByteArray} {maxL n idx d' : Nat} {ret : Option FieldType} {as S : List AV} (hk : YI y bytes maxL ret n) (hs : Cond.static y ∈ GW) (hl : Cond.methodLink own idx y ∈ GW) (hM : AF y bytes maxL ret d' as M none M1) (hst : S = as.reverse ++ st) (hn : as.length = n) (hlo : lo.length = nL) (r1 : d' + 1 ≤ d) (r2 : maxL ≤ 21) (r3 : (st.map catA).sum ≤ 8) (hd : decode cc pc = .ok (.invokestatic idx, 3)) (k : VW X (pc + 3) lo st (gM M1)) : VW X pc lo S (gM M) :=
  v_callS hX hk hs hl hM hst hn hlo ⟨r1, r2, r3, Nat.le_refl _, Nat.le_refl _⟩ (fun r G' h => by rw [h.2]; exact ⟨rfl, rfl⟩) hd (fun r G' h => by obtain ⟨rfl, rfl⟩ := h; exact k)
theorem f_callN (hX : CM X own cc nL d) {bytes : ByteArray} {maxL n idx d' : Nat} {ret : Option FieldType} {as S : List AV} {v : AV} (hk : YI y_LJ_isBelow bytes maxL ret n) (hs : Cond.static y_LJ_isBelow ∈ GW) (hq : (own, idx) ∈ NWs) (hM : AF y_LJ_isBelow bytes maxL ret d' as M (some v) M1) (hst : S = as.reverse ++ st) (hn : as.length = n) (hlo : lo.length = nL) (r1 : d' + 1 ≤ d) (r2 : maxL ≤ 21) (r3 : (st.map catA).sum ≤ 8) (hd : decode cc pc = .ok (.invokestatic idx, 3)) (k : VW X (pc + 3) lo (v :: st) (gM M1)) : VW X pc lo S (gM M) :=
  v_callN hX hk hs hq hM hst hn hlo ⟨r1, r2, r3, Nat.le_refl _, Nat.le_refl _⟩ (fun r G' h => by rw [h.2]; exact ⟨rfl, rfl⟩) hd (fun r G' h => by obtain ⟨rfl, rfl⟩ := h; exact k)
theorem f_callV (hX : CM X own cc nL d) {y : MethodName} {C : String} {bytes : ByteArray} {maxL n idx d' r ci : Nat} {ret : Option FieldType} {as S : List AV} {v : AV} (hk : YI y bytes maxL ret n) (hi : Cond.instanceMethod y ∈ GW) (hs : Cond.selects C y y ∈ GW) (hl : Cond.methodLink own idx y ∈ GW) (hM : AF y bytes maxL ret d' (vR r :: as) M (some v) M1) (hsr : SH[r]? = some (0, ci)) (hC : cNm ci = C) (hst : S = as.reverse ++ vR r :: st) (hn : as.length = n) (hlo : lo.length = nL) (r1 : d' + 1 ≤ d) (r2 : maxL ≤ 21) (r3 : (st.map catA).sum ≤ 8) (hd : decode cc pc = .ok (.invokevirtual idx, 3)) (k : VW X (pc + 3) lo (v :: st) (gM M1)) : VW X pc lo S (gM M) :=
  v_callV hX hk hi hs hl hM (sh_two hsr) hsr (fun q hq => by rw [← hC]; simp [cNm, hq]) hst hn hlo ⟨r1, r2, r3, Nat.le_refl _, Nat.le_refl _⟩ (fun r G' h => by rw [h.2]; exact ⟨rfl, rfl⟩) hd (fun r G' h => by obtain ⟨rfl, rfl⟩ := h; exact k)
theorem f_callV0 (hX : CM X own cc nL d) {y : MethodName} {C : String} {bytes : ByteArray} {maxL n idx d' r ci : Nat} {ret : Option FieldType} {as S : List AV} (hk : YI y bytes maxL ret n) (hi : Cond.instanceMethod y ∈ GW) (hs : Cond.selects C y y ∈ GW) (hl : Cond.methodLink own idx y ∈ GW) (hM : AF y bytes maxL ret d' (vR r :: as) M none M1) (hsr : SH[r]? = some (0, ci)) (hC : cNm ci = C) (hst : S = as.reverse ++ vR r :: st) (hn : as.length = n) (hlo : lo.length = nL) (r1 : d' + 1 ≤ d) (r2 : maxL ≤ 21) (r3 : (st.map catA).sum ≤ 8) (hd : decode cc pc = .ok (.invokevirtual idx, 3)) (k : VW X (pc + 3) lo st (gM M1)) : VW X pc lo S (gM M) :=
  v_callV hX hk hi hs hl hM (sh_two hsr) hsr (fun q hq => by rw [← hC]; simp [cNm, hq]) hst hn hlo ⟨r1, r2, r3, Nat.le_refl _, Nat.le_refl _⟩ (fun r G' h => by rw [h.2]; exact ⟨rfl, rfl⟩) hd (fun r G' h => by obtain ⟨rfl, rfl⟩ := h; exact k)
theorem f_ifeqB (hX : CM X own cc nL d) {b : Bool} {off : Int} {tgt : Nat} (hd : decode cc pc = .ok (.ifCond .eq off, 3)) (ht : (pc : Int) + off = (tgt : Int)) (kt : b = false → VW X tgt lo st (gM M)) (kf : b = true → VW X (pc + 3) lo st (gM M)) : VW X pc lo (vI (bI b) :: st) (gM M) :=
  v_if_eq hX hd ht (fun hc => kt (by cases b; rfl; exact absurd hc (by decide))) (fun hc => kf (by cases b; exact absurd rfl hc; rfl))
theorem f_ifneB (hX : CM X own cc nL d) {b : Bool} {off : Int} {tgt : Nat} (hd : decode cc pc = .ok (.ifCond .ne off, 3)) (ht : (pc : Int) + off = (tgt : Int)) (kt : b = true → VW X tgt lo st (gM M)) (kf : b = false → VW X (pc + 3) lo st (gM M)) : VW X pc lo (vI (bI b) :: st) (gM M) :=
  v_if_ne hX hd ht (fun hc => kt (by cases b; exact absurd rfl hc; rfl)) (fun hc => kf (by cases b; rfl; exact absurd hc (by decide)))
/-- a counted loop: what holds at its head before turn k -/
theorem v_for {head : Nat} (n : Nat) (L : Nat → List (Option AV)) (K : Nat → MM) (hstep : ∀ k, k < n → VW X head (L (k + 1)) [] (gM (K (k + 1))) → VW X head (L k) [] (gM (K k))) (hend : VW X head (L n) [] (gM (K n))) : VW X head (L 0) [] (gM (K 0)) := by
  have h : ∀ m k, k + m = n → VW X head (L k) [] (gM (K k)) := by
    intro m
    induction m with
    | zero => intro k hk; rw [show k = n by omega]; exact hend
    | succ m ih => intro k hk; exact hstep k (by omega) (ih (k + 1) (by omega))
  exact h n 0 (by omega)
/-- the same, with what is known at the head before turn k -/
theorem v_forI {head : Nat} (n : Nat) (L : Nat → List (Option AV)) (K : Nat → MM) (J : Nat → Prop) (h0 : J 0) (hstep : ∀ k, k < n → J k → (J (k + 1) → VW X head (L (k + 1)) [] (gM (K (k + 1)))) → VW X head (L k) [] (gM (K k))) (hend : J n → VW X head (L n) [] (gM (K n))) : VW X head (L 0) [] (gM (K 0)) := by
  have h : ∀ m k, k + m = n → J k → VW X head (L k) [] (gM (K k)) := by
    intro m
    induction m with
    | zero => intro k hk; rw [show k = n by omega]; exact hend
    | succ m ih => intro k hk hJ; exact hstep k (by omega) hJ (ih (k + 1) (by omega))
  exact h n 0 (by omega) h0
end GMR
-- ranges
def rg (x : Int32) (l h : Int) : Bool := decide (l ≤ x.toInt) && decide (x.toInt ≤ h)
theorem rg_true {x : Int32} {l h : Int} : rg x l h = true ↔ l ≤ x.toInt ∧ x.toInt ≤ h := by simp [rg]
theorem rg_in {x : Int32} {n : Nat} (hn : n ≤ 1000) (h : rg x 0 ((n : Int) - 1) = true) : ∃ k, k < n ∧ x = i3 k := by
  obtain ⟨h1, h2⟩ := rg_true.mp h
  refine ⟨x.toInt.toNat, by omega, ?_⟩
  apply Int32.toInt_inj.mp
  rw [i3_int (by omega)]
  omega
theorem rg_i3 {k n : Nat} (h : k < n) (hn : n ≤ 1000) : rg (i3 k) 0 ((n : Int) - 1) = true := by
  rw [rg_true, i3_int (by omega)]; omega
def fsum (f : Nat → Int32) : Nat → Int32
  | 0 => 0
  | k + 1 => fsum f k + f k
theorem upM_same {M : MM} {r k : Nat} {x : Int32} : upM M r k x r k = x := by simp [upM]
theorem upM_ne {M : MM} {r k a i : Nat} {x : Int32} (h : ¬ (a = r ∧ i = k)) : upM M r k x a i = M a i := by simp only [upM]; rw [if_neg h]
-- the references
theorem nf_jar : ∀ j, j < 6 → NF 4 j = 6 + j := by decide +kernel
theorem nf_dec : ∀ j, j < 4 → NF 5 j = 12 + j := by decide +kernel
theorem nf_sheet : ∀ j, j < 4 → NF 27 j = 28 + 2 * j := by decide +kernel
theorem nf_cells : ∀ j, j < 4 → NF (28 + 2 * j) 0 = 29 + 2 * j := by decide +kernel
theorem sh_jar : ∀ j, j < 6 → SH[6 + j]? = some (0, 1) := by decide +kernel
theorem sh_dec : ∀ j, j < 4 → SH[12 + j]? = some (0, 0) := by decide +kernel
theorem sh_sheet : ∀ j, j < 4 → SH[28 + 2 * j]? = some (0, 5) := by decide +kernel
theorem sh_cells : ∀ j, j < 4 → SH[29 + 2 * j]? = some (1, 60) := by decide +kernel
-- comparing ints by their values
theorem lt32 {x y : Int32} : x < y ↔ x.toInt < y.toInt := Int32.lt_iff_toInt_lt
theorem le32 {x y : Int32} : x ≤ y ↔ x.toInt ≤ y.toInt := Int32.le_iff_toInt_le
theorem eq32 {x y : Int32} : x = y ↔ x.toInt = y.toInt := Int32.toInt_inj.symm
theorem q_0 : (0 : Int32).toInt = 0 := rfl
theorem q_1 : (1 : Int32).toInt = 1 := rfl
theorem q_2 : (2 : Int32).toInt = 2 := rfl
theorem q_3 : (3 : Int32).toInt = 3 := rfl
theorem q_4 : (4 : Int32).toInt = 4 := rfl
theorem q_5 : (5 : Int32).toInt = 5 := rfl
theorem q_6 : (6 : Int32).toInt = 6 := rfl
theorem q_7 : (7 : Int32).toInt = 7 := rfl
theorem q_8 : (8 : Int32).toInt = 8 := rfl
theorem q_9 : (9 : Int32).toInt = 9 := rfl
theorem q_10 : (10 : Int32).toInt = 10 := rfl
theorem q_11 : (11 : Int32).toInt = 11 := rfl
theorem q_12 : (12 : Int32).toInt = 12 := rfl
theorem q_15 : (15 : Int32).toInt = 15 := rfl
theorem q_16 : (16 : Int32).toInt = 16 := rfl
theorem q_20 : (20 : Int32).toInt = 20 := rfl
theorem q_21 : (21 : Int32).toInt = 21 := rfl
theorem q_23 : (23 : Int32).toInt = 23 := rfl
theorem q_24 : (24 : Int32).toInt = 24 := rfl
theorem q_29 : (29 : Int32).toInt = 29 := rfl
theorem q_31 : (31 : Int32).toInt = 31 := rfl
theorem q_44 : (44 : Int32).toInt = 44 := rfl
theorem q_48 : (48 : Int32).toInt = 48 := rfl
theorem q_59 : (59 : Int32).toInt = 59 := rfl
theorem q_60 : (60 : Int32).toInt = 60 := rfl
theorem q_61 : (61 : Int32).toInt = 61 := rfl
theorem q_63 : (63 : Int32).toInt = 63 := rfl
theorem q_99 : (99 : Int32).toInt = 99 := rfl
theorem q_100 : (100 : Int32).toInt = 100 := rfl
theorem q_108 : (108 : Int32).toInt = 108 := rfl
theorem q_112 : (112 : Int32).toInt = 112 := rfl
theorem q_116 : (116 : Int32).toInt = 116 := rfl
theorem q_119 : (119 : Int32).toInt = 119 := rfl
theorem q_240 : (240 : Int32).toInt = 240 := rfl
theorem q_m1 : (-1 : Int32).toInt = -1 := rfl
theorem q_m9 : (-9 : Int32).toInt = -9 := rfl
theorem v_top {X : CX} {pc : Nat} {lo : List (Option AV)} {st : List AV} {G : GG} {w : Int32} (k : ∀ y, w = y → VW X pc lo (vI y :: st) G) : VW X pc lo (vI w :: st) G := k w rfl
theorem look_out {dflt x : Int} {ps : List (Int × Int)} (h : ∀ q ∈ ps, q.1 ≠ x) : Op.lookupswitch.offset ps dflt x = dflt := by
  induction ps with
  | nil => rfl
  | cons q t ih =>
    have h1 := h q List.mem_cons_self
    have h2 := ih (fun q hq => h q (List.mem_cons_of_mem _ hq))
    simp only [Op.lookupswitch.offset] at h2 ⊢
    simp [List.find?_cons, h1, h2]
theorem bT {b : Bool} (h : b = true) : (1 : Int32) = bI b := by rw [h]; rfl
theorem bF {b : Bool} (h : b = false) : (0 : Int32) = bI b := by rw [h]; rfl
theorem rgT {x : Int32} {l h : Int} (q : l ≤ x.toInt ∧ x.toInt ≤ h) : (1 : Int32) = bI (rg x l h) := bT (rg_true.mpr q)
theorem rg_false {x : Int32} {l h : Int} : rg x l h = false ↔ ¬ (l ≤ x.toInt ∧ x.toInt ≤ h) := by rw [← rg_true]; simp
theorem rgF {x : Int32} {l h : Int} (q : ¬ (l ≤ x.toInt ∧ x.toInt ≤ h)) : (0 : Int32) = bI (rg x l h) := bF (rg_false.mpr q)
