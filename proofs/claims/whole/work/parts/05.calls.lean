/-! Contracts over the abstract frame, calls and returns. -/
def QA (z b : Nat) (D : va_G) (cy : Nat → ClassId) (P : Option AV → GG → Prop) : Array Value → State → Outcome → State → Prop :=
  fun _ st oc t => ∃ (r : Option AV) (G' : GG), oc = .returned (r.map (cv z b)) ∧ P r G' ∧ IH z b D cy G' t.heap ∧ ∀ q : Nat, q < z → t.heap[q]? = st.heap[q]?
def PA (z b : Nat) (D : va_G) (cy : Nat → ClassId) (as : List AV) (G : GG) : Array Value → State → Prop :=
  fun v U => v = (as.map (cv z b)).toArray ∧ IH z b D cy G U.heap ∧ KK D cy U
def rmA (d mc ms : Nat) : Room := { frames := d, cells := mc, slots := ms, locals := 40 * d }
def AMet (y : MethodName) (cc : ByteArray) (nL : Nat) (ret : Option FieldType) (d mc ms : Nat) (as : List AV) (G : GG) (P : Option AV → GG → Prop) : Prop :=
  ∀ (l : Launch) (z b : Nat) (D : va_G) (cy : Nat → ClassId), Met l y (Cond.code y cc nL ret :: GW) (rmA d mc ms) (PA z b D cy as G) (QA z b D cy P) mc ms (fun q => z ≤ q)
def RT (X : CX) (ret : Option FieldType) (mc ms : Nat) (P : Option AV → GG → Prop) : Prop := match X with
  | ((p, l, e, R, s, m, args, below, meth, c, Q), (z, b, n0, s0), D, cy) => meth.sig.returnType = ret ∧ Q = MQ below (QA z b D cy P) args s mc ms (fun q => z ≤ q)
def ent : List AV → List (Option AV)
  | [] => []
  | .inl x :: t => some (.inl x) :: ent t
  | .inr (.inl x) :: t => some (.inr (.inl x)) :: none :: ent t
  | .inr (.inr x) :: t => some (.inr (.inr x)) :: ent t
theorem asc_none (z b : Nat) : ∀ (n i : Nat), asc z b i (List.replicate n none) = []
  | 0, _ => rfl
  | n + 1, i => asc_none z b n (i + 1)
theorem asc_ent (z b n : Nat) : ∀ (as : List AV) (i : Nat), asc z b i (ent as ++ List.replicate n none) = lv_args i (as.map (cv z b))
  | [], i => asc_none z b n i
  | .inl x :: t, i => by
    show (i, cv z b (.inl x)) :: asc z b (i + 1) (ent t ++ List.replicate n none) = (i, cv z b (.inl x)) :: lv_args (i + 1) (t.map (cv z b))
    rw [asc_ent z b n t]
  | .inr (.inl x) :: t, i => by
    show (i, cv z b (.inr (.inl x))) :: asc z b (i + 2) (ent t ++ List.replicate n none) = (i, cv z b (.inr (.inl x))) :: lv_args (i + 2) (t.map (cv z b))
    rw [asc_ent z b n t]
  | .inr (.inr x) :: t, i => by
    show (i, cv z b (.inr (.inr x))) :: asc z b (i + 1) (ent t ++ List.replicate n none) = (i, cv z b (.inr (.inr x))) :: lv_args (if (cvR z b x).category = 2 then i + 2 else i + 1) (t.map (cv z b))
    rw [asc_ent z b n t, if_neg (by rw [cvR_cat]; decide)]
theorem ent_len (z b : Nat) : ∀ (as : List AV), (lg_sl (as.map (cv z b))).length = (ent as).length
  | [] => rfl
  | .inl x :: t => by
    have h := ent_len z b t
    simp only [lg_sl, List.map_cons, List.flatMap_cons] at h ⊢
    rw [if_neg (by rw [cv_cat]; simp [catA]), List.length_append, h]
    simp [ent]; omega
  | .inr (.inl x) :: t => by
    have h := ent_len z b t
    simp only [lg_sl, List.map_cons, List.flatMap_cons] at h ⊢
    rw [if_pos (by rw [cv_cat]; simp [catA]), List.length_append, h]
    simp [ent]; omega
  | .inr (.inr x) :: t => by
    have h := ent_len z b t
    simp only [lg_sl, List.map_cons, List.flatMap_cons] at h ⊢
    rw [if_neg (by rw [cv_cat]; simp [catA]), List.length_append, h]
    simp [ent]; omega
theorem IH.zle {z b : Nat} {D : va_G} {cy : Nat → ClassId} {G : GG} {H : Heap} (h : IH z b D cy G H) : z ≤ H.size := by
  have h1 := h.1
  have h2 := h.2.1
  omega
/-- a contract out of the walk of the body -/
theorem AMet.of {y : MethodName} {cc : ByteArray} {nL : Nat} {ret : Option FieldType} {n d mc ms : Nat} {as : List AV} {G : GG} {P : Option AV → GG → Prop} (hk : YI y cc nL ret n) {lo : List (Option AV)} (hlo : ent as ++ List.replicate (nL - (ent as).length) none = lo) (hle : (ent as).length ≤ nL)
    (body : ∀ X : CX, CO X y.cls cc nL d mc ms (gC G) (gS G) → RT X ret mc ms P → (y.name = "<init>" → CI X) → VW X 0 lo [] G) : AMet y cc nL ret d mc ms as G P := by
  intro l z b D cy
  refine Met.ofW (cc := cc) (maxL := nL) (ret := ret) hk.2.2.2 rfl ?_
  intro p e s m args below meth c s₁ B hml hv
  obtain ⟨rfl, hI, hK⟩ := hv
  have hts := atoms_spec (ws := Cond.code y cc nL ret :: GW) B.pre
  have hown : s.vm.findClass y.cls = some m.cls := findClass_of_methodNamed B.named
  have hl := lv_entry (as.map (cv z b)) (n := nL) (by rw [ent_len]; exact hle)
  rw [lg_entry_eq]
  have h := body ((p, l, e, rmA d mc ms, s, m, (as.map (cv z b)).toArray, below, meth, c, MQ below (QA z b D cy P) (as.map (cv z b)).toArray s mc ms (fun q => z ≤ q)), (z, b, gC G, gS G), D, cy)
    ⟨B.exec, B.bytes, hml, hown, fun w hw => hts w (List.mem_cons_of_mem _ hw), hK, B.notSynchronized, ⟨Nat.le_refl _, Nat.le_refl _, Nat.le_refl _, Nat.le_refl _⟩, rfl, rfl, hI.zle⟩ ⟨B.returns, rfl⟩
    (fun hn => (name_of_methodNamed B.named B.method).1.trans hn)
  refine h s.heap [] _ 0 0 hI (fun _ _ => rfl) (fun _ h => by cases h) (Nat.zero_add _) (Nat.zero_add _) ?_
  unfold LR
  rw [← hlo, asc_ent, List.length_append, List.length_replicate, show (ent as).length + (nL - (ent as).length) = nL by omega]
  exact hl
section CALLS
variable {X : CX} {own : String} {cc : ByteArray} {nL d mc ms n1 s1 : Nat} {pc : Nat} {lo : List (Option AV)} {st : List AV} {G : GG}
theorem v_iret (hX : CO X own cc nL d mc ms n1 s1) {P : Option AV → GG → Prop} (hR : RT X (some .int) mc ms P) {v : Int32} (hC : gC G = n1 + mc) (hS : gS G = s1 + ms) (hp : P (some (vI v)) G) (hd : decode cc pc = .ok (.ireturn, 1)) : VW X pc lo [vI v] G := by
  obtain ⟨⟨p, l, e, R, s, m, args, below, meth, c, Q⟩, ⟨z, b, n0, s0⟩, D, cy⟩ := X
  obtain ⟨hx, hb, hml, hown, hts, hK, hlk, hRm, e1, e2, hz⟩ := hX
  obtain ⟨hr, hQ⟩ := hR
  intro H locs ls cells slots h1 h2 h3 h4 h5 h6
  obtain rfl : cells = mc := by omega
  obtain rfl : slots = ms := by omega
  subst hQ
  exact W.iret hx hb hr (fun t ht hW => ⟨_, G, rfl, hp, by rw [ht]; exact h1, by rw [ht]; exact h2⟩) h3 hd hlk
theorem v_zret (hX : CO X own cc nL d mc ms n1 s1) {P : Option AV → GG → Prop} (hR : RT X (some .boolean) mc ms P) {v : Int32} (hn : narrow .boolean (.int v) = .int v) (hC : gC G = n1 + mc) (hS : gS G = s1 + ms) (hp : P (some (vI v)) G) (hd : decode cc pc = .ok (.ireturn, 1)) : VW X pc lo [vI v] G := by
  obtain ⟨⟨p, l, e, R, s, m, args, below, meth, c, Q⟩, ⟨z, b, n0, s0⟩, D, cy⟩ := X
  obtain ⟨hx, hb, hml, hown, hts, hK, hlk, hRm, e1, e2, hz⟩ := hX
  obtain ⟨hr, hQ⟩ := hR
  intro H locs ls cells slots h1 h2 h3 h4 h5 h6
  obtain rfl : cells = mc := by omega
  obtain rfl : slots = ms := by omega
  subst hQ
  exact W.zret hx hb hr hn (fun t ht hW => ⟨_, G, rfl, hp, by rw [ht]; exact h1, by rw [ht]; exact h2⟩) h3 hd hlk
theorem v_lret (hX : CO X own cc nL d mc ms n1 s1) {P : Option AV → GG → Prop} (hR : RT X (some .long) mc ms P) {v : Int64} (hC : gC G = n1 + mc) (hS : gS G = s1 + ms) (hp : P (some (vL v)) G) (hd : decode cc pc = .ok (.lreturn, 1)) : VW X pc lo [vL v] G := by
  obtain ⟨⟨p, l, e, R, s, m, args, below, meth, c, Q⟩, ⟨z, b, n0, s0⟩, D, cy⟩ := X
  obtain ⟨hx, hb, hml, hown, hts, hK, hlk, hRm, e1, e2, hz⟩ := hX
  obtain ⟨hr, hQ⟩ := hR
  intro H locs ls cells slots h1 h2 h3 h4 h5 h6
  obtain rfl : cells = mc := by omega
  obtain rfl : slots = ms := by omega
  subst hQ
  exact W.lret hx hb hr (fun t ht hW => ⟨_, G, rfl, hp, by rw [ht]; exact h1, by rw [ht]; exact h2⟩) h3 hd hlk
theorem v_vret (hX : CO X own cc nL d mc ms n1 s1) {P : Option AV → GG → Prop} (hR : RT X none mc ms P) (hC : gC G = n1 + mc) (hS : gS G = s1 + ms) (hp : P none G) (hd : decode cc pc = .ok (.return_, 1)) : VW X pc lo [] G := by
  obtain ⟨⟨p, l, e, R, s, m, args, below, meth, c, Q⟩, ⟨z, b, n0, s0⟩, D, cy⟩ := X
  obtain ⟨hx, hb, hml, hown, hts, hK, hlk, hRm, e1, e2, hz⟩ := hX
  obtain ⟨hr, hQ⟩ := hR
  intro H locs ls cells slots h1 h2 h3 h4 h5 h6
  obtain rfl : cells = mc := by omega
  obtain rfl : slots = ms := by omega
  subst hQ
  exact W.vret hx hb hr (fun t ht hW => ⟨none, G, rfl, hp, by rw [ht]; exact h1, by rw [ht]; exact h2⟩) h3 hd hlk
theorem v_aret (hX : CO X own cc nL d mc ms n1 s1) {P : Option AV → GG → Prop} {cn : String} (hR : RT X (some (.object cn)) mc ms P) {r : Nat} (hC : gC G = n1 + mc) (hS : gS G = s1 + ms) (hp : P (some (vR r)) G) (hd : decode cc pc = .ok (.areturn, 1)) : VW X pc lo [vR r] G := by
  obtain ⟨⟨p, l, e, R, s, m, args, below, meth, c, Q⟩, ⟨z, b, n0, s0⟩, D, cy⟩ := X
  obtain ⟨hx, hb, hml, hown, hts, hK, hlk, hRm, e1, e2, hz⟩ := hX
  obtain ⟨hr, hQ⟩ := hR
  intro H locs ls cells slots h1 h2 h3 h4 h5 h6
  obtain rfl : cells = mc := by omega
  obtain rfl : slots = ms := by omega
  subst hQ
  exact W.aret (v := cvR z b r) hx hb hr (Or.inl ⟨_, rfl⟩) (cvR_or z b r) (fun t ht hW => ⟨some (vR r), G, rfl, hp, by rw [ht]; exact h1, by rw [ht]; exact h2⟩) h3 hd hlk
theorem PA.blind (z b : Nat) (D : va_G) (cy : Nat → ClassId) (as : List AV) (G : GG) : FrameBlind (PA z b D cy as G) := fun a U g mk h => ⟨h.1, h.2.1, h.2.2.same rfl⟩
theorem back_run {p : Program} {l : Launch} {e : Env} {R : Room} {s : State} {m : MethodId} {args : Array Value} {below : List Frame} {meth : Method} {c : Code} {H : Heap} {locs : List Loc} {cells slots mc' ms' : Nat} {Q : State → Prop} {z b : Nat} {D : va_G} {cy : Nat → ClassId} {P : Option AV → GG → Prop} {ls : Array Slot} {st0 rest : List Value} {a : Array Value}
    (hr : va_Run p l e R s m args below meth c H locs cells slots mc' ms' (F0 m pc ls st0) rest (QA z b D cy P a) (fun q => z ≤ q)) (hlocs : ∀ q ∈ locs, z ≤ q.base)
    (kk : ∀ (r : Option AV) (G' : GG) (H1 : Heap) (locs1 : List Loc), P r G' → IH z b D cy G' H1 → (∀ q : Nat, q < z → H1[q]? = H[q]?) → (∀ q ∈ locs1, z ≤ q.base) → W p l e R s m args below meth c H1 locs1 (cells + mc') (slots + ms') Q (F0 m (pc + 3) ls ((r.map (cv z b)).toList ++ rest))) : W p l e R s m args below meth c H locs cells slots Q (F0 m pc ls st0) := by
  intro T hT X
  obtain ⟨v, st₀, t, T', L, h0, X', hL, e1, e2, ⟨r, G', hv, hp, hI, hk⟩, st⟩ := hr T hT X
  cases hv
  rw [h0] at hk
  obtain ⟨t2, a1, b1⟩ := kk r G' T'.heap (locs ++ L) hp (by rw [e1]; exact hI) (fun q hq => by rw [e1]; exact hk q hq) (fun q hq => by
      rcases List.mem_append.mp hq with h | h
      · exact hlocs q h
      · exact hL q h) T' rfl X'
  exact ⟨t2, st t2 a1, b1⟩
theorem catsum (z b : Nat) (st : List AV) : ((st.map (cv z b)).map fun v => v.category).sum = (st.map catA).sum := by
  rw [List.map_map]
  congr 1
  apply List.map_congr_left
  intro v _
  exact cv_cat z b v
/-- room for a call: the callee's frames, what lies below on the stack, what it makes -/
def RM (d d' maxL : Nat) (st : List AV) (G : GG) (mc' ms' n1 s1 mc ms : Nat) : Prop := d' + 1 ≤ d ∧ maxL ≤ 21 ∧ (st.map catA).sum ≤ 8 ∧ gC G + mc' ≤ n1 + mc ∧ gS G + ms' ≤ s1 + ms
theorem v_callS (hX : CO X own cc nL d mc ms n1 s1) {y : MethodName} {bytes : ByteArray} {maxL n idx d' mc' ms' : Nat} {ret : Option FieldType} {as S : List AV} {P : Option AV → GG → Prop} (hk : YI y bytes maxL ret n) (hs : Cond.static y ∈ GW) (hl : Cond.methodLink own idx y ∈ GW) (hM : AMet y bytes maxL ret d' mc' ms' as G P) (hst : S = as.reverse ++ st) (hn : as.length = n) (hlo : lo.length = nL) (hrm : RM d d' maxL st G mc' ms' n1 s1 mc ms)
    (hP : ∀ r G', P r G' → gC G' = gC G + mc' ∧ gS G' = gS G + ms') (hd : decode cc pc = .ok (.invokestatic idx, 3)) (k : ∀ r G', P r G' → VW X (pc + 3) lo (r.toList ++ st) G') : VW X pc lo S G := by
  subst hst
  obtain ⟨⟨p, l, e, R, s, m, args, below, meth, c, Q⟩, ⟨z, b, n0, s0⟩, D, cy⟩ := X
  obtain ⟨hx, hb, hml, hown, hts, hK, hlk, hRm, e1, e2, hz⟩ := hX
  obtain ⟨r1, r2, r3, r4, r5⟩ := hrm
  intro H locs ls cells slots h1 h2 h3 h4 h5 h6
  have hcb := callB_of (R := R) (s := s) (args := args) (own := own) (index := idx) (rm := rmA d' mc' ms') (mc := mc') (ms := ms') (ws := Cond.code y bytes maxL ret :: GW) n hts (fun w hw => by
      rcases List.mem_cons.mp hw with h | h
      · rw [h]; exact GW_good _ hk.1
      · exact GW_good _ h) rfl rfl rfl (hts _ hk.2.1) (hts _ hl) hk.2.2.1 ⟨by show d' + 1 ≤ _; omega, by show 8 + (maxL + 11) + 40 * d' ≤ _; omega⟩
  have hrun := va_runS (e := e) (below := below) (meth := meth) (locs := locs) (cells := cells) (slots := slots) (g := F0 m pc ls ((as.reverse ++ st).map (cv z b))) (rest := st.map (cv z b)) ⟨hx, hb, hml, hown, hts⟩ (hM l z b D cy) ⟨hcb, hts _ hs⟩ (As := as.map (cv z b)) (H := H) ⟨PA.blind z b D cy as G, fun U hU hW => ⟨rfl, by rw [hU]; exact h1, hK.warm hW⟩⟩ rfl (by rw [List.length_map]; exact hn) (show ls.size = nL by rw [h6.1, hlo]) (by show (as.reverse ++ st).map (cv z b) = _; rw [List.map_append, List.map_reverse]) (by show 2 * 0 + _ ≤ 8; rw [catsum]; omega) hd ⟨by omega, by omega⟩
  refine back_run hrun h3 fun r G' H1 locs1 hp hI hq hL => ?_
  obtain ⟨c1, c2⟩ := hP r G' hp
  have := k r G' hp H1 locs1 ls (cells + mc') (slots + ms') hI (fun q hq' => (hq q hq').trans (h2 q hq')) hL (by omega) (by omega) h6
  rw [List.map_append] at this
  rw [show (r.map (cv z b)).toList = r.toList.map (cv z b) by cases r <;> rfl]
  exact this
theorem v_callN (hX : CO X own cc nL d mc ms n1 s1) {bytes : ByteArray} {maxL n idx d' mc' ms' : Nat} {ret : Option FieldType} {as S : List AV} {P : Option AV → GG → Prop} (hk : YI y_LJ_isBelow bytes maxL ret n) (hs : Cond.static y_LJ_isBelow ∈ GW) (hq : (own, idx) ∈ NWs) (hM : AMet y_LJ_isBelow bytes maxL ret d' mc' ms' as G P) (hst : S = as.reverse ++ st) (hn : as.length = n) (hlo : lo.length = nL) (hrm : RM d d' maxL st G mc' ms' n1 s1 mc ms)
    (hP : ∀ r G', P r G' → gC G' = gC G + mc' ∧ gS G' = gS G + ms') (hd : decode cc pc = .ok (.invokestatic idx, 3)) (k : ∀ r G', P r G' → VW X (pc + 3) lo (r.toList ++ st) G') : VW X pc lo S G := by
  subst hst
  obtain ⟨⟨p, l, e, R, s, m, args, below, meth, c, Q⟩, ⟨z, b, n0, s0⟩, D, cy⟩ := X
  obtain ⟨hx, hb, hml, hown, hts, hK, hlk, hRm, e1, e2, hz⟩ := hX
  obtain ⟨r1, r2, r3, r4, r5⟩ := hrm
  intro H locs ls cells slots h1 h2 h3 h4 h5 h6
  have hcb := va_cnB (R := R) (s := s) (args := args) (own := own) (index := idx) (rm := rmA d' mc' ms') (mc := mc') (ms := ms') (ws := Cond.code y_LJ_isBelow bytes maxL ret :: GW) n hts (fun w hw => by
      rcases List.mem_cons.mp hw with h | h
      · rw [h]; exact GW_good _ hk.1
      · exact GW_good _ h) rfl rfl rfl (hK.2.2.2.2 _ hq) (hts _ hk.2.1) hk.2.2.1 ⟨by show d' + 1 ≤ _; omega, by show 8 + (maxL + 11) + 40 * d' ≤ _; omega⟩
  have hrun := va_runSN (e := e) (below := below) (meth := meth) (locs := locs) (cells := cells) (slots := slots) (g := F0 m pc ls ((as.reverse ++ st).map (cv z b))) (rest := st.map (cv z b)) ⟨hx, hb, hml, hown, hts⟩ (hM l z b D cy) ⟨hcb, hts _ hs, trivial⟩ (As := as.map (cv z b)) (H := H) ⟨PA.blind z b D cy as G, fun U hU hW => ⟨rfl, by rw [hU]; exact h1, hK.warm hW⟩⟩ rfl (by rw [List.length_map]; exact hn) (show ls.size = nL by rw [h6.1, hlo]) (by show (as.reverse ++ st).map (cv z b) = _; rw [List.map_append, List.map_reverse]) (by show 2 * 0 + _ ≤ 8; rw [catsum]; omega) hd ⟨by omega, by omega⟩
  refine back_run hrun h3 fun r G' H1 locs1 hp hI hq hL => ?_
  obtain ⟨c1, c2⟩ := hP r G' hp
  have := k r G' hp H1 locs1 ls (cells + mc') (slots + ms') hI (fun q hq' => (hq q hq').trans (h2 q hq')) hL (by omega) (by omega) h6
  rw [List.map_append] at this
  rw [show (r.map (cv z b)).toList = r.toList.map (cv z b) by cases r <;> rfl]
  exact this
theorem v_callV (hX : CO X own cc nL d mc ms n1 s1) {y : MethodName} {C : String} {bytes : ByteArray} {maxL n idx d' mc' ms' r ci : Nat} {ret : Option FieldType} {as S : List AV} {P : Option AV → GG → Prop} (hk : YI y bytes maxL ret n) (hi : Cond.instanceMethod y ∈ GW) (hs : Cond.selects C y y ∈ GW) (hl : Cond.methodLink own idx y ∈ GW) (hM : AMet y bytes maxL ret d' mc' ms' (vR r :: as) G P) (h2r : 2 ≤ r) (hsr : G.1[r]? = some (0, ci)) (hC : ∀ q : vw_C, CL[ci]? = some q → q.1 = C) (hst : S = as.reverse ++ vR r :: st) (hn : as.length = n) (hlo : lo.length = nL) (hrm : RM d d' maxL st G mc' ms' n1 s1 mc ms)
    (hP : ∀ r G', P r G' → gC G' = gC G + mc' ∧ gS G' = gS G + ms') (hd : decode cc pc = .ok (.invokevirtual idx, 3)) (k : ∀ r G', P r G' → VW X (pc + 3) lo (r.toList ++ st) G') : VW X pc lo S G := by
  subst hst
  obtain ⟨⟨p, l, e, R, s, m, args, below, meth, c, Q⟩, ⟨z, b, n0, s0⟩, D, cy⟩ := X
  obtain ⟨hx, hb, hml, hown, hts, hK, hlk, hRm, e1, e2, hz⟩ := hX
  obtain ⟨r1, r2, r3, r4, r5⟩ := hrm
  intro H locs ls cells slots h1 h2 h3 h4 h5 h6
  have hcb := callB_of (R := R) (s := s) (args := args) (own := own) (index := idx) (rm := rmA d' mc' ms') (mc := mc') (ms := ms') (ws := Cond.code y bytes maxL ret :: GW) n hts (fun w hw => by
      rcases List.mem_cons.mp hw with h | h
      · rw [h]; exact GW_good _ hk.1
      · exact GW_good _ h) rfl rfl rfl (hts _ hk.2.1) (hts _ hl) hk.2.2.1 ⟨by show d' + 1 ≤ _; omega, by show 8 + (maxL + 11) + 40 * d' ≤ _; omega⟩
  obtain ⟨q, hq, cell, c1, c2, c3, c4⟩ := (h1.2.2 r (0, ci) h2r hsr).1 rfl
  have hfc := (hK.1.1 ci q hq).2.1
  rw [hC q hq] at hfc
  have hrun := va_runV (e := e) (below := below) (meth := meth) (locs := locs) (cells := cells) (slots := slots) (C := C) (g := F0 m pc ls ((as.reverse ++ vR r :: st).map (cv z b))) (rest := st.map (cv z b)) ⟨hx, hb, hml, hown, hts⟩ (hM l z b D cy) ⟨hcb, hts _ hi, hts _ hs⟩ (As := as.map (cv z b)) (H := H) (b := z + (r - 2)) ⟨PA.blind z b D cy _ G, ⟨cell, c1, by rw [c3]; rfl, by rw [c2]; exact hfc⟩, fun U hU hW => ⟨by rw [List.map_cons, show cv z b (vR r) = cvR z b r from rfl, cvR_2 h2r], by rw [hU]; exact h1, hK.warm hW⟩⟩ rfl (by rw [List.length_map]; exact hn) (show ls.size = nL by rw [h6.1, hlo]) (by show (as.reverse ++ vR r :: st).map (cv z b) = _; rw [List.map_append, List.map_reverse, List.map_cons, show cv z b (vR r) = cvR z b r from rfl, cvR_2 h2r]) (by show 2 * 0 + _ ≤ 8; rw [catsum]; omega) hd ⟨by omega, by omega⟩
  refine back_run hrun h3 fun r G' H1 locs1 hp hI hq hL => ?_
  obtain ⟨c1, c2⟩ := hP r G' hp
  have := k r G' hp H1 locs1 ls (cells + mc') (slots + ms') hI (fun q hq' => (hq q hq').trans (h2 q hq')) hL (by omega) (by omega) h6
  rw [List.map_append] at this
  rw [show (r.map (cv z b)).toList = r.toList.map (cv z b) by cases r <;> rfl]
  exact this
theorem v_callI (hX : CO X own cc nL d mc ms n1 s1) {y : MethodName} {bytes : ByteArray} {maxL n idx d' mc' ms' r : Nat} {as S : List AV} {P : Option AV → GG → Prop} (hk : YI y bytes maxL none n) (hy1 : y.name = "<init>") (hi : Cond.instanceMethod y ∈ GW) (hl : Cond.methodLink own idx y ∈ GW) (hM : AMet y bytes maxL none d' mc' ms' (vR r :: as) G P) (h2r : 2 ≤ r) (hst : S = as.reverse ++ vR r :: st) (hn : as.length = n) (hlo : lo.length = nL) (hrm : RM d d' maxL st G mc' ms' n1 s1 mc ms)
    (hP : ∀ r G', P r G' → gC G' = gC G + mc' ∧ gS G' = gS G + ms') (hd : decode cc pc = .ok (.invokespecial idx, 3)) (k : ∀ r G', P r G' → VW X (pc + 3) lo (r.toList ++ st) G') : VW X pc lo S G := by
  subst hst
  obtain ⟨⟨p, l, e, R, s, m, args, below, meth, c, Q⟩, ⟨z, b, n0, s0⟩, D, cy⟩ := X
  obtain ⟨hx, hb, hml, hown, hts, hK, hlk, hRm, e1, e2, hz⟩ := hX
  obtain ⟨r1, r2, r3, r4, r5⟩ := hrm
  intro H locs ls cells slots h1 h2 h3 h4 h5 h6
  have hcb := callB_of (R := R) (s := s) (args := args) (own := own) (index := idx) (rm := rmA d' mc' ms') (mc := mc') (ms := ms') (ws := Cond.code y bytes maxL none :: GW) n hts (fun w hw => by
      rcases List.mem_cons.mp hw with h | h
      · rw [h]; exact GW_good _ hk.1
      · exact GW_good _ h) rfl rfl rfl (hts _ hk.2.1) (hts _ hl) hk.2.2.1 ⟨by show d' + 1 ≤ _; omega, by show 8 + (maxL + 11) + 40 * d' ≤ _; omega⟩
  have hrun := va_runI (e := e) (below := below) (meth := meth) (locs := locs) (cells := cells) (slots := slots) (g := F0 m pc ls ((as.reverse ++ vR r :: st).map (cv z b))) (rest := st.map (cv z b)) ⟨hx, hb, hml, hown, hts⟩ (hM l z b D cy) ⟨hcb, hy1, hts _ hi⟩ (As := as.map (cv z b)) (H := H) (b := z + (r - 2)) ⟨PA.blind z b D cy _ G, fun U hU hW => ⟨by rw [List.map_cons, show cv z b (vR r) = cvR z b r from rfl, cvR_2 h2r], by rw [hU]; exact h1, hK.warm hW⟩⟩ rfl (by rw [List.length_map]; exact hn) (show ls.size = nL by rw [h6.1, hlo]) (by show (as.reverse ++ vR r :: st).map (cv z b) = _; rw [List.map_append, List.map_reverse, List.map_cons, show cv z b (vR r) = cvR z b r from rfl, cvR_2 h2r]) (by show 2 * 0 + _ ≤ 8; rw [catsum]; omega) hd ⟨by omega, by omega⟩
  refine back_run hrun h3 fun r G' H1 locs1 hp hI hq hL => ?_
  obtain ⟨c1, c2⟩ := hP r G' hp
  have := k r G' hp H1 locs1 ls (cells + mc') (slots + ms') hI (fun q hq' => (hq q hq').trans (h2 q hq')) hL (by omega) (by omega) h6
  rw [List.map_append] at this
  rw [show (r.map (cv z b)).toList = r.toList.map (cv z b) by cases r <;> rfl]
  exact this
end CALLS
