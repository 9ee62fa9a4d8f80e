abbrev CX : Type := (Program × Launch × Env × Room × State × MethodId × Array Value × List Frame × Method × Code × (State → Prop)) × (Nat × Nat × Nat × Nat) × va_G × (Nat → ClassId)
def VW (X : CX) (pc : Nat) (lo : List (Option AV)) (st : List AV) (G : GG) : Prop := match X with
  | ((p, l, e, R, s, m, args, below, meth, c, Q), (z, b, n0, s0), D, cy) => ∀ (H : Heap) (locs : List Loc) (ls : Array Slot) (cells slots : Nat), IH z b D cy G H → (∀ q : Nat, q < z → H[q]? = s.heap[q]?) → (∀ q ∈ locs, z ≤ q.base) → cells + n0 = gC G → slots + s0 = gS G → LR z b ls lo → W p l e R s m args below meth c H locs cells slots Q (F0 m pc ls (st.map (cv z b)))
def CO (X : CX) (own : String) (cc : ByteArray) (nL d mc ms n1 s1 : Nat) : Prop := match X with
  | ((p, l, e, R, s, m, args, below, meth, c, Q), (z, b, n0, s0), D, cy) => p.tables.exec = Jvm.exec ∧ c.code = cc ∧ c.maxLocals = nL ∧ s.vm.findClass own = some m.cls ∧ (∀ w ∈ GW, w.before args s = true) ∧ KK D cy s ∧ meth.locks = false ∧ (d ≤ R.frames ∧ 40 * d ≤ R.locals ∧ mc ≤ R.cells ∧ ms ≤ R.slots) ∧ n0 = n1 ∧ s0 = s1 ∧ z ≤ s.heap.size
section ROWS
variable {X : CX} {own : String} {cc : ByteArray} {nL d mc ms n1 s1 : Nat} {pc : Nat} {lo : List (Option AV)} {st : List AV} {G : GG}
theorem VW.less {lo' : List (Option AV)} (hl : lo'.length = lo.length) (hs : ∀ (k : Nat) (v : AV), lo'[k]? = some (some v) → lo[k]? = some (some v)) (k : VW X pc lo' st G) : VW X pc lo st G := by
  obtain ⟨⟨p, l, e, R, s, m, args, below, meth, c, Q⟩, ⟨z, b, n0, s0⟩, D, cy⟩ := X
  intro H locs ls cells slots h1 h2 h3 h4 h5 h6
  exact k H locs ls cells slots h1 h2 h3 h4 h5 (h6.less hl hs)
theorem v_iconst (hX : CO X own cc nL d mc ms n1 s1) {n : Int} {v : Int32} (hv : Int32.ofInt n = v) (hd : decode cc pc = .ok (.iconst n, 1)) (k : VW X (pc + 1) lo (vI v :: st) G) : VW X pc lo st G := by
  obtain ⟨⟨p, l, e, R, s, m, args, below, meth, c, Q⟩, ⟨z, b, n0, s0⟩, D, cy⟩ := X
  obtain ⟨hx, hb, hml, hown, hts, hK, hlk, hR, e1, e2, hz⟩ := hX
  intro H locs ls cells slots h1 h2 h3 h4 h5 h6
  exact lv_iconst hx hb hd hv (k H locs ls cells slots h1 h2 h3 h4 h5 h6)
theorem v_bipush (hX : CO X own cc nL d mc ms n1 s1) {n : Int} {v : Int32} (hv : (Int8.ofInt n).toInt32 = v) (hd : decode cc pc = .ok (.bipush n, 2)) (k : VW X (pc + 2) lo (vI v :: st) G) : VW X pc lo st G := by
  obtain ⟨⟨p, l, e, R, s, m, args, below, meth, c, Q⟩, ⟨z, b, n0, s0⟩, D, cy⟩ := X
  obtain ⟨hx, hb, hml, hown, hts, hK, hlk, hR, e1, e2, hz⟩ := hX
  intro H locs ls cells slots h1 h2 h3 h4 h5 h6
  exact lv_bipush hx hb hd hv (k H locs ls cells slots h1 h2 h3 h4 h5 h6)
theorem v_sipush (hX : CO X own cc nL d mc ms n1 s1) {n : Int} {v : Int32} (hv : (Int16.ofInt n).toInt32 = v) (hd : decode cc pc = .ok (.sipush n, 3)) (k : VW X (pc + 3) lo (vI v :: st) G) : VW X pc lo st G := by
  obtain ⟨⟨p, l, e, R, s, m, args, below, meth, c, Q⟩, ⟨z, b, n0, s0⟩, D, cy⟩ := X
  obtain ⟨hx, hb, hml, hown, hts, hK, hlk, hR, e1, e2, hz⟩ := hX
  intro H locs ls cells slots h1 h2 h3 h4 h5 h6
  exact lv_sipush hx hb hd hv (k H locs ls cells slots h1 h2 h3 h4 h5 h6)
theorem v_lconst (hX : CO X own cc nL d mc ms n1 s1) {n : Fin 2} {v : Int64} (hv : Int64.ofNat (n : Nat) = v) (hd : decode cc pc = .ok (.lconst n, 1)) (k : VW X (pc + 1) lo (vL v :: st) G) : VW X pc lo st G := by
  obtain ⟨⟨p, l, e, R, s, m, args, below, meth, c, Q⟩, ⟨z, b, n0, s0⟩, D, cy⟩ := X
  obtain ⟨hx, hb, hml, hown, hts, hK, hlk, hR, e1, e2, hz⟩ := hX
  intro H locs ls cells slots h1 h2 h3 h4 h5 h6
  exact lv_lconst hx hb hd hv (k H locs ls cells slots h1 h2 h3 h4 h5 h6)
theorem v_ldc_w (hX : CO X own cc nL d mc ms n1 s1) {n : Nat} {v : Int32} (hv : Jvm.Cond.constant own n v ∈ GW) (hd : decode cc pc = .ok (.ldc_w n, 3)) (k : VW X (pc + 3) lo (vI v :: st) G) : VW X pc lo st G := by
  obtain ⟨⟨p, l, e, R, s, m, args, below, meth, c, Q⟩, ⟨z, b, n0, s0⟩, D, cy⟩ := X
  obtain ⟨hx, hb, hml, hown, hts, hK, hlk, hR, e1, e2, hz⟩ := hX
  intro H locs ls cells slots h1 h2 h3 h4 h5 h6
  exact lv_ldcw hx hb hown (hts _ hv) hd (k H locs ls cells slots h1 h2 h3 h4 h5 h6)
theorem v_ldc2_w (hX : CO X own cc nL d mc ms n1 s1) {n : Nat} {v : Int64} (hv : Jvm.Cond.constantLong own n v ∈ GW) (hd : decode cc pc = .ok (.ldc2_w n, 3)) (k : VW X (pc + 3) lo (vL v :: st) G) : VW X pc lo st G := by
  obtain ⟨⟨p, l, e, R, s, m, args, below, meth, c, Q⟩, ⟨z, b, n0, s0⟩, D, cy⟩ := X
  obtain ⟨hx, hb, hml, hown, hts, hK, hlk, hR, e1, e2, hz⟩ := hX
  intro H locs ls cells slots h1 h2 h3 h4 h5 h6
  exact lv_ldc2 hx hb hown (hts _ hv) hd (k H locs ls cells slots h1 h2 h3 h4 h5 h6)
theorem v_null (hX : CO X own cc nL d mc ms n1 s1)  (hd : decode cc pc = .ok (.aconst_null, 1)) (k : VW X (pc + 1) lo (vR 0 :: st) G) : VW X pc lo st G := by
  obtain ⟨⟨p, l, e, R, s, m, args, below, meth, c, Q⟩, ⟨z, b, n0, s0⟩, D, cy⟩ := X
  obtain ⟨hx, hb, hml, hown, hts, hK, hlk, hR, e1, e2, hz⟩ := hX
  intro H locs ls cells slots h1 h2 h3 h4 h5 h6
  exact lv_null hx hb hd (k H locs ls cells slots h1 h2 h3 h4 h5 h6)
theorem v_iload_n (hX : CO X own cc nL d mc ms n1 s1) {i : Fin 4} {x : Int32} (hl : lo[(i : Nat)]? = some (some (vI x))) (hd : decode cc pc = .ok (.iload_n i, 1)) (k : VW X (pc + 1) lo (vI x :: st) G) : VW X pc lo st G := by
  obtain ⟨⟨p, l, e, R, s, m, args, below, meth, c, Q⟩, ⟨z, b, n0, s0⟩, D, cy⟩ := X
  obtain ⟨hx, hb, hml, hown, hts, hK, hlk, hR, e1, e2, hz⟩ := hX
  intro H locs ls cells slots h1 h2 h3 h4 h5 h6
  exact lv_iload_n hx hb hd rfl (h6.at hl) (k H locs ls cells slots h1 h2 h3 h4 h5 h6)
theorem v_iload (hX : CO X own cc nL d mc ms n1 s1) {i : Nat} {x : Int32} (hl : lo[i]? = some (some (vI x))) (hd : decode cc pc = .ok (.iload i, 2)) (k : VW X (pc + 2) lo (vI x :: st) G) : VW X pc lo st G := by
  obtain ⟨⟨p, l, e, R, s, m, args, below, meth, c, Q⟩, ⟨z, b, n0, s0⟩, D, cy⟩ := X
  obtain ⟨hx, hb, hml, hown, hts, hK, hlk, hR, e1, e2, hz⟩ := hX
  intro H locs ls cells slots h1 h2 h3 h4 h5 h6
  exact lv_iload hx hb hd (h6.at hl) (k H locs ls cells slots h1 h2 h3 h4 h5 h6)
theorem v_lload_n (hX : CO X own cc nL d mc ms n1 s1) {i : Fin 4} {x : Int64} (hl : lo[(i : Nat)]? = some (some (vL x))) (hd : decode cc pc = .ok (.lload_n i, 1)) (k : VW X (pc + 1) lo (vL x :: st) G) : VW X pc lo st G := by
  obtain ⟨⟨p, l, e, R, s, m, args, below, meth, c, Q⟩, ⟨z, b, n0, s0⟩, D, cy⟩ := X
  obtain ⟨hx, hb, hml, hown, hts, hK, hlk, hR, e1, e2, hz⟩ := hX
  intro H locs ls cells slots h1 h2 h3 h4 h5 h6
  exact lv_lload_n hx hb hd rfl (h6.at hl) (k H locs ls cells slots h1 h2 h3 h4 h5 h6)
theorem v_lload (hX : CO X own cc nL d mc ms n1 s1) {i : Nat} {x : Int64} (hl : lo[i]? = some (some (vL x))) (hd : decode cc pc = .ok (.lload i, 2)) (k : VW X (pc + 2) lo (vL x :: st) G) : VW X pc lo st G := by
  obtain ⟨⟨p, l, e, R, s, m, args, below, meth, c, Q⟩, ⟨z, b, n0, s0⟩, D, cy⟩ := X
  obtain ⟨hx, hb, hml, hown, hts, hK, hlk, hR, e1, e2, hz⟩ := hX
  intro H locs ls cells slots h1 h2 h3 h4 h5 h6
  exact lv_lload hx hb hd (h6.at hl) (k H locs ls cells slots h1 h2 h3 h4 h5 h6)
theorem v_aload_n (hX : CO X own cc nL d mc ms n1 s1) {i : Fin 4} {r : Nat} (hl : lo[(i : Nat)]? = some (some (vR r))) (hd : decode cc pc = .ok (.aload_n i, 1)) (k : VW X (pc + 1) lo (vR r :: st) G) : VW X pc lo st G := by
  obtain ⟨⟨p, l, e, R, s, m, args, below, meth, c, Q⟩, ⟨z, b, n0, s0⟩, D, cy⟩ := X
  obtain ⟨hx, hb, hml, hown, hts, hK, hlk, hR, e1, e2, hz⟩ := hX
  intro H locs ls cells slots h1 h2 h3 h4 h5 h6
  have ha := h6.at hl
  have k := k H locs ls cells slots h1 h2 h3 h4 h5 h6
  rw [show (vR r :: st).map (cv z b) = cvR z b r :: st.map (cv z b) from rfl] at k
  have ha : ls[(i : Nat)]? = some (.val (cvR z b r)) := ha
  rcases cvR_or z b r with h | ⟨a, h⟩
  · rw [h] at k ha
    exact lv_aload_nN hx hb hd rfl ha k
  · rw [h] at k ha
    exact lv_aload_n hx hb hd rfl ha k
theorem v_istore_n (hX : CO X own cc nL d mc ms n1 s1) {i : Fin 4} {x : Int32} {lo' : List (Option AV)} (hl : (i : Nat) < lo.length) (he : sto1 lo (i : Nat) (vI x) = lo') (hd : decode cc pc = .ok (.istore_n i, 1)) (k : VW X (pc + 1) lo' st G) : VW X pc lo (vI x :: st) G := by
  subst he
  obtain ⟨⟨p, l, e, R, s, m, args, below, meth, c, Q⟩, ⟨z, b, n0, s0⟩, D, cy⟩ := X
  obtain ⟨hx, hb, hml, hown, hts, hK, hlk, hR, e1, e2, hz⟩ := hX
  intro H locs ls cells slots h1 h2 h3 h4 h5 h6
  exact lv_istore_n hx hb hd rfl h6 hl rfl (fun ls' hl' => k H locs ls' cells slots h1 h2 h3 h4 h5 (LR.sto1 hl rfl hl'))
theorem v_lstore_n (hX : CO X own cc nL d mc ms n1 s1) {i : Fin 4} {x : Int64} {lo' : List (Option AV)} (hl : (i : Nat) + 1 < lo.length) (he : sto2 lo (i : Nat) (vL x) = lo') (hd : decode cc pc = .ok (.lstore_n i, 1)) (k : VW X (pc + 1) lo' st G) : VW X pc lo (vL x :: st) G := by
  subst he
  obtain ⟨⟨p, l, e, R, s, m, args, below, meth, c, Q⟩, ⟨z, b, n0, s0⟩, D, cy⟩ := X
  obtain ⟨hx, hb, hml, hown, hts, hK, hlk, hR, e1, e2, hz⟩ := hX
  intro H locs ls cells slots h1 h2 h3 h4 h5 h6
  exact lv_lstore_n hx hb hd rfl h6 hl rfl (fun ls' hl' => k H locs ls' cells slots h1 h2 h3 h4 h5 (LR.sto2 hl rfl hl'))
theorem v_astore_n (hX : CO X own cc nL d mc ms n1 s1) {i : Fin 4} {r : Nat} {lo' : List (Option AV)} (hl : (i : Nat) < lo.length) (he : sto1 lo (i : Nat) (vR r) = lo') (hd : decode cc pc = .ok (.astore_n i, 1)) (k : VW X (pc + 1) lo' st G) : VW X pc lo (vR r :: st) G := by
  subst he
  obtain ⟨⟨p, l, e, R, s, m, args, below, meth, c, Q⟩, ⟨z, b, n0, s0⟩, D, cy⟩ := X
  obtain ⟨hx, hb, hml, hown, hts, hK, hlk, hR, e1, e2, hz⟩ := hX
  intro H locs ls cells slots h1 h2 h3 h4 h5 h6
  rw [show (vR r :: st).map (cv z b) = cvR z b r :: st.map (cv z b) from rfl]
  rcases cvR_or z b r with h | ⟨a, h⟩
  · rw [h]
    exact lv_astore_nN hx hb hd rfl h6 hl rfl (fun ls' hl' => k H locs ls' cells slots h1 h2 h3 h4 h5 (LR.sto1 hl (v := vR r) h hl'))
  · rw [h]
    exact lv_astore_n hx hb hd rfl h6 hl rfl (fun ls' hl' => k H locs ls' cells slots h1 h2 h3 h4 h5 (LR.sto1 hl (v := vR r) h hl'))
theorem v_aload (hX : CO X own cc nL d mc ms n1 s1) {i : Nat} {r : Nat} (hl : lo[i]? = some (some (vR r))) (hd : decode cc pc = .ok (.aload i, 2)) (k : VW X (pc + 2) lo (vR r :: st) G) : VW X pc lo st G := by
  obtain ⟨⟨p, l, e, R, s, m, args, below, meth, c, Q⟩, ⟨z, b, n0, s0⟩, D, cy⟩ := X
  obtain ⟨hx, hb, hml, hown, hts, hK, hlk, hR, e1, e2, hz⟩ := hX
  intro H locs ls cells slots h1 h2 h3 h4 h5 h6
  have ha := h6.at hl
  have k := k H locs ls cells slots h1 h2 h3 h4 h5 h6
  rw [show (vR r :: st).map (cv z b) = cvR z b r :: st.map (cv z b) from rfl] at k
  have ha : ls[i]? = some (.val (cvR z b r)) := ha
  rcases cvR_or z b r with h | ⟨a, h⟩
  · rw [h] at k ha
    exact lv_aloadN hx hb hd ha k
  · rw [h] at k ha
    exact lv_aload hx hb hd ha k
theorem v_istore (hX : CO X own cc nL d mc ms n1 s1) {i : Nat} {x : Int32} {lo' : List (Option AV)} (hl : i < lo.length) (he : sto1 lo i (vI x) = lo') (hd : decode cc pc = .ok (.istore i, 2)) (k : VW X (pc + 2) lo' st G) : VW X pc lo (vI x :: st) G := by
  subst he
  obtain ⟨⟨p, l, e, R, s, m, args, below, meth, c, Q⟩, ⟨z, b, n0, s0⟩, D, cy⟩ := X
  obtain ⟨hx, hb, hml, hown, hts, hK, hlk, hR, e1, e2, hz⟩ := hX
  intro H locs ls cells slots h1 h2 h3 h4 h5 h6
  exact lv_istore hx hb hd h6 hl rfl (fun ls' hl' => k H locs ls' cells slots h1 h2 h3 h4 h5 (LR.sto1 hl rfl hl'))
theorem v_lstore (hX : CO X own cc nL d mc ms n1 s1) {i : Nat} {x : Int64} {lo' : List (Option AV)} (hl : i + 1 < lo.length) (he : sto2 lo i (vL x) = lo') (hd : decode cc pc = .ok (.lstore i, 2)) (k : VW X (pc + 2) lo' st G) : VW X pc lo (vL x :: st) G := by
  subst he
  obtain ⟨⟨p, l, e, R, s, m, args, below, meth, c, Q⟩, ⟨z, b, n0, s0⟩, D, cy⟩ := X
  obtain ⟨hx, hb, hml, hown, hts, hK, hlk, hR, e1, e2, hz⟩ := hX
  intro H locs ls cells slots h1 h2 h3 h4 h5 h6
  exact lv_lstore hx hb hd h6 hl rfl (fun ls' hl' => k H locs ls' cells slots h1 h2 h3 h4 h5 (LR.sto2 hl rfl hl'))
theorem v_astore (hX : CO X own cc nL d mc ms n1 s1) {i : Nat} {r : Nat} {lo' : List (Option AV)} (hl : i < lo.length) (he : sto1 lo i (vR r) = lo') (hd : decode cc pc = .ok (.astore i, 2)) (k : VW X (pc + 2) lo' st G) : VW X pc lo (vR r :: st) G := by
  subst he
  obtain ⟨⟨p, l, e, R, s, m, args, below, meth, c, Q⟩, ⟨z, b, n0, s0⟩, D, cy⟩ := X
  obtain ⟨hx, hb, hml, hown, hts, hK, hlk, hR, e1, e2, hz⟩ := hX
  intro H locs ls cells slots h1 h2 h3 h4 h5 h6
  rw [show (vR r :: st).map (cv z b) = cvR z b r :: st.map (cv z b) from rfl]
  rcases cvR_or z b r with h | ⟨a, h⟩
  · rw [h]
    exact lv_astoreN hx hb hd h6 hl rfl (fun ls' hl' => k H locs ls' cells slots h1 h2 h3 h4 h5 (LR.sto1 hl (v := vR r) h hl'))
  · rw [h]
    exact lv_astore hx hb hd h6 hl rfl (fun ls' hl' => k H locs ls' cells slots h1 h2 h3 h4 h5 (LR.sto1 hl (v := vR r) h hl'))
theorem v_iinc (hX : CO X own cc nL d mc ms n1 s1) {i : Nat} {n : Int} {x : Int32} {lo' : List (Option AV)} (hi : lo[i]? = some (some (vI x))) (he : sto1 lo i (vI (x + Int32.ofInt n)) = lo') (hd : decode cc pc = .ok (.iinc i n, 3)) (k : VW X (pc + 3) lo' st G) : VW X pc lo st G := by
  subst he
  obtain ⟨⟨p, l, e, R, s, m, args, below, meth, c, Q⟩, ⟨z, b, n0, s0⟩, D, cy⟩ := X
  obtain ⟨hx, hb, hml, hown, hts, hK, hlk, hR, e1, e2, hz⟩ := hX
  intro H locs ls cells slots h1 h2 h3 h4 h5 h6
  have hl := (List.getElem?_eq_some_iff.mp hi).1
  obtain ⟨kk, hk⟩ := List.getElem?_of_mem ((asc_mem (z := z) (b := b) lo 0 (i, .int x)).mpr ⟨i, vI x, hi, by simp [cv]⟩)
  exact lv_iinc hx hb hd h6 hk rfl hl rfl (fun ls' hl' => k H locs ls' cells slots h1 h2 h3 h4 h5 (LR.sto1 hl rfl hl'))
theorem v_iadd (hX : CO X own cc nL d mc ms n1 s1) {x y : Int32} (hd : decode cc pc = .ok (.iadd, 1)) (k : VW X (pc + 1) lo (vI (x + y) :: st) G) : VW X pc lo (vI y :: vI x :: st) G := by
  obtain ⟨⟨p, l, e, R, s, m, args, below, meth, c, Q⟩, ⟨z, b, n0, s0⟩, D, cy⟩ := X
  obtain ⟨hx, hb, hml, hown, hts, hK, hlk, hR, e1, e2, hz⟩ := hX
  intro H locs ls cells slots h1 h2 h3 h4 h5 h6
  exact lv_iadd hx hb hd (k H locs ls cells slots h1 h2 h3 h4 h5 h6)
theorem v_isub (hX : CO X own cc nL d mc ms n1 s1) {x y : Int32} (hd : decode cc pc = .ok (.isub, 1)) (k : VW X (pc + 1) lo (vI (x - y) :: st) G) : VW X pc lo (vI y :: vI x :: st) G := by
  obtain ⟨⟨p, l, e, R, s, m, args, below, meth, c, Q⟩, ⟨z, b, n0, s0⟩, D, cy⟩ := X
  obtain ⟨hx, hb, hml, hown, hts, hK, hlk, hR, e1, e2, hz⟩ := hX
  intro H locs ls cells slots h1 h2 h3 h4 h5 h6
  exact lv_isub hx hb hd (k H locs ls cells slots h1 h2 h3 h4 h5 h6)
theorem v_imul (hX : CO X own cc nL d mc ms n1 s1) {x y : Int32} (hd : decode cc pc = .ok (.imul, 1)) (k : VW X (pc + 1) lo (vI (x * y) :: st) G) : VW X pc lo (vI y :: vI x :: st) G := by
  obtain ⟨⟨p, l, e, R, s, m, args, below, meth, c, Q⟩, ⟨z, b, n0, s0⟩, D, cy⟩ := X
  obtain ⟨hx, hb, hml, hown, hts, hK, hlk, hR, e1, e2, hz⟩ := hX
  intro H locs ls cells slots h1 h2 h3 h4 h5 h6
  exact lv_imul hx hb hd (k H locs ls cells slots h1 h2 h3 h4 h5 h6)
theorem v_iand (hX : CO X own cc nL d mc ms n1 s1) {x y : Int32} (hd : decode cc pc = .ok (.iand, 1)) (k : VW X (pc + 1) lo (vI (x &&& y) :: st) G) : VW X pc lo (vI y :: vI x :: st) G := by
  obtain ⟨⟨p, l, e, R, s, m, args, below, meth, c, Q⟩, ⟨z, b, n0, s0⟩, D, cy⟩ := X
  obtain ⟨hx, hb, hml, hown, hts, hK, hlk, hR, e1, e2, hz⟩ := hX
  intro H locs ls cells slots h1 h2 h3 h4 h5 h6
  exact lv_iand hx hb hd (k H locs ls cells slots h1 h2 h3 h4 h5 h6)
theorem v_ior (hX : CO X own cc nL d mc ms n1 s1) {x y : Int32} (hd : decode cc pc = .ok (.ior, 1)) (k : VW X (pc + 1) lo (vI (x ||| y) :: st) G) : VW X pc lo (vI y :: vI x :: st) G := by
  obtain ⟨⟨p, l, e, R, s, m, args, below, meth, c, Q⟩, ⟨z, b, n0, s0⟩, D, cy⟩ := X
  obtain ⟨hx, hb, hml, hown, hts, hK, hlk, hR, e1, e2, hz⟩ := hX
  intro H locs ls cells slots h1 h2 h3 h4 h5 h6
  exact lv_ior hx hb hd (k H locs ls cells slots h1 h2 h3 h4 h5 h6)
theorem v_ixor (hX : CO X own cc nL d mc ms n1 s1) {x y : Int32} (hd : decode cc pc = .ok (.ixor, 1)) (k : VW X (pc + 1) lo (vI (x ^^^ y) :: st) G) : VW X pc lo (vI y :: vI x :: st) G := by
  obtain ⟨⟨p, l, e, R, s, m, args, below, meth, c, Q⟩, ⟨z, b, n0, s0⟩, D, cy⟩ := X
  obtain ⟨hx, hb, hml, hown, hts, hK, hlk, hR, e1, e2, hz⟩ := hX
  intro H locs ls cells slots h1 h2 h3 h4 h5 h6
  exact lv_ixor hx hb hd (k H locs ls cells slots h1 h2 h3 h4 h5 h6)
theorem v_ladd (hX : CO X own cc nL d mc ms n1 s1) {x y : Int64} (hd : decode cc pc = .ok (.ladd, 1)) (k : VW X (pc + 1) lo (vL (x + y) :: st) G) : VW X pc lo (vL y :: vL x :: st) G := by
  obtain ⟨⟨p, l, e, R, s, m, args, below, meth, c, Q⟩, ⟨z, b, n0, s0⟩, D, cy⟩ := X
  obtain ⟨hx, hb, hml, hown, hts, hK, hlk, hR, e1, e2, hz⟩ := hX
  intro H locs ls cells slots h1 h2 h3 h4 h5 h6
  exact lv_ladd hx hb hd (k H locs ls cells slots h1 h2 h3 h4 h5 h6)
theorem v_lsub (hX : CO X own cc nL d mc ms n1 s1) {x y : Int64} (hd : decode cc pc = .ok (.lsub, 1)) (k : VW X (pc + 1) lo (vL (x - y) :: st) G) : VW X pc lo (vL y :: vL x :: st) G := by
  obtain ⟨⟨p, l, e, R, s, m, args, below, meth, c, Q⟩, ⟨z, b, n0, s0⟩, D, cy⟩ := X
  obtain ⟨hx, hb, hml, hown, hts, hK, hlk, hR, e1, e2, hz⟩ := hX
  intro H locs ls cells slots h1 h2 h3 h4 h5 h6
  exact lv_lsub hx hb hd (k H locs ls cells slots h1 h2 h3 h4 h5 h6)
theorem v_lmul (hX : CO X own cc nL d mc ms n1 s1) {x y : Int64} (hd : decode cc pc = .ok (.lmul, 1)) (k : VW X (pc + 1) lo (vL (x * y) :: st) G) : VW X pc lo (vL y :: vL x :: st) G := by
  obtain ⟨⟨p, l, e, R, s, m, args, below, meth, c, Q⟩, ⟨z, b, n0, s0⟩, D, cy⟩ := X
  obtain ⟨hx, hb, hml, hown, hts, hK, hlk, hR, e1, e2, hz⟩ := hX
  intro H locs ls cells slots h1 h2 h3 h4 h5 h6
  exact lv_lmul hx hb hd (k H locs ls cells slots h1 h2 h3 h4 h5 h6)
theorem v_idiv (hX : CO X own cc nL d mc ms n1 s1) {x y : Int32} (hn : ¬ y = 0) (hd : decode cc pc = .ok (.idiv, 1)) (k : VW X (pc + 1) lo (vI (x / y) :: st) G) : VW X pc lo (vI y :: vI x :: st) G := by
  obtain ⟨⟨p, l, e, R, s, m, args, below, meth, c, Q⟩, ⟨z, b, n0, s0⟩, D, cy⟩ := X
  obtain ⟨hx, hb, hml, hown, hts, hK, hlk, hR, e1, e2, hz⟩ := hX
  intro H locs ls cells slots h1 h2 h3 h4 h5 h6
  exact lv_idiv hx hb hd hn (k H locs ls cells slots h1 h2 h3 h4 h5 h6)
theorem v_irem (hX : CO X own cc nL d mc ms n1 s1) {x y : Int32} (hn : ¬ y = 0) (hd : decode cc pc = .ok (.irem, 1)) (k : VW X (pc + 1) lo (vI (x - x / y * y) :: st) G) : VW X pc lo (vI y :: vI x :: st) G := by
  obtain ⟨⟨p, l, e, R, s, m, args, below, meth, c, Q⟩, ⟨z, b, n0, s0⟩, D, cy⟩ := X
  obtain ⟨hx, hb, hml, hown, hts, hK, hlk, hR, e1, e2, hz⟩ := hX
  intro H locs ls cells slots h1 h2 h3 h4 h5 h6
  exact lv_irem hx hb hd hn (k H locs ls cells slots h1 h2 h3 h4 h5 h6)
theorem v_ldiv (hX : CO X own cc nL d mc ms n1 s1) {x y : Int64} (hn : ¬ y = 0) (hd : decode cc pc = .ok (.ldiv, 1)) (k : VW X (pc + 1) lo (vL (x / y) :: st) G) : VW X pc lo (vL y :: vL x :: st) G := by
  obtain ⟨⟨p, l, e, R, s, m, args, below, meth, c, Q⟩, ⟨z, b, n0, s0⟩, D, cy⟩ := X
  obtain ⟨hx, hb, hml, hown, hts, hK, hlk, hR, e1, e2, hz⟩ := hX
  intro H locs ls cells slots h1 h2 h3 h4 h5 h6
  exact lv_ldiv hx hb hd hn (k H locs ls cells slots h1 h2 h3 h4 h5 h6)
theorem v_lrem (hX : CO X own cc nL d mc ms n1 s1) {x y : Int64} (hn : ¬ y = 0) (hd : decode cc pc = .ok (.lrem, 1)) (k : VW X (pc + 1) lo (vL (x - x / y * y) :: st) G) : VW X pc lo (vL y :: vL x :: st) G := by
  obtain ⟨⟨p, l, e, R, s, m, args, below, meth, c, Q⟩, ⟨z, b, n0, s0⟩, D, cy⟩ := X
  obtain ⟨hx, hb, hml, hown, hts, hK, hlk, hR, e1, e2, hz⟩ := hX
  intro H locs ls cells slots h1 h2 h3 h4 h5 h6
  exact lv_lrem hx hb hd hn (k H locs ls cells slots h1 h2 h3 h4 h5 h6)
theorem v_ishl (hX : CO X own cc nL d mc ms n1 s1) {x y : Int32} (hd : decode cc pc = .ok (.ishl, 1)) (k : VW X (pc + 1) lo (vI (x <<< (y &&& 31)) :: st) G) : VW X pc lo (vI y :: vI x :: st) G := by
  obtain ⟨⟨p, l, e, R, s, m, args, below, meth, c, Q⟩, ⟨z, b, n0, s0⟩, D, cy⟩ := X
  obtain ⟨hx, hb, hml, hown, hts, hK, hlk, hR, e1, e2, hz⟩ := hX
  intro H locs ls cells slots h1 h2 h3 h4 h5 h6
  exact lv_ishl hx hb hd (k H locs ls cells slots h1 h2 h3 h4 h5 h6)
theorem v_ishr (hX : CO X own cc nL d mc ms n1 s1) {x y : Int32} (hd : decode cc pc = .ok (.ishr, 1)) (k : VW X (pc + 1) lo (vI (x >>> (y &&& 31)) :: st) G) : VW X pc lo (vI y :: vI x :: st) G := by
  obtain ⟨⟨p, l, e, R, s, m, args, below, meth, c, Q⟩, ⟨z, b, n0, s0⟩, D, cy⟩ := X
  obtain ⟨hx, hb, hml, hown, hts, hK, hlk, hR, e1, e2, hz⟩ := hX
  intro H locs ls cells slots h1 h2 h3 h4 h5 h6
  exact lv_ishr hx hb hd (k H locs ls cells slots h1 h2 h3 h4 h5 h6)
theorem v_iushr (hX : CO X own cc nL d mc ms n1 s1) {x y : Int32} (hd : decode cc pc = .ok (.iushr, 1)) (k : VW X (pc + 1) lo (vI (x.toUInt32 >>> (y.toUInt32 &&& Int32.toUInt32 31)).toInt32 :: st) G) : VW X pc lo (vI y :: vI x :: st) G := by
  obtain ⟨⟨p, l, e, R, s, m, args, below, meth, c, Q⟩, ⟨z, b, n0, s0⟩, D, cy⟩ := X
  obtain ⟨hx, hb, hml, hown, hts, hK, hlk, hR, e1, e2, hz⟩ := hX
  intro H locs ls cells slots h1 h2 h3 h4 h5 h6
  exact lv_iushr hx hb hd rfl (k H locs ls cells slots h1 h2 h3 h4 h5 h6)
theorem v_i2l (hX : CO X own cc nL d mc ms n1 s1) {x : Int32} (hd : decode cc pc = .ok (.i2l, 1)) (k : VW X (pc + 1) lo (vL x.toInt64 :: st) G) : VW X pc lo (vI x :: st) G := by
  obtain ⟨⟨p, l, e, R, s, m, args, below, meth, c, Q⟩, ⟨z, b, n0, s0⟩, D, cy⟩ := X
  obtain ⟨hx, hb, hml, hown, hts, hK, hlk, hR, e1, e2, hz⟩ := hX
  intro H locs ls cells slots h1 h2 h3 h4 h5 h6
  exact lv_i2l hx hb hd rfl (k H locs ls cells slots h1 h2 h3 h4 h5 h6)
theorem v_i2b (hX : CO X own cc nL d mc ms n1 s1) {x : Int32} (hd : decode cc pc = .ok (.i2b, 1)) (k : VW X (pc + 1) lo (vI x.toInt8.toInt32 :: st) G) : VW X pc lo (vI x :: st) G := by
  obtain ⟨⟨p, l, e, R, s, m, args, below, meth, c, Q⟩, ⟨z, b, n0, s0⟩, D, cy⟩ := X
  obtain ⟨hx, hb, hml, hown, hts, hK, hlk, hR, e1, e2, hz⟩ := hX
  intro H locs ls cells slots h1 h2 h3 h4 h5 h6
  exact lv_i2b hx hb hd rfl (k H locs ls cells slots h1 h2 h3 h4 h5 h6)
theorem v_i2s (hX : CO X own cc nL d mc ms n1 s1) {x : Int32} (hd : decode cc pc = .ok (.i2s, 1)) (k : VW X (pc + 1) lo (vI x.toInt16.toInt32 :: st) G) : VW X pc lo (vI x :: st) G := by
  obtain ⟨⟨p, l, e, R, s, m, args, below, meth, c, Q⟩, ⟨z, b, n0, s0⟩, D, cy⟩ := X
  obtain ⟨hx, hb, hml, hown, hts, hK, hlk, hR, e1, e2, hz⟩ := hX
  intro H locs ls cells slots h1 h2 h3 h4 h5 h6
  exact lv_i2s hx hb hd rfl (k H locs ls cells slots h1 h2 h3 h4 h5 h6)
theorem v_lcmp (hX : CO X own cc nL d mc ms n1 s1) {x y : Int64} (hd : decode cc pc = .ok (.lcmp, 1)) (k : VW X (pc + 1) lo (vI (lg_cmp x y) :: st) G) : VW X pc lo (vL y :: vL x :: st) G := by
  obtain ⟨⟨p, l, e, R, s, m, args, below, meth, c, Q⟩, ⟨z, b, n0, s0⟩, D, cy⟩ := X
  obtain ⟨hx, hb, hml, hown, hts, hK, hlk, hR, e1, e2, hz⟩ := hX
  intro H locs ls cells slots h1 h2 h3 h4 h5 h6
  exact W.lcmp hx hb hd (k H locs ls cells slots h1 h2 h3 h4 h5 h6)
theorem v_dup (hX : CO X own cc nL d mc ms n1 s1) {v : AV} (hc : catA v = 1) (hd : decode cc pc = .ok (.dup, 1)) (k : VW X (pc + 1) lo (v :: v :: st) G) : VW X pc lo (v :: st) G := by
  obtain ⟨⟨p, l, e, R, s, m, args, below, meth, c, Q⟩, ⟨z, b, n0, s0⟩, D, cy⟩ := X
  obtain ⟨hx, hb, hml, hown, hts, hK, hlk, hR, e1, e2, hz⟩ := hX
  intro H locs ls cells slots h1 h2 h3 h4 h5 h6
  exact lv_dup hx hb hd ((cv_cat z b v).trans hc) (k H locs ls cells slots h1 h2 h3 h4 h5 h6)
theorem v_dup2 (hX : CO X own cc nL d mc ms n1 s1) {v w : AV} (hc : catA v = 1) (hc2 : catA w = 1) (hd : decode cc pc = .ok (.dup2, 1)) (k : VW X (pc + 1) lo (v :: w :: v :: w :: st) G) : VW X pc lo (v :: w :: st) G := by
  obtain ⟨⟨p, l, e, R, s, m, args, below, meth, c, Q⟩, ⟨z, b, n0, s0⟩, D, cy⟩ := X
  obtain ⟨hx, hb, hml, hown, hts, hK, hlk, hR, e1, e2, hz⟩ := hX
  intro H locs ls cells slots h1 h2 h3 h4 h5 h6
  exact lv_dup2_11 hx hb hd ((cv_cat z b v).trans hc) ((cv_cat z b w).trans hc2) (k H locs ls cells slots h1 h2 h3 h4 h5 h6)
theorem v_if_eq (hX : CO X own cc nL d mc ms n1 s1) {x : Int32} {off : Int} {tgt : Nat} (hd : decode cc pc = .ok (.ifCond .eq off, 3)) (ht : (pc : Int) + off = (tgt : Int)) (kt : x = 0 → VW X tgt lo st G) (kf : ¬ x = 0 → VW X (pc + 3) lo st G) : VW X pc lo (vI x :: st) G := by
  obtain ⟨⟨p, l, e, R, s, m, args, below, meth, c, Q⟩, ⟨z, b, n0, s0⟩, D, cy⟩ := X
  obtain ⟨hx, hb, hml, hown, hts, hK, hlk, hR, e1, e2, hz⟩ := hX
  intro H locs ls cells slots h1 h2 h3 h4 h5 h6
  exact lv_if_eq hx hb hd ht (fun hc => kt hc H locs ls cells slots h1 h2 h3 h4 h5 h6) (fun hc => kf hc H locs ls cells slots h1 h2 h3 h4 h5 h6)
theorem v_icmp_eq (hX : CO X own cc nL d mc ms n1 s1) {x y : Int32} {off : Int} {tgt : Nat} (hd : decode cc pc = .ok (.if_icmp .eq off, 3)) (ht : (pc : Int) + off = (tgt : Int)) (kt : x = y → VW X tgt lo st G) (kf : ¬ x = y → VW X (pc + 3) lo st G) : VW X pc lo (vI y :: vI x :: st) G := by
  obtain ⟨⟨p, l, e, R, s, m, args, below, meth, c, Q⟩, ⟨z, b, n0, s0⟩, D, cy⟩ := X
  obtain ⟨hx, hb, hml, hown, hts, hK, hlk, hR, e1, e2, hz⟩ := hX
  intro H locs ls cells slots h1 h2 h3 h4 h5 h6
  exact lv_icmp_eq hx hb hd ht (fun hc => kt hc H locs ls cells slots h1 h2 h3 h4 h5 h6) (fun hc => kf hc H locs ls cells slots h1 h2 h3 h4 h5 h6)
theorem v_if_ne (hX : CO X own cc nL d mc ms n1 s1) {x : Int32} {off : Int} {tgt : Nat} (hd : decode cc pc = .ok (.ifCond .ne off, 3)) (ht : (pc : Int) + off = (tgt : Int)) (kt : ¬ x = 0 → VW X tgt lo st G) (kf : x = 0 → VW X (pc + 3) lo st G) : VW X pc lo (vI x :: st) G := by
  obtain ⟨⟨p, l, e, R, s, m, args, below, meth, c, Q⟩, ⟨z, b, n0, s0⟩, D, cy⟩ := X
  obtain ⟨hx, hb, hml, hown, hts, hK, hlk, hR, e1, e2, hz⟩ := hX
  intro H locs ls cells slots h1 h2 h3 h4 h5 h6
  exact lv_if_ne hx hb hd ht (fun hc => kt hc H locs ls cells slots h1 h2 h3 h4 h5 h6) (fun hc => kf hc H locs ls cells slots h1 h2 h3 h4 h5 h6)
theorem v_icmp_ne (hX : CO X own cc nL d mc ms n1 s1) {x y : Int32} {off : Int} {tgt : Nat} (hd : decode cc pc = .ok (.if_icmp .ne off, 3)) (ht : (pc : Int) + off = (tgt : Int)) (kt : ¬ x = y → VW X tgt lo st G) (kf : x = y → VW X (pc + 3) lo st G) : VW X pc lo (vI y :: vI x :: st) G := by
  obtain ⟨⟨p, l, e, R, s, m, args, below, meth, c, Q⟩, ⟨z, b, n0, s0⟩, D, cy⟩ := X
  obtain ⟨hx, hb, hml, hown, hts, hK, hlk, hR, e1, e2, hz⟩ := hX
  intro H locs ls cells slots h1 h2 h3 h4 h5 h6
  exact lv_icmp_ne hx hb hd ht (fun hc => kt hc H locs ls cells slots h1 h2 h3 h4 h5 h6) (fun hc => kf hc H locs ls cells slots h1 h2 h3 h4 h5 h6)
theorem v_if_lt (hX : CO X own cc nL d mc ms n1 s1) {x : Int32} {off : Int} {tgt : Nat} (hd : decode cc pc = .ok (.ifCond .lt off, 3)) (ht : (pc : Int) + off = (tgt : Int)) (kt : x < 0 → VW X tgt lo st G) (kf : ¬ x < 0 → VW X (pc + 3) lo st G) : VW X pc lo (vI x :: st) G := by
  obtain ⟨⟨p, l, e, R, s, m, args, below, meth, c, Q⟩, ⟨z, b, n0, s0⟩, D, cy⟩ := X
  obtain ⟨hx, hb, hml, hown, hts, hK, hlk, hR, e1, e2, hz⟩ := hX
  intro H locs ls cells slots h1 h2 h3 h4 h5 h6
  exact lv_if_lt hx hb hd ht (fun hc => kt hc H locs ls cells slots h1 h2 h3 h4 h5 h6) (fun hc => kf hc H locs ls cells slots h1 h2 h3 h4 h5 h6)
theorem v_icmp_lt (hX : CO X own cc nL d mc ms n1 s1) {x y : Int32} {off : Int} {tgt : Nat} (hd : decode cc pc = .ok (.if_icmp .lt off, 3)) (ht : (pc : Int) + off = (tgt : Int)) (kt : x < y → VW X tgt lo st G) (kf : ¬ x < y → VW X (pc + 3) lo st G) : VW X pc lo (vI y :: vI x :: st) G := by
  obtain ⟨⟨p, l, e, R, s, m, args, below, meth, c, Q⟩, ⟨z, b, n0, s0⟩, D, cy⟩ := X
  obtain ⟨hx, hb, hml, hown, hts, hK, hlk, hR, e1, e2, hz⟩ := hX
  intro H locs ls cells slots h1 h2 h3 h4 h5 h6
  exact lv_icmp_lt hx hb hd ht (fun hc => kt hc H locs ls cells slots h1 h2 h3 h4 h5 h6) (fun hc => kf hc H locs ls cells slots h1 h2 h3 h4 h5 h6)
theorem v_if_ge (hX : CO X own cc nL d mc ms n1 s1) {x : Int32} {off : Int} {tgt : Nat} (hd : decode cc pc = .ok (.ifCond .ge off, 3)) (ht : (pc : Int) + off = (tgt : Int)) (kt : 0 ≤ x → VW X tgt lo st G) (kf : ¬ 0 ≤ x → VW X (pc + 3) lo st G) : VW X pc lo (vI x :: st) G := by
  obtain ⟨⟨p, l, e, R, s, m, args, below, meth, c, Q⟩, ⟨z, b, n0, s0⟩, D, cy⟩ := X
  obtain ⟨hx, hb, hml, hown, hts, hK, hlk, hR, e1, e2, hz⟩ := hX
  intro H locs ls cells slots h1 h2 h3 h4 h5 h6
  exact lv_if_ge hx hb hd ht (fun hc => kt hc H locs ls cells slots h1 h2 h3 h4 h5 h6) (fun hc => kf hc H locs ls cells slots h1 h2 h3 h4 h5 h6)
theorem v_icmp_ge (hX : CO X own cc nL d mc ms n1 s1) {x y : Int32} {off : Int} {tgt : Nat} (hd : decode cc pc = .ok (.if_icmp .ge off, 3)) (ht : (pc : Int) + off = (tgt : Int)) (kt : y ≤ x → VW X tgt lo st G) (kf : ¬ y ≤ x → VW X (pc + 3) lo st G) : VW X pc lo (vI y :: vI x :: st) G := by
  obtain ⟨⟨p, l, e, R, s, m, args, below, meth, c, Q⟩, ⟨z, b, n0, s0⟩, D, cy⟩ := X
  obtain ⟨hx, hb, hml, hown, hts, hK, hlk, hR, e1, e2, hz⟩ := hX
  intro H locs ls cells slots h1 h2 h3 h4 h5 h6
  exact lv_icmp_ge hx hb hd ht (fun hc => kt hc H locs ls cells slots h1 h2 h3 h4 h5 h6) (fun hc => kf hc H locs ls cells slots h1 h2 h3 h4 h5 h6)
theorem v_if_gt (hX : CO X own cc nL d mc ms n1 s1) {x : Int32} {off : Int} {tgt : Nat} (hd : decode cc pc = .ok (.ifCond .gt off, 3)) (ht : (pc : Int) + off = (tgt : Int)) (kt : 0 < x → VW X tgt lo st G) (kf : ¬ 0 < x → VW X (pc + 3) lo st G) : VW X pc lo (vI x :: st) G := by
  obtain ⟨⟨p, l, e, R, s, m, args, below, meth, c, Q⟩, ⟨z, b, n0, s0⟩, D, cy⟩ := X
  obtain ⟨hx, hb, hml, hown, hts, hK, hlk, hR, e1, e2, hz⟩ := hX
  intro H locs ls cells slots h1 h2 h3 h4 h5 h6
  exact lv_if_gt hx hb hd ht (fun hc => kt hc H locs ls cells slots h1 h2 h3 h4 h5 h6) (fun hc => kf hc H locs ls cells slots h1 h2 h3 h4 h5 h6)
theorem v_icmp_gt (hX : CO X own cc nL d mc ms n1 s1) {x y : Int32} {off : Int} {tgt : Nat} (hd : decode cc pc = .ok (.if_icmp .gt off, 3)) (ht : (pc : Int) + off = (tgt : Int)) (kt : y < x → VW X tgt lo st G) (kf : ¬ y < x → VW X (pc + 3) lo st G) : VW X pc lo (vI y :: vI x :: st) G := by
  obtain ⟨⟨p, l, e, R, s, m, args, below, meth, c, Q⟩, ⟨z, b, n0, s0⟩, D, cy⟩ := X
  obtain ⟨hx, hb, hml, hown, hts, hK, hlk, hR, e1, e2, hz⟩ := hX
  intro H locs ls cells slots h1 h2 h3 h4 h5 h6
  exact lv_icmp_gt hx hb hd ht (fun hc => kt hc H locs ls cells slots h1 h2 h3 h4 h5 h6) (fun hc => kf hc H locs ls cells slots h1 h2 h3 h4 h5 h6)
theorem v_if_le (hX : CO X own cc nL d mc ms n1 s1) {x : Int32} {off : Int} {tgt : Nat} (hd : decode cc pc = .ok (.ifCond .le off, 3)) (ht : (pc : Int) + off = (tgt : Int)) (kt : x ≤ 0 → VW X tgt lo st G) (kf : ¬ x ≤ 0 → VW X (pc + 3) lo st G) : VW X pc lo (vI x :: st) G := by
  obtain ⟨⟨p, l, e, R, s, m, args, below, meth, c, Q⟩, ⟨z, b, n0, s0⟩, D, cy⟩ := X
  obtain ⟨hx, hb, hml, hown, hts, hK, hlk, hR, e1, e2, hz⟩ := hX
  intro H locs ls cells slots h1 h2 h3 h4 h5 h6
  exact lv_if_le hx hb hd ht (fun hc => kt hc H locs ls cells slots h1 h2 h3 h4 h5 h6) (fun hc => kf hc H locs ls cells slots h1 h2 h3 h4 h5 h6)
theorem v_icmp_le (hX : CO X own cc nL d mc ms n1 s1) {x y : Int32} {off : Int} {tgt : Nat} (hd : decode cc pc = .ok (.if_icmp .le off, 3)) (ht : (pc : Int) + off = (tgt : Int)) (kt : x ≤ y → VW X tgt lo st G) (kf : ¬ x ≤ y → VW X (pc + 3) lo st G) : VW X pc lo (vI y :: vI x :: st) G := by
  obtain ⟨⟨p, l, e, R, s, m, args, below, meth, c, Q⟩, ⟨z, b, n0, s0⟩, D, cy⟩ := X
  obtain ⟨hx, hb, hml, hown, hts, hK, hlk, hR, e1, e2, hz⟩ := hX
  intro H locs ls cells slots h1 h2 h3 h4 h5 h6
  exact lv_icmp_le hx hb hd ht (fun hc => kt hc H locs ls cells slots h1 h2 h3 h4 h5 h6) (fun hc => kf hc H locs ls cells slots h1 h2 h3 h4 h5 h6)
theorem v_goto (hX : CO X own cc nL d mc ms n1 s1) {off : Int} {tgt : Nat} (hd : decode cc pc = .ok (.goto off, 3)) (ht : (pc : Int) + off = (tgt : Int)) (k : VW X tgt lo st G) : VW X pc lo st G := by
  obtain ⟨⟨p, l, e, R, s, m, args, below, meth, c, Q⟩, ⟨z, b, n0, s0⟩, D, cy⟩ := X
  obtain ⟨hx, hb, hml, hown, hts, hK, hlk, hR, e1, e2, hz⟩ := hX
  intro H locs ls cells slots h1 h2 h3 h4 h5 h6
  exact lv_goto hx hb hd ht (k H locs ls cells slots h1 h2 h3 h4 h5 h6)
theorem v_ifnull (hX : CO X own cc nL d mc ms n1 s1) {r : Nat} {off : Int} {tgt : Nat} (hd : decode cc pc = .ok (.ifnull off, 3)) (ht : (pc : Int) + off = (tgt : Int)) (kt : r = 0 → VW X tgt lo st G) (kf : ¬ r = 0 → VW X (pc + 3) lo st G) : VW X pc lo (vR r :: st) G := by
  obtain ⟨⟨p, l, e, R, s, m, args, below, meth, c, Q⟩, ⟨z, b, n0, s0⟩, D, cy⟩ := X
  obtain ⟨hx, hb, hml, hown, hts, hK, hlk, hR, e1, e2, hz⟩ := hX
  intro H locs ls cells slots h1 h2 h3 h4 h5 h6
  rw [show (vR r :: st).map (cv z b) = cvR z b r :: st.map (cv z b) from rfl]
  by_cases hr : r = 0
  · have k := kt hr H locs ls cells slots h1 h2 h3 h4 h5 h6
    rw [show cvR z b r = .null by rw [hr]; rfl]
    exact lv_ifnullN hx hb hd ht k
  · have k := kf hr H locs ls cells slots h1 h2 h3 h4 h5 h6
    obtain ⟨a, ha⟩ := cvR_ne (z := z) (b := b) hr
    rw [ha]
    exact lv_ifnull hx hb hd k
theorem v_ifnonnull (hX : CO X own cc nL d mc ms n1 s1) {r : Nat} {off : Int} {tgt : Nat} (hd : decode cc pc = .ok (.ifnonnull off, 3)) (ht : (pc : Int) + off = (tgt : Int)) (kt : ¬ r = 0 → VW X tgt lo st G) (kf : r = 0 → VW X (pc + 3) lo st G) : VW X pc lo (vR r :: st) G := by
  obtain ⟨⟨p, l, e, R, s, m, args, below, meth, c, Q⟩, ⟨z, b, n0, s0⟩, D, cy⟩ := X
  obtain ⟨hx, hb, hml, hown, hts, hK, hlk, hR, e1, e2, hz⟩ := hX
  intro H locs ls cells slots h1 h2 h3 h4 h5 h6
  rw [show (vR r :: st).map (cv z b) = cvR z b r :: st.map (cv z b) from rfl]
  by_cases hr : r = 0
  · have k := kf hr H locs ls cells slots h1 h2 h3 h4 h5 h6
    rw [show cvR z b r = .null by rw [hr]; rfl]
    exact lv_ifnonnullN hx hb hd k
  · have k := kt hr H locs ls cells slots h1 h2 h3 h4 h5 h6
    obtain ⟨a, ha⟩ := cvR_ne (z := z) (b := b) hr
    rw [ha]
    exact lv_ifnonnull hx hb hd ht k
theorem v_tabIn (hX : CO X own cc nL d mc ms n1 s1) {dflt lw hi : Int} {offs : Array Int} {len : Nat} {x y : Int32} {off : Int} {tgt : Nat} (he : x = y) (hd : decode cc pc = .ok (.tableswitch dflt lw hi offs, len)) (g1 : ¬ y.toInt < lw) (g2 : ¬ hi < y.toInt) (ho : offs[(y.toInt - lw).toNat]? = some off) (ht : (pc : Int) + off = (tgt : Int)) (k : VW X tgt lo st G) : VW X pc lo (vI x :: st) G := by
  subst he
  obtain ⟨⟨p, l, e, R, s, m, args, below, meth, c, Q⟩, ⟨z, b, n0, s0⟩, D, cy⟩ := X
  obtain ⟨hx, hb, hml, hown, hts, hK, hlk, hR, e1, e2, hz⟩ := hX
  intro H locs ls cells slots h1 h2 h3 h4 h5 h6
  exact lv_tableIn hx hb hd g1 g2 ho ht (k H locs ls cells slots h1 h2 h3 h4 h5 h6)
theorem v_tabOut (hX : CO X own cc nL d mc ms n1 s1) {dflt lw hi : Int} {offs : Array Int} {len : Nat} {x : Int32} {tgt : Nat} (hd : decode cc pc = .ok (.tableswitch dflt lw hi offs, len)) (g : x.toInt < lw ∨ hi < x.toInt) (ht : (pc : Int) + dflt = (tgt : Int)) (k : VW X tgt lo st G) : VW X pc lo (vI x :: st) G := by
  obtain ⟨⟨p, l, e, R, s, m, args, below, meth, c, Q⟩, ⟨z, b, n0, s0⟩, D, cy⟩ := X
  obtain ⟨hx, hb, hml, hown, hts, hK, hlk, hR, e1, e2, hz⟩ := hX
  intro H locs ls cells slots h1 h2 h3 h4 h5 h6
  exact lv_tableOut hx hb hd g ht (k H locs ls cells slots h1 h2 h3 h4 h5 h6)
theorem v_look (hX : CO X own cc nL d mc ms n1 s1) {dflt : Int} {ps : Array (Int × Int)} {len : Nat} {x : Int32} {off : Int} {tgt : Nat} (hd : decode cc pc = .ok (.lookupswitch dflt ps, len)) (hp : (ps.toList.zip (ps.toList.drop 1)).all (fun (a, next) => a.1 < next.1) = true) (ho : Op.lookupswitch.offset ps.toList dflt x.toInt = off) (ht : (pc : Int) + off = (tgt : Int)) (k : VW X tgt lo st G) : VW X pc lo (vI x :: st) G := by
  obtain ⟨⟨p, l, e, R, s, m, args, below, meth, c, Q⟩, ⟨z, b, n0, s0⟩, D, cy⟩ := X
  obtain ⟨hx, hb, hml, hown, hts, hK, hlk, hR, e1, e2, hz⟩ := hX
  intro H locs ls cells slots h1 h2 h3 h4 h5 h6
  exact lv_lookup hx hb hd hp ho ht (k H locs ls cells slots h1 h2 h3 h4 h5 h6)
end ROWS
