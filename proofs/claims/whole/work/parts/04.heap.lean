section HEAP
variable {X : CX} {own : String} {cc : ByteArray} {nL d mc ms n1 s1 : Nat} {pc : Nat} {lo : List (Option AV)} {st : List AV} {G : GG}
theorem IH.addr {z b : Nat} {D : va_G} {cy : Nat → ClassId} {G : GG} {H : Heap} (h : IH z b D cy G H) {r : Nat} {s : Nat × Nat} (h2 : 2 ≤ r) (hs : G.1[r]? = some s) : z + (r - 2) < H.size := by
  have hl := (List.getElem?_eq_some_iff.mp hs).1
  have := h.1
  omega
/-- other cells stay -/
theorem IH.upd {z b : Nat} {D : va_G} {cy : Nat → ClassId} {G G' : GG} {H H1 : Heap} (h : IH z b D cy G H) {r : Nat} {s : Nat × Nat} (h2 : 2 ≤ r) (hs : G.1[r]? = some s) (hz : H1.size = H.size) (ho : ∀ q : Nat, q ≠ z + (r - 2) → H1[q]? = H[q]?) (e1 : G'.1 = G.1) (e2 : ∀ a i, a ≠ r → G'.2.1 a i = G.2.1 a i) (e3 : ∀ a i, a ≠ r → G'.2.2 a i = G.2.2 a i) (hc : cA z b D cy G' r s H1) : IH z b D cy G' H1 := by
  refine ⟨by rw [hz, e1]; exact h.1, by rw [e1]; exact h.2.1, fun r' s' h2' hs' => ?_⟩
  rw [e1] at hs'
  by_cases hr : r' = r
  · subst hr
    cases hs.symm.trans hs'
    exact hc
  · have hq : H1[z + (r' - 2)]? = H[z + (r' - 2)]? := ho _ (by omega)
    obtain ⟨c1, c2, c3⟩ := h.2.2 r' s' h2' hs'
    have f2 : ∀ i, G'.2.1 r' i = G.2.1 r' i := fun i => e2 r' i hr
    have f3 : ∀ i, G'.2.2 r' i = G.2.2 r' i := fun i => e3 r' i hr
    refine ⟨fun q => ?_, fun q => ?_, fun q => ?_⟩
    · obtain ⟨w, w1, w2⟩ := c1 q
      refine ⟨w, w1, (w2.kept hq).to fun k _ => ?_⟩
      unfold sV
      rw [f2, f3]
    · rw [hq, c2 q]
      simp only [f3]
    · rw [hq, c3 q]
      simp only [f2]
theorem sV_I {z b : Nat} {G : GG} {ci r k : Nat} (h : rsT ci k = false) : sV z b G ci r k = .int (G.2.2 r k) := by simp [sV, h]
theorem sV_R {z b : Nat} {G : GG} {ci r k : Nat} (h : rsT ci k = true) : sV z b G ci r k = cvR z b (G.2.1 r k) := by simp [sV, h]
/-- getfield, whatever is in it -/
theorem v_getV (hX : CO X own cc nL d mc ms n1 s1) {idx ci k r : Nat} (hf : FL own idx ci k) (h2 : 2 ≤ r) (hs : G.1[r]? = some (0, ci)) {v : AV} (hv : ∀ z b, sV z b G ci r k = cv z b v) (hd : decode cc pc = .ok (.getfield idx, 3)) (k : VW X (pc + 3) lo (v :: st) G) : VW X pc lo (vR r :: st) G := by
  obtain ⟨⟨p, l, e, R, s, m, args, below, meth, c, Q⟩, ⟨z, b, n0, s0⟩, D, cy⟩ := X
  obtain ⟨hx, hb, hml, hown, hts, hK, hlk, hR, e1, e2, hz⟩ := hX
  intro H locs ls cells slots h1 hh2 h3 h4 h5 h6
  have k := k H locs ls cells slots h1 hh2 h3 h4 h5 h6
  obtain ⟨q, hq, hkN, hlink⟩ := hf
  obtain ⟨q', hq', cell, c1, c2, c3, c4⟩ := (h1.2.2 r (0, ci) h2 hs).1 rfl
  cases hq.symm.trans hq'
  obtain ⟨hS, hfc, kC, hkC, hkind⟩ := hK.1.1 ci _ hq
  obtain ⟨cf, kf, fi, f, hi, hsl⟩ := hS _ hkN
  rw [show (vR r :: st).map (cv z b) = cvR z b r :: st.map (cv z b) from rfl, cvR_2 h2]
  refine W.getf hx hb hown (hts _ hlink) hi (u_facts hfc hkC (u_lays hts (CL_ok ci q hq).1 hkN) hi).1 c1 (by rw [c3]; exact fun h => by cases h) (v := cv z b v) ?_ rfl rfl hd k
  rw [hsl, c4 _ hkN]
  exact congrArg some (hv z b)
theorem v_getI (hX : CO X own cc nL d mc ms n1 s1) {idx ci k r : Nat} (hf : FL own idx ci k) (ht : rsT ci k = false) (h2 : 2 ≤ r) (hs : G.1[r]? = some (0, ci)) (hd : decode cc pc = .ok (.getfield idx, 3)) (k : VW X (pc + 3) lo (vI (G.2.2 r k) :: st) G) : VW X pc lo (vR r :: st) G :=
  v_getV hX hf h2 hs (v := vI (G.2.2 r _)) (fun z b => sV_I ht) hd k
theorem v_getR (hX : CO X own cc nL d mc ms n1 s1) {idx ci k r : Nat} (hf : FL own idx ci k) (ht : rsT ci k = true) (h2 : 2 ≤ r) (hs : G.1[r]? = some (0, ci)) (hd : decode cc pc = .ok (.getfield idx, 3)) (k : VW X (pc + 3) lo (vR (G.2.1 r k) :: st) G) : VW X pc lo (vR r :: st) G :=
  v_getV hX hf h2 hs (v := vR (G.2.1 r _)) (fun z b => sV_R ht) hd k
theorem v_putI (hX : CO X own cc nL d mc ms n1 s1) {idx ci k r : Nat} {x : Int32} (hf : FL own idx ci k) (ht : rsT ci k = false) (hfin : ∀ q : vw_C, CL[ci]? = some q → (q.2.1 k).2.2.2 = false) (h2 : 2 ≤ r) (hs : G.1[r]? = some (0, ci)) (hn : narrow (tyF ci k) (.int x) = .int x) (hfit : fits (tyF ci k) (.int x) = true) (hd : decode cc pc = .ok (.putfield idx, 3)) (k : VW X (pc + 3) lo st (sI G r k x)) : VW X pc lo (vI x :: vR r :: st) G := by
  obtain ⟨⟨p, l, e, R, s, m, args, below, meth, c, Q⟩, ⟨z, b, n0, s0⟩, D, cy⟩ := X
  obtain ⟨hx, hb, hml, hown, hts, hK, hlk, hR, e1, e2, hz⟩ := hX
  intro H locs ls cells slots h1 hh2 h3 h4 h5 h6
  rename_i kk
  obtain ⟨q, hq, hkN, hlink⟩ := hf
  obtain ⟨q', hq', cell, c1, c2, c3, c4⟩ := (h1.2.2 r (0, ci) h2 hs).1 rfl
  cases hq.symm.trans hq'
  obtain ⟨hin, hty, hnm⟩ := CL_ok ci q hq
  have hap := va_apart (own := own) (cl := CL) (D := D) hts hin (tyF ci) hty hnm hK.1 hq
  obtain ⟨hS, hfc, kC, hkC, hkind⟩ := hK.1.1 ci _ hq
  obtain ⟨cf, kf, fi, f, hi, hsl⟩ := hS _ hkN
  have hlay := hts _ (hin _ (u_in_lay hkN))
  unfold u_lay at hlay
  rw [if_neg (by rw [hfin q hq]; decide)] at hlay
  have hst := (u_facts hfc hkC (u_lays hts hin hkN) hi).1
  have hsd := u_store hfc hkC hkind hlay hi (hty _ hkN) hn hfit
  rw [show (vI x :: vR r :: st).map (cv z b) = .int x :: cvR z b r :: st.map (cv z b) from rfl, cvR_2 h2]
  refine W.putK hx hb (f := f) ⟨hown, hts _ hlink, ⟨_, _, _, hi⟩, hst⟩ (by rw [c2]; exact hsd) c1 c3 (by rw [hsl]; exact k2_hasslot (c4 _ hkN)) rfl rfl hd fun H' g1 g2 g3 => ?_
  rw [hsl] at g1 ⊢
  refine k H' _ ls cells slots (h1.upd (G' := sI G r kk x) h2 hs g2 g3 rfl (fun _ _ _ => rfl) (fun a i ha => by simp [sI, upM, ha]) ⟨fun _ => ⟨q, hq, ⟨_, g1, c2, c3, ?_⟩⟩, fun h => absurd h (by simp), fun h => absurd h (by simp)⟩) (fun a ha => (g3 a (Nat.ne_of_lt (Nat.lt_of_lt_of_le ha (Nat.le_add_right _ _)))).trans (hh2 a ha)) (fun a ha => ?_) h4 h5 h6
  · intro j hj
    rw [t_set c4 hap hkN _ j hj]
    congr 1
    unfold updV sV
    by_cases hjk : j = kk
    · subst hjk
      simp [ht, sI, upM]
    · simp [hjk, sI, upM]
  · rcases List.mem_append.mp ha with h | h
    · exact h3 a h
    · rw [List.mem_singleton.mp h]
      exact Nat.le_add_right _ _
def CI (X : CX) : Prop := match X with
  | ((p, l, e, R, s, m, args, below, meth, c, Q), (z, b, n0, s0), D, cy) => meth.name = "<init>"
theorem v_putF (hX : CO X own cc nL d mc ms n1 s1) (hI : CI X) {idx ci k r v : Nat} (hf : FL own idx ci k) (ht : rsT ci k = true) (hfin : ∀ q : vw_C, CL[ci]? = some q → (q.2.1 k).2.2.2 = true ∧ (q.2.1 k).1 = own) (h2 : 2 ≤ r) (hs : G.1[r]? = some (0, ci)) (h2v : 2 ≤ v) (hn : ∀ a, narrow (tyF ci k) (.ref a) = .ref a) (hfit : ∀ a, fits (tyF ci k) (.ref a) = true) (hd : decode cc pc = .ok (.putfield idx, 3)) (k : VW X (pc + 3) lo st (sR G r k v)) : VW X pc lo (vR v :: vR r :: st) G := by
  obtain ⟨⟨p, l, e, R, s, m, args, below, meth, c, Q⟩, ⟨z, b, n0, s0⟩, D, cy⟩ := X
  obtain ⟨hx, hb, hml, hown, hts, hK, hlk, hR, e1, e2, hz⟩ := hX
  intro H locs ls cells slots h1 hh2 h3 h4 h5 h6
  rename_i kk
  obtain ⟨q, hq, hkN, hlink⟩ := hf
  obtain ⟨q', hq', cell, c1, c2, c3, c4⟩ := (h1.2.2 r (0, ci) h2 hs).1 rfl
  cases hq.symm.trans hq'
  obtain ⟨hin, hty, hnm⟩ := CL_ok ci q hq
  have hap := va_apart (own := own) (cl := CL) (D := D) hts hin (tyF ci) hty hnm hK.1 hq
  obtain ⟨hS, hfc, kC, hkC, hkind⟩ := hK.1.1 ci _ hq
  obtain ⟨cf, kf, fi, f, hi, hsl⟩ := hS _ hkN
  have hlay := hts _ (hin _ (u_in_lay hkN))
  unfold u_lay at hlay
  rw [if_pos (hfin q hq).1] at hlay
  have hst := (u_facts hfc hkC (u_lays hts hin hkN) hi).1
  have hcf : m.cls = cf := by
    obtain ⟨_, _, c', _, _, _, -, -, hf', -, -, -, hown2, -⟩ := Cond.laysFinal_spec hlay
    have e1 : c' = cf := by have := hi.symm.trans hf'; simp at this; exact this.1.symm
    rw [(hfin q hq).2] at hown2
    rw [← e1]; exact Option.some.inj (hown.symm.trans hown2)
  have hsd := u_fits hfc hkC hkind (Or.inr hlay) hi (hty _ hkN) (hn (z + (v - 2))) (hfit (z + (v - 2)))
  rw [show (vR v :: vR r :: st).map (cv z b) = cvR z b v :: cvR z b r :: st.map (cv z b) from rfl, cvR_2 h2, cvR_2 h2v]
  refine W.putFinK hx hb hown (hts _ hlink) hi hst hcf hI (by rw [c2]; exact hsd) c1 c3 (by rw [hsl]; exact k2_hasslot (c4 _ hkN)) rfl rfl hd fun H' g1 g2 g3 => ?_
  rw [hsl] at g1 ⊢
  refine k H' _ ls cells slots (h1.upd (G' := sR G r kk v) h2 hs g2 g3 rfl (fun a i ha => by simp [sR, upM, ha]) (fun _ _ _ => rfl) ⟨fun _ => ⟨q, hq, ⟨_, g1, c2, c3, ?_⟩⟩, fun h => absurd h (by simp), fun h => absurd h (by simp)⟩) (fun a ha => (g3 a (Nat.ne_of_lt (Nat.lt_of_lt_of_le ha (Nat.le_add_right _ _)))).trans (hh2 a ha)) (fun a ha => ?_) h4 h5 h6
  · intro j hj
    rw [t_set c4 hap hkN _ j hj]
    congr 1
    unfold updV sV
    by_cases hjk : j = kk
    · subst hjk
      simp [ht, sR, upM, cvR_2 h2v]
    · simp [hjk, sR, upM]
  · rcases List.mem_append.mp ha with h | h
    · exact h3 a h
    · rw [List.mem_singleton.mp h]
      exact Nat.le_add_right _ _
theorem v_iald (hX : CO X own cc nL d mc ms n1 s1) {r n : Nat} {i : Int32} (h2 : 2 ≤ r) (hs : G.1[r]? = some (1, n)) (hi : vp_in i n) (hd : decode cc pc = .ok (.iaload, 1)) (k : VW X (pc + 1) lo (vI (G.2.2 r i.toNatClampNeg) :: st) G) : VW X pc lo (vI i :: vR r :: st) G := by
  obtain ⟨⟨p, l, e, R, s, m, args, below, meth, c, Q⟩, ⟨z, b, n0, s0⟩, D, cy⟩ := X
  obtain ⟨hx, hb, hml, hown, hts, hK, hlk, hR, e1, e2, hz⟩ := hX
  intro H locs ls cells slots h1 hh2 h3 h4 h5 h6
  have hc := (h1.2.2 r (1, n) h2 hs).2.1 rfl
  have hlt : i.toNatClampNeg < n := Nat.not_le.mp fun q => hi (Or.inr q)
  rw [show (vI i :: vR r :: st).map (cv z b) = .int i :: cvR z b r :: st.map (cv z b) from rfl, cvR_2 h2]
  exact W.iald (v := .int (G.2.2 r i.toNatClampNeg)) hx hb hc (hK.2.1 n _) (fun q => by cases q) (by rw [arrV_size]; exact hi) (by rw [arrV_read _ _ hlt]) rfl rfl hd (k H locs ls cells slots h1 hh2 h3 h4 h5 h6)
theorem v_iast (hX : CO X own cc nL d mc ms n1 s1) {r n : Nat} {i x : Int32} (h2 : 2 ≤ r) (hs : G.1[r]? = some (1, n)) (hi : vp_in i n) (hd : decode cc pc = .ok (.iastore, 1)) (k : VW X (pc + 1) lo st (sI G r i.toNatClampNeg x)) : VW X pc lo (vI x :: vI i :: vR r :: st) G := by
  obtain ⟨⟨p, l, e, R, s, m, args, below, meth, c, Q⟩, ⟨z, b, n0, s0⟩, D, cy⟩ := X
  obtain ⟨hx, hb, hml, hown, hts, hK, hlk, hR, e1, e2, hz⟩ := hX
  intro H locs ls cells slots h1 hh2 h3 h4 h5 h6
  have hc := (h1.2.2 r (1, n) h2 hs).2.1 rfl
  rw [show (vI x :: vI i :: vR r :: st).map (cv z b) = .int x :: .int i :: cvR z b r :: st.map (cv z b) from rfl, cvR_2 h2]
  refine W.iast hx hb hc (hK.2.1 n _) (fun q => by cases q) (by rw [arrV_size]; exact hi) rfl rfl hd fun H' g1 g2 g3 => ?_
  refine k H' _ ls cells slots (h1.upd (G' := sI G r i.toNatClampNeg x) h2 hs g2 g3 rfl (fun _ _ _ => rfl) (fun a j ha => by simp [sI, upM, ha]) ⟨fun h => absurd h (by simp), fun _ => ?_, fun h => absurd h (by simp)⟩) (fun a ha => (g3 a (Nat.ne_of_lt (Nat.lt_of_lt_of_le ha (Nat.le_add_right _ _)))).trans (hh2 a ha)) (fun a ha => ?_) h4 h5 h6
  · rw [g1, arrV_store]
    congr 2
    funext j
    by_cases hj : j = i.toNatClampNeg
    · simp [updV, sI, upM, hj]
    · simp [updV, sI, upM, hj]
  · rcases List.mem_append.mp ha with h | h
    · exact h3 a h
    · rw [List.mem_singleton.mp h]
      exact Nat.le_add_right _ _
theorem cy_ref {D : va_G} {cy : Nat → ClassId} {s : State} (hK : KK D cy s) {c : Nat} (hc : c = 0 ∨ c = 1 ∨ c = 5) : ArrOfT s (cy (c + 2 - 1)) (.object (cNm c)) ∧ va_RA s (cy (c + 2 - 1)) (.object (cNm c)) ∧ va_AO (cNm c) s := hK.2.2.2.1 c hc
theorem v_aald (hX : CO X own cc nL d mc ms n1 s1) {r c n : Nat} {i : Int32} (hcc : c = 0 ∨ c = 1 ∨ c = 5) (h2 : 2 ≤ r) (hs : G.1[r]? = some (c + 2, n)) (hi : vp_in i n) (hd : decode cc pc = .ok (.aaload, 1)) (k : VW X (pc + 1) lo (vR (G.2.1 r i.toNatClampNeg) :: st) G) : VW X pc lo (vI i :: vR r :: st) G := by
  obtain ⟨⟨p, l, e, R, s, m, args, below, meth, c, Q⟩, ⟨z, b, n0, s0⟩, D, cy⟩ := X
  obtain ⟨hx, hb, hml, hown, hts, hK, hlk, hR, e1, e2, hz⟩ := hX
  intro H locs ls cells slots h1 hh2 h3 h4 h5 h6
  have hc := (h1.2.2 r (_, n) h2 hs).2.2 (Nat.le_add_left 2 _)
  have hlt : i.toNatClampNeg < n := Nat.not_le.mp fun q => hi (Or.inr q)
  rw [show (vI i :: vR r :: st).map (cv z b) = .int i :: cvR z b r :: st.map (cv z b) from rfl, cvR_2 h2]
  exact W.aald (v := cvR z b (G.2.1 r i.toNatClampNeg)) hx hb hc ((cy_ref hK hcc).1 n _) rfl (fun q => by cases q) (by rw [arrV_size]; exact hi) (by rw [arrV_read _ _ hlt]) rfl rfl hd (k H locs ls cells slots h1 hh2 h3 h4 h5 h6)
theorem v_aast (hX : CO X own cc nL d mc ms n1 s1) {r v c n : Nat} {i : Int32} (hcc : c = 0 ∨ c = 1 ∨ c = 5) (h2 : 2 ≤ r) (hs : G.1[r]? = some (c + 2, n)) (h2v : 2 ≤ v) (hsv : G.1[v]? = some (0, c)) (hi : vp_in i n) (hd : decode cc pc = .ok (.aastore, 1)) (k : VW X (pc + 1) lo st (sR G r i.toNatClampNeg v)) : VW X pc lo (vR v :: vI i :: vR r :: st) G := by
  obtain ⟨⟨p, l, e, R, s, m, args, below, meth, co, Q⟩, ⟨z, b, n0, s0⟩, D, cy⟩ := X
  obtain ⟨hx, hb, hml, hown, hts, hK, hlk, hR, e1, e2, hz⟩ := hX
  intro H locs ls cells slots h1 hh2 h3 h4 h5 h6
  have hc := (h1.2.2 r (_, n) h2 hs).2.2 (Nat.le_add_left 2 _)
  have hlt : i.toNatClampNeg < n := Nat.not_le.mp fun q => hi (Or.inr q)
  have h0 : ¬ i < 0 := fun q => hi (Or.inl q)
  obtain ⟨q, hq, cellV, g1, g2, g3, -⟩ := (h1.2.2 v (0, c) h2v hsv).1 rfl
  have hcls := (hK.1.1 c q hq).2
  have hnm : cNm c = q.1 := by simp [cNm, hq]
  have hra := (cy_ref hK hcc).2.1
  rw [hnm] at hra
  obtain ⟨kA, comp, k1, k2, k3, -⟩ := hra
  have hcomp : comp = D.1 c := Option.some.inj (k3.symm.trans hcls.1)
  subst hcomp
  obtain ⟨kC, hkC, -⟩ := hcls.2
  rw [show (vR v :: vI i :: vR r :: st).map (cv z b) = cvR z b v :: .int i :: cvR z b r :: st.map (cv z b) from rfl, cvR_2 h2, cvR_2 h2v]
  refine W.aast hx hb hc (fun q h => by cases h) (fun h => by cases h) k1 k2 rfl hkC ⟨h0, by rw [arrV_size]; exact hlt⟩ g1 (fun q h => by rw [g3] at h; cases h) (by rw [g2]; exact hkC) (by rw [g2]; exact va_assign hcls) rfl rfl hd fun H' f1 f2 f3 => ?_
  refine k H' _ ls cells slots (h1.upd (G' := sR G r i.toNatClampNeg v) h2 hs f2 f3 rfl (fun a j ha => by simp [sR, upM, ha]) (fun _ _ _ => rfl) ⟨fun h => absurd h (by simp), fun h => absurd h (by simp), fun _ => ?_⟩) (fun a ha => (f3 a (Nat.ne_of_lt (Nat.lt_of_lt_of_le ha (Nat.le_add_right _ _)))).trans (hh2 a ha)) (fun a ha => ?_) h4 h5 h6
  · rw [f1, arrV_store]
    congr 2
    funext j
    by_cases hj : j = i.toNatClampNeg
    · simp [updV, sR, upM, hj, cvR_2 h2v]
    · simp [updV, sR, upM, hj]
  · rcases List.mem_append.mp ha with h | h
    · exact h3 a h
    · rw [List.mem_singleton.mp h]
      exact Nat.le_add_right _ _
theorem v_alen (hX : CO X own cc nL d mc ms n1 s1) {r n : Nat} {v : Int32} (h2 : 2 ≤ r) (hs : G.1[r]? = some (1, n)) (hv : Int32.ofNat n = v) (hd : decode cc pc = .ok (.arraylength, 1)) (k : VW X (pc + 1) lo (vI v :: st) G) : VW X pc lo (vR r :: st) G := by
  obtain ⟨⟨p, l, e, R, s, m, args, below, meth, c, Q⟩, ⟨z, b, n0, s0⟩, D, cy⟩ := X
  obtain ⟨hx, hb, hml, hown, hts, hK, hlk, hR, e1, e2, hz⟩ := hX
  intro H locs ls cells slots h1 hh2 h3 h4 h5 h6
  have hc := (h1.2.2 r (1, n) h2 hs).2.1 rfl
  rw [show (vR r :: st).map (cv z b) = cvR z b r :: st.map (cv z b) from rfl, cvR_2 h2]
  exact W.alen (n := v) hx hb hc (hK.2.1 n _) (by rw [arrV_size]; exact hv) rfl rfl hd (k H locs ls cells slots h1 hh2 h3 h4 h5 h6)
theorem v_max (hX : CO X own cc nL d mc ms n1 s1) {idx : Nat} {x y : Int32} (hl : Cond.methodLink own idx Lib.Math.max.name ∈ GW) (hlo : lo.length = nL) (hrm : 1 ≤ d ∧ (st.map catA).sum ≤ 8 ∧ gC G ≤ n1 + mc ∧ gS G ≤ s1 + ms) (hd : decode cc pc = .ok (.invokestatic idx, 3)) (k : VW X (pc + 3) lo (vI (if x < y then y else x) :: st) G) : VW X pc lo (vI y :: vI x :: st) G := by
  obtain ⟨⟨p, l, e, R, s, m, args, below, meth, c, Q⟩, ⟨z, b, n0, s0⟩, D, cy⟩ := X
  obtain ⟨hx, hb, hml, hown, hts, hK, hlk, hR, e1, e2, hz⟩ := hX
  intro H locs ls cells slots h1 hh2 h3 h4 h5 h6
  have hsum : ((st.map (cv z b)).map fun v => v.category).sum = (st.map catA).sum := by
    rw [List.map_map]
    congr 1
    apply List.map_congr_left
    intro v _
    exact cv_cat z b v
  exact va_mmax hx hb (by rw [hml, h6.1, hlo]) hown (hts _ hl) (hts _ ks_max) (hts _ ii_jM) (hts _ k_max) (by omega) (by rw [hsum]; omega) (by omega) (by omega) hd (k H locs ls cells slots h1 hh2 h3 h4 h5 h6)
theorem v_objInit (hX : CO X own cc nL d mc ms n1 s1) {idx r : Nat} (hl : Cond.methodLink own idx objectInit ∈ GW) (hlo : lo.length = nL) (hrm : 1 ≤ d ∧ (st.map catA).sum ≤ 8) (h2 : 2 ≤ r) (hd : decode cc pc = .ok (.invokespecial idx, 3)) (k : VW X (pc + 3) lo st G) : VW X pc lo (vR r :: st) G := by
  obtain ⟨⟨p, l, e, R, s, m, args, below, meth, c, Q⟩, ⟨z, b, n0, s0⟩, D, cy⟩ := X
  obtain ⟨hx, hb, hml, hown, hts, hK, hlk, hR, e1, e2, hz⟩ := hX
  intro H locs ls cells slots h1 hh2 h3 h4 h5 h6
  have hsum : ((st.map (cv z b)).map fun v => v.category).sum = (st.map catA).sum := by
    rw [List.map_map]
    congr 1
    apply List.map_congr_left
    intro v _
    exact cv_cat z b v
  rw [show (vR r :: st).map (cv z b) = cvR z b r :: st.map (cv z b) from rfl, cvR_2 h2]
  refine W.objInit hx hb hown (hts _ hl) (hts _ ki_obj) (hts _ k_obj) rfl (by show ls.size = _; rw [hml, h6.1, hlo]) rfl hd (by omega) (by show 2 * 0 + _ + 12 ≤ _; rw [hsum]; omega) (k H locs ls cells slots h1 hh2 h3 h4 h5 h6)
end HEAP
