/-! New cells, and System.arraycopy, over the abstract frame. -/
theorem CL_def : ∀ (ci : Nat) (q : vw_C), CL[ci]? = some q → ∀ k, k < q.2.2 → defaultValue (tyF ci k) = (if rsT ci k = true then Value.null else .int 0) := by
  intro ci q h
  match ci, h with
  | 0, h => cases h; decide +kernel
  | 1, h => cases h; decide +kernel
  | 2, h => cases h; decide +kernel
  | 3, h => cases h; decide +kernel
  | 4, h => cases h; decide +kernel
  | 5, h => cases h; decide +kernel
  | 6, h => cases h; decide +kernel
  | 7, h => cases h; decide +kernel
  | 8, h => cases h; decide +kernel
  | 9, h => cases h; decide +kernel
  | n + 10, h => simp [CL] at h
section ALLOC
variable {X : CX} {own : String} {cc : ByteArray} {nL d mc ms n1 s1 : Nat} {pc : Nat} {lo : List (Option AV)} {st : List AV} {G : GG}
theorem pO_at {G : GG} {s : Nat × Nat} {r : Nat} {s' : Nat × Nat} (h : (pO G s).1[r]? = some s') : (r < G.1.length ∧ G.1[r]? = some s') ∨ (r = G.1.length ∧ s' = s) := by
  have h : (G.1 ++ [s])[r]? = some s' := h
  by_cases hl : r < G.1.length
  · rw [List.getElem?_append_left hl] at h
    exact Or.inl ⟨hl, h⟩
  · rw [List.getElem?_append_right (by omega)] at h
    have hz : r - G.1.length < 1 := (List.getElem?_eq_some_iff.mp h).1
    rw [show r - G.1.length = 0 by omega] at h
    cases h
    exact Or.inr ⟨by omega, rfl⟩
/-- a cell more, all else as it was -/
theorem IH.push {z b : Nat} {D : va_G} {cy : Nat → ClassId} {G : GG} {H H1 : Heap} (h : IH z b D cy G H) {s : Nat × Nat} (hz : H1.size = H.size + 1) (ho : ∀ q : Nat, q < H.size → H1[q]? = H[q]?) (hc : cA z b D cy (pO G s) G.1.length s H1) : IH z b D cy (pO G s) H1 := by
  obtain ⟨i1, i2, i3⟩ := h
  have hlen : (pO G s).1.length = G.1.length + 1 := by simp [pO]
  refine ⟨by rw [hlen]; omega, by rw [hlen]; omega, fun r s' h2 hs => ?_⟩
  rcases pO_at hs with ⟨hr, hs'⟩ | ⟨hr, hs'⟩
  · have hq : H1[z + (r - 2)]? = H[z + (r - 2)]? := ho _ (by omega)
    obtain ⟨c1, c2, c3⟩ := i3 r s' h2 hs'
    have f2 : ∀ i, (pO G s).2.1 r i = G.2.1 r i := fun i => by simp [pO, Nat.ne_of_lt hr]
    have f3 : ∀ i, (pO G s).2.2 r i = G.2.2 r i := fun i => by simp [pO, Nat.ne_of_lt hr]
    refine ⟨fun q => ?_, fun q => ?_, fun q => ?_⟩
    · obtain ⟨w, w1, w2⟩ := c1 q
      refine ⟨w, w1, (w2.kept hq).to fun k _ => ?_⟩
      unfold sV
      rw [f2, f3]
    · rw [hq, c2 q]
      simp only [f3]
    · rw [hq, c3 q]
      simp only [f2]
  · subst hr; subst hs'
    exact hc
theorem gC_push (G : GG) (s : Nat × Nat) : gC (pO G s) = gC G + 1 := by simp [gC, pO]
theorem gS_push (G : GG) (s : Nat × Nat) : gS (pO G s) = gS G + shS s := by simp [gS, pO]
theorem v_new (hX : CO X own cc nL d mc ms n1 s1) {idx ci n : Nat} {C : String} {T : u_T} (hcl : Cond.classLink own idx C ∈ GW) (hinst : Cond.instantiable C n ∈ GW) (hini : Cond.initialized C ∈ GW) (hc : CL[ci]? = some (C, T, n)) (hrm : gC G + 1 ≤ n1 + mc ∧ gS G + n ≤ s1 + ms) (hd : decode cc pc = .ok (.new idx, 3)) (k : VW X (pc + 3) lo (vR G.1.length :: st) (pO G (0, ci))) : VW X pc lo st G := by
  obtain ⟨⟨p, l, e, R, s, m, args, below, meth, c, Q⟩, ⟨z, b, n0, s0⟩, D, cy⟩ := X
  obtain ⟨hx, hb, hml, hown, hts, hK, hlk, hRm, e1, e2, hz⟩ := hX
  intro H locs ls cells slots h1 h2 h3 h4 h5 h6
  have hKn := hK.1.1 ci _ hc
  obtain ⟨hin, hty, hnm⟩ := CL_ok ci _ hc
  have hsz := h1.1
  have hg2 := h1.2.1
  refine W.newcK hx hb hown (hts _ hcl) (hts _ hinst) (hts _ hini) rfl hd (by omega) (by omega) hKn.2.1 rfl fun H1 kC hkC f1 z1 o1 => ?_
  have hsh : shS (0, ci) = n := by simp only [shS, cN, hc]; rfl
  have hI : IH z b D cy (pO G (0, ci)) H1 := h1.push z1 o1 ⟨fun _ => ⟨_, hc, ?_⟩, fun h => absurd h (by simp), fun h => absurd h (by simp)⟩
  · have hk := k H1 locs ls (cells + 1) (slots + n) hI (fun q hq => (o1 q (by omega)).trans (h2 q hq)) h3 (by rw [gC_push]; omega) (by rw [gS_push, hsh]; omega) h6
    rw [show (vR G.1.length :: st).map (cv z b) = cvR z b G.1.length :: st.map (cv z b) from rfl, cvR_2 hg2, show z + (G.1.length - 2) = H.size by omega] at hk
    exact hk
  · rw [show z + (G.1.length - 2) = H.size by omega]
    refine (u_born (tyF ci) hts hin hKn hkC f1 hty).to fun j hj => ?_
    rw [CL_def ci _ hc j hj]
    unfold sV
    have f2 : (pO G (0, ci)).2.1 G.1.length j = 0 := by simp [pO]
    have f3 : (pO G (0, ci)).2.2 G.1.length j = 0 := by simp [pO]
    rw [f2, f3]
    rfl
theorem v_newarr (hX : CO X own cc nL d mc ms n1 s1) {n : Int32} {N : Nat} (hn : ¬ n < 0) (hN : n.toNatClampNeg = N) (hby : N * 4 ≤ 536870912) (hrm : gC G + 1 ≤ n1 + mc ∧ gS G + N ≤ s1 + ms) (hd : decode cc pc = .ok (.newarray .int, 2)) (k : VW X (pc + 2) lo (vR G.1.length :: st) (pO G (1, N))) : VW X pc lo (vI n :: st) G := by
  obtain ⟨⟨p, l, e, R, s, m, args, below, meth, c, Q⟩, ⟨z, b, n0, s0⟩, D, cy⟩ := X
  obtain ⟨hx, hb, hml, hown, hts, hK, hlk, hRm, e1, e2, hz⟩ := hX
  intro H locs ls cells slots h1 h2 h3 h4 h5 h6
  have hsz := h1.1
  have hg2 := h1.2.1
  refine va_newaK (atype := .int) hx hb (hts _ ac_int) rfl hd rfl hn hN hby (by omega) (by omega) rfl fun H1 cA f1 z1 o1 hAr hNm => ?_
  have hcA : cA = cy 0 := Option.some.inj (hNm.symm.trans hK.2.2.1)
  subst hcA
  have hI : IH z b D cy (pO G (1, N)) H1 := h1.push z1 o1 ⟨fun h => absurd h (by simp), fun _ => ?_, fun h => absurd h (by simp)⟩
  · have hk := k H1 locs ls (cells + 1) (slots + N) hI (fun q hq => (o1 q (by omega)).trans (h2 q hq)) h3 (by rw [gC_push]; omega) (by rw [gS_push]; simp only [shS]; rw [if_neg (by decide)]; omega) h6
    rw [show (vR G.1.length :: st).map (cv z b) = cvR z b G.1.length :: st.map (cv z b) from rfl, cvR_2 hg2, show z + (G.1.length - 2) = H.size by omega] at hk
    exact hk
  · rw [show z + (G.1.length - 2) = H.size by omega, f1]
    congr 2
    funext j
    simp [pO]
    rfl
theorem v_anew (hX : CO X own cc nL d mc ms n1 s1) {idx c N : Nat} {n : Int32} {C : String} (hcc : c = 0 ∨ c = 1 ∨ c = 5) (hC : cNm c = C) (hcl : Cond.classLink own idx C ∈ GW) (hn : ¬ n < 0) (hN : n.toNatClampNeg = N) (hby : N * 4 ≤ 536870912) (hrm : gC G + 1 ≤ n1 + mc ∧ gS G + N ≤ s1 + ms) (hd : decode cc pc = .ok (.anewarray idx, 3)) (k : VW X (pc + 3) lo (vR G.1.length :: st) (pO G (c + 2, N))) : VW X pc lo (vI n :: st) G := by
  obtain ⟨⟨p, l, e, R, s, m, args, below, meth, co, Q⟩, ⟨z, b, n0, s0⟩, D, cy⟩ := X
  obtain ⟨hx, hb, hml, hown, hts, hK, hlk, hRm, e1, e2, hz⟩ := hX
  intro H locs ls cells slots h1 h2 h3 h4 h5 h6
  have hsz := h1.1
  have hg2 := h1.2.1
  subst hN
  obtain ⟨-, g2, g3⟩ := cy_ref hK hcc
  rw [hC] at g2 g3
  refine W.anew hx hb hown (hts _ hcl) (va_AO.use g3) rfl hd rfl hn hby (by omega) (by omega) fun cA kA comp f1 f2 f3 f4 => ?_
  obtain ⟨kA', comp', -, -, -, g4⟩ := g2
  have hcA : cA = cy (c + 2 - 1) := Option.some.inj (f1.symm.trans g4)
  subst hcA
  generalize hH1 : H.push ({ cls := cy (c + 2 - 1), slots := Array.replicate n.toNatClampNeg .null, vm := .none } : Cell) = H1
  have z1 : H1.size = H.size + 1 := by rw [← hH1, Array.size_push]
  have q1 : H1[H.size]? = some (arrV (cy (c + 2 - 1)) n.toNatClampNeg (fun _ => .null)) := by rw [← hH1, Array.getElem?_push_size, ← arrV_new]
  have o1 : ∀ q : Nat, q < H.size → H1[q]? = H[q]? := fun q hq => by rw [← hH1, Array.getElem?_push, if_neg (Nat.ne_of_lt hq)]
  have hI : IH z b D cy (pO G (c + 2, n.toNatClampNeg)) H1 := h1.push z1 o1 ⟨fun h => absurd h (by simp), fun h => absurd h (by simp), fun _ => ?_⟩
  · have hk := k H1 locs ls (cells + 1) (slots + n.toNatClampNeg) hI (fun q hq => (o1 q (by omega)).trans (h2 q hq)) h3 (by rw [gC_push]; omega) (by rw [gS_push]; simp only [shS]; rw [if_neg (by omega)]; omega) h6
    rw [show (vR G.1.length :: st).map (cv z b) = cvR z b G.1.length :: st.map (cv z b) from rfl, cvR_2 hg2, show z + (G.1.length - 2) = H.size by omega] at hk
    exact hk
  · rw [show z + (G.1.length - 2) = H.size by omega, q1]
    congr 2
    funext j
    simp [pO, cvR]
/-- n cells of row r from place sp on go to row a from place dp on -/
def cpM (M : MM) (r a sp dp n : Nat) : MM := fun q i => if q = a then va_cpy (M r) (M a) sp dp n i else M q i
theorem v_copy (hX : CO X own cc nL d mc ms n1 s1) {idx r a n0 n2 : Nat} {sp dp n : Int32} (hl : Cond.methodLink own idx arraycopyName ∈ GW) (h2r : 2 ≤ r) (hsr : G.1[r]? = some (1, n0)) (h2a : 2 ≤ a) (hsa : G.1[a]? = some (1, n2)) (g1 : ¬ sp < 0) (g2 : ¬ dp < 0) (g3 : ¬ n < 0) (g4 : sp.toNatClampNeg + n.toNatClampNeg ≤ n0) (g5 : dp.toNatClampNeg + n.toNatClampNeg ≤ n2) (hlo : lo.length = nL) (hrm : 1 ≤ d ∧ (st.map catA).sum ≤ 8) (hd : decode cc pc = .ok (.invokestatic idx, 3))
    (k : VW X (pc + 3) lo st (G.1, G.2.1, cpM G.2.2 r a sp.toNatClampNeg dp.toNatClampNeg n.toNatClampNeg)) : VW X pc lo (vI n :: vI dp :: vR a :: vI sp :: vR r :: st) G := by
  obtain ⟨⟨p, l, e, R, s, m, args, below, meth, c, Q⟩, ⟨z, b, n0', s0⟩, D, cy⟩ := X
  obtain ⟨hx, hb, hml, hown, hts, hK, hlk, hRm, e1, e2, hz⟩ := hX
  intro H locs ls cells slots h1 h2 h3 h4 h5 h6
  have nn : ∀ z : Int32, ¬ z < 0 → z.toInt = (z.toNatClampNeg : Int) := by
    intro z hz
    have hz0 : (0 : Int) ≤ z.toInt := by
      have := Int32.not_lt.mp hz
      simpa using Int32.le_iff_toInt_le.mp this
    show z.toInt = ((z.toInt.toNat : Nat) : Int)
    omega
  have hc0 := (h1.2.2 r (1, n0) h2r hsr).2.1 rfl
  have hc1 := (h1.2.2 a (1, n2) h2a hsa).2.1 rfl
  have hnf : nativeFrameWords "java/lang/System" "arraycopy" 5 + 11 ≤ 32 := by decide +kernel
  rw [show (vI n :: vI dp :: vR a :: vI sp :: vR r :: st).map (cv z b) = .int n :: .int dp :: cvR z b a :: .int sp :: cvR z b r :: st.map (cv z b) from rfl, cvR_2 h2a, cvR_2 h2r]
  intro T hT XX
  obtain ⟨-, k0, hk0, cm0, hkk0⟩ := hK.2.1 n0 (fun j => .int (G.2.2 r j))
  obtain ⟨-, k1, hk1, cm1, hkk1⟩ := hK.2.1 n2 (fun j => .int (G.2.2 a j))
  obtain ⟨vm', X', step⟩ := XX.arraycopy hx hown (hts _ hl) (hts _ kn_acp) (hts _ ks_acp) (hts _ ii_jS) (src := z + (r - 2)) (dst := z + (a - 2)) (cs := arrV (cy 0) n0 (fun j => .int (G.2.2 r j))) (cd := arrV (cy 0) n2 (fun j => .int (G.2.2 a j))) (srcPos := sp) (destPos := dp) (n := n) (by rw [hT]; exact hc0) (by rw [hT]; exact hc1)
    (fun _ h => by cases h) (fun _ h => by cases h) (fun h => by cases h) (fun h => by cases h) hk0 hk1 hkk0 hkk1 (by simp [refKind]) g1 g2 g3
    (by rw [nn sp g1, nn n g3, arrV_size]; omega)
    (by rw [nn dp g2, nn n g3, arrV_size]; omega)
    (fun vm₁ _ i hi => by
      have e : (arrV (cy 0) n0 (fun j => .int (G.2.2 r j))).slots.getD (sp.toNatClampNeg + i) .null = .int (G.2.2 r (sp.toNatClampNeg + i)) := by
        rw [Array.getD_eq_getD_getElem?, arrV_read _ _ (by omega)]
        rfl
      refine ⟨?_, ?_⟩
      · rw [e]
        rfl
      · rw [e]
        exact trivial)
    (g := F0 m pc ls (.int n :: .int dp :: .ref (z + (a - 2)) :: .int sp :: .ref (z + (r - 2)) :: st.map (cv z b))) rfl (by rw [hml]; show ls.size = _; rw [h6.1, hlo]) (rest := st.map (cv z b)) rfl (by rw [hb]; exact hd) (by omega) (by show 2 * 0 + _ + _ ≤ _; rw [catsum]; omega)
  have hcp : copied (arrV (cy 0) n0 (fun j => .int (G.2.2 r j))) (arrV (cy 0) n2 (fun j => .int (G.2.2 a j))) sp dp n = arrV (cy 0) n2 (fun j => .int (va_cpy (G.2.2 r) (G.2.2 a) sp.toNatClampNeg dp.toNatClampNeg n.toNatClampNeg j)) := va_copied (fun z => .int z) (cy 0) (cy 0) (G.2.2 r) (G.2.2 a) g4
  rw [hcp] at X' step
  have hl' : z + (a - 2) < H.size := (Array.getElem?_eq_some_iff.mp hc1).1
  have hheap : ((T.setVm vm').setCell (z + (a - 2)) (arrV (cy 0) n2 (fun j => .int (va_cpy (G.2.2 r) (G.2.2 a) sp.toNatClampNeg dp.toNatClampNeg n.toNatClampNeg j)))).heap = H.setIfInBounds (z + (a - 2)) (arrV (cy 0) n2 (fun j => .int (va_cpy (G.2.2 r) (G.2.2 a) sp.toNatClampNeg dp.toNatClampNeg n.toNatClampNeg j))) := by rw [← hT]; rfl
  have oq : ∀ q : Nat, q ≠ z + (a - 2) → (H.setIfInBounds (z + (a - 2)) (arrV (cy 0) n2 (fun j => .int (va_cpy (G.2.2 r) (G.2.2 a) sp.toNatClampNeg dp.toNatClampNeg n.toNatClampNeg j))))[q]? = H[q]? := fun q hq => by simp [Array.getElem?_setIfInBounds, Ne.symm hq]
  have hI : IH z b D cy (G.1, G.2.1, cpM G.2.2 r a sp.toNatClampNeg dp.toNatClampNeg n.toNatClampNeg) (H.setIfInBounds (z + (a - 2)) (arrV (cy 0) n2 (fun j => .int (va_cpy (G.2.2 r) (G.2.2 a) sp.toNatClampNeg dp.toNatClampNeg n.toNatClampNeg j)))) := by
    refine h1.upd h2a hsa (by simp) oq rfl (fun _ _ _ => rfl) (fun q i hq => by simp [cpM, hq]) ⟨fun h => absurd h (by simp), fun _ => ?_, fun h => absurd h (by simp)⟩
    simp [Array.getElem?_setIfInBounds, hl', cpM]
  obtain ⟨t, a1, b1⟩ := k _ _ ls cells slots hI (fun q hq => (oq q (by omega)).trans (h2 q hq)) (fun q hq => by
      rcases List.mem_append.mp hq with h | h
      · exact h3 q h
      · obtain ⟨w, -, hw⟩ := List.mem_map.mp h
        rw [← hw]
        exact Nat.le_add_right _ _) h4 h5 h6 _ hheap X'
  exact ⟨t, step t a1, b1⟩
end ALLOC
