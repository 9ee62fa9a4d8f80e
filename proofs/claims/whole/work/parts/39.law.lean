/-! The law: its rows. -/
/-- the script: a row of ints that was there before -/
def SX (X : CX) (L : Nat) (xs : Nat → Int32) : Prop := match X with
  | ((p, l, e, R, s, m, args, below, meth, c, Q), (z, b, n0, s0), D, cy) => va_X b L xs s s.heap ∧ b < z
section LAW
variable {X : CX} {own : String} {cc : ByteArray} {nL d mc ms n1 s1 : Nat} {pc : Nat} {lo : List (Option AV)} {st : List AV} {G : GG}
theorem l_sld (hX : CO X own cc nL d mc ms n1 s1) {L : Nat} {xs : Nat → Int32} (hS : SX X L xs) {i : Int32} (hi : vp_in i L) (hd : decode cc pc = .ok (.iaload, 1)) (k : VW X (pc + 1) lo (vI (xs i.toNatClampNeg) :: st) G) : VW X pc lo (vI i :: vR 1 :: st) G := by
  obtain ⟨⟨p, l, e, R, s, m, args, below, meth, c, Q⟩, ⟨z, b, n0, s0⟩, D, cy⟩ := X
  obtain ⟨hx, hb, hml, hown, hts, hK, hlk, hR, e1, e2, hz⟩ := hX
  obtain ⟨⟨scr, q1, q2, q3, q4, q5⟩, hbz⟩ := hS
  intro H locs ls cells slots h1 hh2 h3 h4 h5 h6
  have hlt : i.toNatClampNeg < L := Nat.not_le.mp fun q => hi (Or.inr q)
  exact W.iald (v := .int (xs i.toNatClampNeg)) hx hb (by rw [hh2 b hbz]; exact q1) q2 q3 (by rw [q4]; exact hi) (q5 _ hlt) rfl rfl hd (k H locs ls cells slots h1 hh2 h3 h4 h5 h6)
theorem l_slen (hX : CO X own cc nL d mc ms n1 s1) {L : Nat} {xs : Nat → Int32} (hS : SX X L xs) (hd : decode cc pc = .ok (.arraylength, 1)) (k : VW X (pc + 1) lo (vI (i3 L) :: st) G) : VW X pc lo (vR 1 :: st) G := by
  obtain ⟨⟨p, l, e, R, s, m, args, below, meth, c, Q⟩, ⟨z, b, n0, s0⟩, D, cy⟩ := X
  obtain ⟨hx, hb, hml, hown, hts, hK, hlk, hR, e1, e2, hz⟩ := hX
  obtain ⟨⟨scr, q1, q2, q3, q4, q5⟩, hbz⟩ := hS
  intro H locs ls cells slots h1 hh2 h3 h4 h5 h6
  exact W.alen (n := Int32.ofNat L) hx hb (by rw [hh2 b hbz]; exact q1) q2 (by rw [q4] <;> rfl) rfl rfl hd (k H locs ls cells slots h1 hh2 h3 h4 h5 h6)
theorem l_callV (hX : CO X own cc nL d mc ms n1 s1) {M M1 : MM} {y : MethodName} {C : String} {bytes : ByteArray} {maxL n idx d' r ci : Nat} {ret : Option FieldType} {as S : List AV} {v : AV} (hk : YI y bytes maxL ret n) (hi : Cond.instanceMethod y ∈ GW) (hs : Cond.selects C y y ∈ GW) (hl : Cond.methodLink own idx y ∈ GW) (hM : AF y bytes maxL ret d' (vR r :: as) M (some v) M1) (hsr : SH[r]? = some (0, ci)) (hC : cNm ci = C) (hst : S = as.reverse ++ vR r :: st) (hn : as.length = n) (hlo : lo.length = nL) (r1 : d' + 1 ≤ d) (r2 : maxL ≤ 21) (r3 : (st.map catA).sum ≤ 8) (g1 : SH.length ≤ n1 + mc) (g2 : SZ ≤ s1 + ms) (hd : decode cc pc = .ok (.invokevirtual idx, 3)) (k : VW X (pc + 3) lo (v :: st) (gM M1)) : VW X pc lo S (gM M) :=
  v_callV hX hk hi hs hl hM (sh_two hsr) hsr (fun q hq => by rw [← hC]; simp [cNm, hq]) hst hn hlo ⟨r1, r2, r3, g1, g2⟩ (fun r G' h => by rw [h.2]; exact ⟨rfl, rfl⟩) hd (fun r G' h => by obtain ⟨rfl, rfl⟩ := h; exact k)
end LAW
