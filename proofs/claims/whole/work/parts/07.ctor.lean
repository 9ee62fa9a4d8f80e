/-! The constructors, walked on the one heap that they are called on; g_0, g_1 .. are the heaps in their order. -/
def Fr (G : GG) : Prop := ∀ a, G.1.length ≤ a → ∀ i, G.2.1 a i = 0 ∧ G.2.2 a i = 0
def aO (G : GG) (s : Nat × Nat) : GG := (G.1 ++ [s], G.2.1, G.2.2)
theorem pO_aO {G : GG} (h : Fr G) (s : Nat × Nat) : pO G s = aO G s := by
  unfold pO aO
  congr 2
  · funext a i
    by_cases e : a = G.1.length
    · rw [if_pos e]; exact ((h a (by omega) i).1).symm
    · rw [if_neg e]
  · funext a i
    by_cases e : a = G.1.length
    · rw [if_pos e]; exact ((h a (by omega) i).2).symm
    · rw [if_neg e]
theorem Fr.aO {G : GG} (h : Fr G) (s : Nat × Nat) : Fr (aO G s) := fun a ha i => h a (by have ha : (G.1 ++ [s]).length ≤ a := ha; rw [List.length_append] at ha; omega) i
theorem Fr.sI {G : GG} (h : Fr G) {r k : Nat} {x : Int32} (hr : r < G.1.length) : Fr (sI G r k x) := fun a ha i => ⟨(h a ha i).1, by
  have ha : G.1.length ≤ a := ha
  show upM G.2.2 r k x a i = 0
  unfold upM
  rw [if_neg (by omega)]
  exact (h a ha i).2⟩
theorem Fr.sR {G : GG} (h : Fr G) {r k x : Nat} (hr : r < G.1.length) : Fr (sR G r k x) := fun a ha i => ⟨by
  have ha : G.1.length ≤ a := ha
  show upM G.2.1 r k x a i = 0
  unfold upM
  rw [if_neg (by omega)]
  exact (h a ha i).1, (h a ha i).2⟩
section CT
variable {X : CX} {own : String} {cc : ByteArray} {nL d mc ms n1 s1 : Nat} {pc : Nat} {lo : List (Option AV)} {st : List AV} {G G' : GG}
theorem w_new (hX : CO X own cc nL d mc ms n1 s1) (hF : Fr G) {idx ci n r : Nat} {C : String} {T : u_T} (hcl : Cond.classLink own idx C ∈ GW) (hinst : Cond.instantiable C n ∈ GW) (hini : Cond.initialized C ∈ GW) (hc : CL[ci]? = some (C, T, n)) (hlen : G.1.length = r) (hrm : gC G + 1 ≤ n1 + mc ∧ gS G + n ≤ s1 + ms) (hg : G' = aO G (0, ci)) (hd : decode cc pc = .ok (.new idx, 3)) (k : VW X (pc + 3) lo (vR r :: st) G') : VW X pc lo st G := by
  subst hlen; subst hg
  refine v_new hX hcl hinst hini hc hrm hd ?_
  rw [pO_aO hF]
  exact k
theorem w_newarr (hX : CO X own cc nL d mc ms n1 s1) (hF : Fr G) {n : Int32} {N r : Nat} (hn : ¬ n < 0) (hN : n.toNatClampNeg = N) (hby : N * 4 ≤ 536870912) (hlen : G.1.length = r) (hrm : gC G + 1 ≤ n1 + mc ∧ gS G + N ≤ s1 + ms) (hg : G' = aO G (1, N)) (hd : decode cc pc = .ok (.newarray .int, 2)) (k : VW X (pc + 2) lo (vR r :: st) G') : VW X pc lo (vI n :: st) G := by
  subst hlen; subst hg
  refine v_newarr hX hn hN hby hrm hd ?_
  rw [pO_aO hF]
  exact k
theorem w_anew (hX : CO X own cc nL d mc ms n1 s1) (hF : Fr G) {idx c N r : Nat} {n : Int32} {C : String} (hcc : c = 0 ∨ c = 1 ∨ c = 5) (hC : cNm c = C) (hcl : Cond.classLink own idx C ∈ GW) (hn : ¬ n < 0) (hN : n.toNatClampNeg = N) (hby : N * 4 ≤ 536870912) (hlen : G.1.length = r) (hrm : gC G + 1 ≤ n1 + mc ∧ gS G + N ≤ s1 + ms) (hg : G' = aO G (c + 2, N)) (hd : decode cc pc = .ok (.anewarray idx, 3)) (k : VW X (pc + 3) lo (vR r :: st) G') : VW X pc lo (vI n :: st) G := by
  subst hlen; subst hg
  refine v_anew hX hcc hC hcl hn hN hby hrm hd ?_
  rw [pO_aO hF]
  exact k
theorem w_getR (hX : CO X own cc nL d mc ms n1 s1) {idx ci k r v : Nat} (hf : FL own idx ci k) (ht : rsT ci k = true) (h2 : 2 ≤ r) (hs : G.1[r]? = some (0, ci)) (hv : G.2.1 r k = v) (hd : decode cc pc = .ok (.getfield idx, 3)) (k : VW X (pc + 3) lo (vR v :: st) G) : VW X pc lo (vR r :: st) G := by
  subst hv
  exact v_getR hX hf ht h2 hs hd k
theorem w_aast (hX : CO X own cc nL d mc ms n1 s1) {r v c n j : Nat} {i : Int32} (hcc : c = 0 ∨ c = 1 ∨ c = 5) (h2 : 2 ≤ r) (hs : G.1[r]? = some (c + 2, n)) (h2v : 2 ≤ v) (hsv : G.1[v]? = some (0, c)) (hi : vp_in i n) (hj : i.toNatClampNeg = j) (hg : G' = sR G r j v) (hd : decode cc pc = .ok (.aastore, 1)) (k : VW X (pc + 1) lo st G') : VW X pc lo (vR v :: vI i :: vR r :: st) G := by
  subst hj; subst hg
  exact v_aast hX hcc h2 hs h2v hsv hi hd k
theorem w_iast (hX : CO X own cc nL d mc ms n1 s1) {r n j : Nat} {i x : Int32} (h2 : 2 ≤ r) (hs : G.1[r]? = some (1, n)) (hi : vp_in i n) (hj : i.toNatClampNeg = j) (hg : G' = sI G r j x) (hd : decode cc pc = .ok (.iastore, 1)) (k : VW X (pc + 1) lo st G') : VW X pc lo (vI x :: vI i :: vR r :: st) G := by
  subst hj; subst hg
  exact v_iast hX h2 hs hi hd k
theorem w_putF (hX : CO X own cc nL d mc ms n1 s1) (hI : CI X) {idx ci k r v : Nat} (hf : FL own idx ci k) (ht : rsT ci k = true) (hfin : ∀ q : vw_C, CL[ci]? = some q → (q.2.1 k).2.2.2 = true ∧ (q.2.1 k).1 = own) (h2 : 2 ≤ r) (hs : G.1[r]? = some (0, ci)) (h2v : 2 ≤ v) (hn : ∀ a, narrow (tyF ci k) (.ref a) = .ref a) (hfit : ∀ a, fits (tyF ci k) (.ref a) = true) (hg : G' = sR G r k v) (hd : decode cc pc = .ok (.putfield idx, 3)) (kk : VW X (pc + 3) lo st G') : VW X pc lo (vR v :: vR r :: st) G := by
  subst hg
  exact v_putF hX hI hf ht hfin h2 hs h2v hn hfit hd kk
theorem w_putI (hX : CO X own cc nL d mc ms n1 s1) {idx ci k r : Nat} {x : Int32} (hf : FL own idx ci k) (ht : rsT ci k = false) (hfin : ∀ q : vw_C, CL[ci]? = some q → (q.2.1 k).2.2.2 = false) (h2 : 2 ≤ r) (hs : G.1[r]? = some (0, ci)) (hn : narrow (tyF ci k) (.int x) = .int x) (hfit : fits (tyF ci k) (.int x) = true) (hg : G' = sI G r k x) (hd : decode cc pc = .ok (.putfield idx, 3)) (kk : VW X (pc + 3) lo st G') : VW X pc lo (vI x :: vR r :: st) G := by
  subst hg
  exact v_putI hX hf ht hfin h2 hs hn hfit hd kk
/-- the next frame of a walk, as it is printed -/
theorem VW.cast {lo' : List (Option AV)} {st' : List AV} (h1 : lo' = lo) (h2 : st' = st) (h3 : G' = G) (k : VW X pc lo' st' G') : VW X pc lo st G := by
  subst h1; subst h2; subst h3; exact k
end CT
theorem finF {ci : Nat} {C : String} {T : u_T} {N k : Nat} {own : String} (h : CL[ci]? = some (C, T, N)) (h1 : (T k).2.2.2 = true) (h2 : (T k).1 = own) : ∀ q : vw_C, CL[ci]? = some q → (q.2.1 k).2.2.2 = true ∧ (q.2.1 k).1 = own := fun q hq => by
  cases h.symm.trans hq
  exact ⟨h1, h2⟩
theorem finI {ci : Nat} {C : String} {T : u_T} {N k : Nat} (h : CL[ci]? = some (C, T, N)) (h1 : (T k).2.2.2 = false) : ∀ q : vw_C, CL[ci]? = some q → (q.2.1 k).2.2.2 = false := fun q hq => by
  cases h.symm.trans hq
  exact h1
theorem d_Ja_init_0 : decode c_Ja_init 0 = .ok (.aload_n 0, 1) := by decide +kernel
theorem d_Ja_init_1 : decode c_Ja_init 1 = .ok (.invokespecial 3, 3) := by decide +kernel
theorem d_Ja_init_4 : decode c_Ja_init 4 = .ok (.return_, 1) := by decide +kernel
theorem C_Ja_init {G : GG} {r : Nat} (h2 : 2 ≤ r) : AMet y_Ja_init c_Ja_init 1 none 1 0 0 [vR r] G (fun o G' => o = none ∧ G' = G) := by
  refine AMet.of k_Ja_init (lo := [some (vR r)]) rfl (Nat.le_of_ble_eq_true rfl) (fun X hX hR _ => ?_)
  refine v_aload_n (pc := 0) hX rfl d_Ja_init_0 ?_
  refine v_objInit (pc := 1) hX ml_Ja_3 rfl ⟨Nat.le_refl _, Nat.le_of_ble_eq_true rfl⟩ h2 d_Ja_init_1 ?_
  exact v_vret (pc := 4) hX hR rfl rfl ⟨rfl, rfl⟩ d_Ja_init_4
theorem d_De_init_0 : decode c_De_init 0 = .ok (.aload_n 0, 1) := by decide +kernel
theorem d_De_init_1 : decode c_De_init 1 = .ok (.invokespecial 3, 3) := by decide +kernel
theorem d_De_init_4 : decode c_De_init 4 = .ok (.return_, 1) := by decide +kernel
theorem C_De_init {G : GG} {r : Nat} (h2 : 2 ≤ r) : AMet y_De_init c_De_init 1 none 1 0 0 [vR r] G (fun o G' => o = none ∧ G' = G) := by
  refine AMet.of k_De_init (lo := [some (vR r)]) rfl (Nat.le_of_ble_eq_true rfl) (fun X hX hR _ => ?_)
  refine v_aload_n (pc := 0) hX rfl d_De_init_0 ?_
  refine v_objInit (pc := 1) hX ml_De_3 rfl ⟨Nat.le_refl _, Nat.le_of_ble_eq_true rfl⟩ h2 d_De_init_1 ?_
  exact v_vret (pc := 4) hX hR rfl rfl ⟨rfl, rfl⟩ d_De_init_4
theorem d_Te_init_0 : decode c_Te_init 0 = .ok (.aload_n 0, 1) := by decide +kernel
theorem d_Te_init_1 : decode c_Te_init 1 = .ok (.invokespecial 1, 3) := by decide +kernel
theorem d_Te_init_4 : decode c_Te_init 4 = .ok (.return_, 1) := by decide +kernel
theorem C_Te_init {G : GG} {r : Nat} (h2 : 2 ≤ r) : AMet y_Te_init c_Te_init 1 none 1 0 0 [vR r] G (fun o G' => o = none ∧ G' = G) := by
  refine AMet.of k_Te_init (lo := [some (vR r)]) rfl (Nat.le_of_ble_eq_true rfl) (fun X hX hR _ => ?_)
  refine v_aload_n (pc := 0) hX rfl d_Te_init_0 ?_
  refine v_objInit (pc := 1) hX ml_Te_1 rfl ⟨Nat.le_refl _, Nat.le_of_ble_eq_true rfl⟩ h2 d_Te_init_1 ?_
  exact v_vret (pc := 4) hX hR rfl rfl ⟨rfl, rfl⟩ d_Te_init_4
def z0 : Nat → Nat → Nat := fun _ _ => 0
def z1 : Nat → Nat → Int32 := fun _ _ => 0
def g_0 : GG := ([(1, 0), (1, 0)], z0, z1)
theorem f_0 : Fr g_0 := fun _ _ _ => ⟨rfl, rfl⟩
theorem s_0 : g_0.1 = [(1, 0), (1, 0)] := rfl
theorem n_0 : gC g_0 = 2 ∧ gS g_0 = 0 := by unfold gC gS; rw [s_0]; exact ⟨rfl, rfl⟩
def g_1 : GG := aO g_0 (0, 8)
theorem f_1 : Fr g_1 := f_0.aO _
theorem s_1 : g_1.1 = [(1, 0), (1, 0), (0, 8)] := by show g_0.1 ++ _ = _; rw [s_0]; rfl
theorem n_1 : gC g_1 = 3 ∧ gS g_1 = 7 := by unfold gC gS; rw [s_1]; exact ⟨rfl, rfl⟩
theorem d_LJ_init_0 : decode c_LJ_init 0 = .ok (.aload_n 0, 1) := by decide +kernel
theorem d_LJ_init_1 : decode c_LJ_init 1 = .ok (.invokespecial 3, 3) := by decide +kernel
theorem d_LJ_init_4 : decode c_LJ_init 4 = .ok (.aload_n 0, 1) := by decide +kernel
theorem d_LJ_init_5 : decode c_LJ_init 5 = .ok (.new 9, 3) := by decide +kernel
theorem d_LJ_init_8 : decode c_LJ_init 8 = .ok (.dup, 1) := by decide +kernel
theorem d_LJ_init_9 : decode c_LJ_init 9 = .ok (.invokespecial 11, 3) := by decide +kernel
theorem d_LJ_init_12 : decode c_LJ_init 12 = .ok (.putfield 12, 3) := by decide +kernel
theorem d_LJ_init_15 : decode c_LJ_init 15 = .ok (.aload_n 0, 1) := by decide +kernel
theorem d_LJ_init_16 : decode c_LJ_init 16 = .ok (.new 18, 3) := by decide +kernel
theorem d_LJ_init_19 : decode c_LJ_init 19 = .ok (.dup, 1) := by decide +kernel
theorem d_LJ_init_20 : decode c_LJ_init 20 = .ok (.invokespecial 20, 3) := by decide +kernel
theorem d_LJ_init_23 : decode c_LJ_init 23 = .ok (.putfield 21, 3) := by decide +kernel
theorem d_LJ_init_26 : decode c_LJ_init 26 = .ok (.aload_n 0, 1) := by decide +kernel
theorem d_LJ_init_27 : decode c_LJ_init 27 = .ok (.new 25, 3) := by decide +kernel
theorem d_LJ_init_30 : decode c_LJ_init 30 = .ok (.dup, 1) := by decide +kernel
theorem d_LJ_init_31 : decode c_LJ_init 31 = .ok (.invokespecial 27, 3) := by decide +kernel
theorem d_LJ_init_34 : decode c_LJ_init 34 = .ok (.putfield 28, 3) := by decide +kernel
theorem d_LJ_init_37 : decode c_LJ_init 37 = .ok (.aload_n 0, 1) := by decide +kernel
theorem d_LJ_init_38 : decode c_LJ_init 38 = .ok (.new 32, 3) := by decide +kernel
theorem d_LJ_init_41 : decode c_LJ_init 41 = .ok (.dup, 1) := by decide +kernel
theorem d_LJ_init_42 : decode c_LJ_init 42 = .ok (.invokespecial 34, 3) := by decide +kernel
theorem d_LJ_init_45 : decode c_LJ_init 45 = .ok (.putfield 35, 3) := by decide +kernel
theorem d_LJ_init_48 : decode c_LJ_init 48 = .ok (.aload_n 0, 1) := by decide +kernel
theorem d_LJ_init_49 : decode c_LJ_init 49 = .ok (.new 39, 3) := by decide +kernel
theorem d_LJ_init_52 : decode c_LJ_init 52 = .ok (.dup, 1) := by decide +kernel
theorem d_LJ_init_53 : decode c_LJ_init 53 = .ok (.invokespecial 41, 3) := by decide +kernel
theorem d_LJ_init_56 : decode c_LJ_init 56 = .ok (.putfield 42, 3) := by decide +kernel
theorem d_LJ_init_59 : decode c_LJ_init 59 = .ok (.aload_n 0, 1) := by decide +kernel
theorem d_LJ_init_60 : decode c_LJ_init 60 = .ok (.iconst 4, 1) := by decide +kernel
theorem d_LJ_init_61 : decode c_LJ_init 61 = .ok (.anewarray 46, 3) := by decide +kernel
theorem d_LJ_init_64 : decode c_LJ_init 64 = .ok (.putfield 48, 3) := by decide +kernel
theorem d_LJ_init_67 : decode c_LJ_init 67 = .ok (.aload_n 0, 1) := by decide +kernel
theorem d_LJ_init_68 : decode c_LJ_init 68 = .ok (.iconst 0, 1) := by decide +kernel
theorem d_LJ_init_69 : decode c_LJ_init 69 = .ok (.putfield 52, 3) := by decide +kernel
theorem d_LJ_init_72 : decode c_LJ_init 72 = .ok (.iconst 0, 1) := by decide +kernel
theorem d_LJ_init_73 : decode c_LJ_init 73 = .ok (.istore_n 1, 1) := by decide +kernel
theorem d_LJ_init_74 : decode c_LJ_init 74 = .ok (.iload_n 1, 1) := by decide +kernel
theorem d_LJ_init_75 : decode c_LJ_init 75 = .ok (.iconst 4, 1) := by decide +kernel
theorem d_LJ_init_76 : decode c_LJ_init 76 = .ok (.if_icmp .ge 22, 3) := by decide +kernel
theorem d_LJ_init_79 : decode c_LJ_init 79 = .ok (.aload_n 0, 1) := by decide +kernel
theorem d_LJ_init_80 : decode c_LJ_init 80 = .ok (.getfield 48, 3) := by decide +kernel
theorem d_LJ_init_83 : decode c_LJ_init 83 = .ok (.iload_n 1, 1) := by decide +kernel
theorem d_LJ_init_84 : decode c_LJ_init 84 = .ok (.new 46, 3) := by decide +kernel
theorem d_LJ_init_87 : decode c_LJ_init 87 = .ok (.dup, 1) := by decide +kernel
theorem d_LJ_init_88 : decode c_LJ_init 88 = .ok (.invokespecial 56, 3) := by decide +kernel
theorem d_LJ_init_91 : decode c_LJ_init 91 = .ok (.aastore, 1) := by decide +kernel
theorem d_LJ_init_92 : decode c_LJ_init 92 = .ok (.iinc 1 1, 3) := by decide +kernel
theorem d_LJ_init_95 : decode c_LJ_init 95 = .ok (.goto (-21), 3) := by decide +kernel
theorem d_LJ_init_98 : decode c_LJ_init 98 = .ok (.return_, 1) := by decide +kernel
def g_2 : GG := aO g_1 (0, 6)
theorem f_2 : Fr g_2 := f_1.aO _
theorem s_2 : g_2.1 = [(1, 0), (1, 0), (0, 8), (0, 6)] := by show g_1.1 ++ _ = _; rw [s_1]; rfl
theorem n_2 : gC g_2 = 4 ∧ gS g_2 = 11 := by unfold gC gS; rw [s_2]; exact ⟨rfl, rfl⟩
theorem d_Sp_init_0 : decode c_Sp_init 0 = .ok (.aload_n 0, 1) := by decide +kernel
theorem d_Sp_init_1 : decode c_Sp_init 1 = .ok (.invokespecial 3, 3) := by decide +kernel
theorem d_Sp_init_4 : decode c_Sp_init 4 = .ok (.aload_n 0, 1) := by decide +kernel
theorem d_Sp_init_5 : decode c_Sp_init 5 = .ok (.bipush 6, 2) := by decide +kernel
theorem d_Sp_init_7 : decode c_Sp_init 7 = .ok (.anewarray 9, 3) := by decide +kernel
theorem d_Sp_init_10 : decode c_Sp_init 10 = .ok (.putfield 11, 3) := by decide +kernel
theorem d_Sp_init_13 : decode c_Sp_init 13 = .ok (.aload_n 0, 1) := by decide +kernel
theorem d_Sp_init_14 : decode c_Sp_init 14 = .ok (.iconst 4, 1) := by decide +kernel
theorem d_Sp_init_15 : decode c_Sp_init 15 = .ok (.anewarray 17, 3) := by decide +kernel
theorem d_Sp_init_18 : decode c_Sp_init 18 = .ok (.putfield 19, 3) := by decide +kernel
theorem d_Sp_init_21 : decode c_Sp_init 21 = .ok (.iconst 0, 1) := by decide +kernel
theorem d_Sp_init_22 : decode c_Sp_init 22 = .ok (.istore_n 1, 1) := by decide +kernel
theorem d_Sp_init_23 : decode c_Sp_init 23 = .ok (.iload_n 1, 1) := by decide +kernel
theorem d_Sp_init_24 : decode c_Sp_init 24 = .ok (.bipush 6, 2) := by decide +kernel
theorem d_Sp_init_26 : decode c_Sp_init 26 = .ok (.if_icmp .ge 22, 3) := by decide +kernel
theorem d_Sp_init_29 : decode c_Sp_init 29 = .ok (.aload_n 0, 1) := by decide +kernel
theorem d_Sp_init_30 : decode c_Sp_init 30 = .ok (.getfield 11, 3) := by decide +kernel
theorem d_Sp_init_33 : decode c_Sp_init 33 = .ok (.iload_n 1, 1) := by decide +kernel
theorem d_Sp_init_34 : decode c_Sp_init 34 = .ok (.new 9, 3) := by decide +kernel
theorem d_Sp_init_37 : decode c_Sp_init 37 = .ok (.dup, 1) := by decide +kernel
theorem d_Sp_init_38 : decode c_Sp_init 38 = .ok (.invokespecial 23, 3) := by decide +kernel
theorem d_Sp_init_41 : decode c_Sp_init 41 = .ok (.aastore, 1) := by decide +kernel
theorem d_Sp_init_42 : decode c_Sp_init 42 = .ok (.iinc 1 1, 3) := by decide +kernel
theorem d_Sp_init_45 : decode c_Sp_init 45 = .ok (.goto (-22), 3) := by decide +kernel
theorem d_Sp_init_48 : decode c_Sp_init 48 = .ok (.iconst 0, 1) := by decide +kernel
theorem d_Sp_init_49 : decode c_Sp_init 49 = .ok (.istore_n 1, 1) := by decide +kernel
theorem d_Sp_init_50 : decode c_Sp_init 50 = .ok (.iload_n 1, 1) := by decide +kernel
theorem d_Sp_init_51 : decode c_Sp_init 51 = .ok (.iconst 4, 1) := by decide +kernel
theorem d_Sp_init_52 : decode c_Sp_init 52 = .ok (.if_icmp .ge 22, 3) := by decide +kernel
theorem d_Sp_init_55 : decode c_Sp_init 55 = .ok (.aload_n 0, 1) := by decide +kernel
theorem d_Sp_init_56 : decode c_Sp_init 56 = .ok (.getfield 19, 3) := by decide +kernel
theorem d_Sp_init_59 : decode c_Sp_init 59 = .ok (.iload_n 1, 1) := by decide +kernel
theorem d_Sp_init_60 : decode c_Sp_init 60 = .ok (.new 17, 3) := by decide +kernel
theorem d_Sp_init_63 : decode c_Sp_init 63 = .ok (.dup, 1) := by decide +kernel
theorem d_Sp_init_64 : decode c_Sp_init 64 = .ok (.invokespecial 24, 3) := by decide +kernel
theorem d_Sp_init_67 : decode c_Sp_init 67 = .ok (.aastore, 1) := by decide +kernel
theorem d_Sp_init_68 : decode c_Sp_init 68 = .ok (.iinc 1 1, 3) := by decide +kernel
theorem d_Sp_init_71 : decode c_Sp_init 71 = .ok (.goto (-21), 3) := by decide +kernel
theorem d_Sp_init_74 : decode c_Sp_init 74 = .ok (.return_, 1) := by decide +kernel
def g_3 : GG := aO g_2 (3, 6)
theorem f_3 : Fr g_3 := f_2.aO _
theorem s_3 : g_3.1 = [(1, 0), (1, 0), (0, 8), (0, 6), (3, 6)] := by show g_2.1 ++ _ = _; rw [s_2]; rfl
theorem n_3 : gC g_3 = 5 ∧ gS g_3 = 17 := by unfold gC gS; rw [s_3]; exact ⟨rfl, rfl⟩
def g_4 : GG := sR g_3 3 0 4
theorem f_4 : Fr g_4 := f_3.sR (by rw [s_3]; exact Nat.le_of_ble_eq_true rfl)
theorem s_4 : g_4.1 = [(1, 0), (1, 0), (0, 8), (0, 6), (3, 6)] := by show g_3.1 = _; exact s_3
theorem n_4 : gC g_4 = 5 ∧ gS g_4 = 17 := by unfold gC gS; rw [s_4]; exact ⟨rfl, rfl⟩
def g_5 : GG := aO g_4 (2, 4)
theorem f_5 : Fr g_5 := f_4.aO _
theorem s_5 : g_5.1 = [(1, 0), (1, 0), (0, 8), (0, 6), (3, 6), (2, 4)] := by show g_4.1 ++ _ = _; rw [s_4]; rfl
theorem n_5 : gC g_5 = 6 ∧ gS g_5 = 21 := by unfold gC gS; rw [s_5]; exact ⟨rfl, rfl⟩
def g_6 : GG := sR g_5 3 1 5
theorem f_6 : Fr g_6 := f_5.sR (by rw [s_5]; exact Nat.le_of_ble_eq_true rfl)
theorem s_6 : g_6.1 = [(1, 0), (1, 0), (0, 8), (0, 6), (3, 6), (2, 4)] := by show g_5.1 = _; exact s_5
theorem n_6 : gC g_6 = 6 ∧ gS g_6 = 21 := by unfold gC gS; rw [s_6]; exact ⟨rfl, rfl⟩
def g_7 : GG := aO g_6 (0, 1)
theorem f_7 : Fr g_7 := f_6.aO _
theorem s_7 : g_7.1 = [(1, 0), (1, 0), (0, 8), (0, 6), (3, 6), (2, 4), (0, 1)] := by show g_6.1 ++ _ = _; rw [s_6]; rfl
theorem n_7 : gC g_7 = 7 ∧ gS g_7 = 26 := by unfold gC gS; rw [s_7]; exact ⟨rfl, rfl⟩
def g_8 : GG := sR g_7 4 0 6
theorem f_8 : Fr g_8 := f_7.sR (by rw [s_7]; exact Nat.le_of_ble_eq_true rfl)
theorem s_8 : g_8.1 = [(1, 0), (1, 0), (0, 8), (0, 6), (3, 6), (2, 4), (0, 1)] := by show g_7.1 = _; exact s_7
theorem n_8 : gC g_8 = 7 ∧ gS g_8 = 26 := by unfold gC gS; rw [s_8]; exact ⟨rfl, rfl⟩
def g_9 : GG := aO g_8 (0, 1)
theorem f_9 : Fr g_9 := f_8.aO _
theorem s_9 : g_9.1 = [(1, 0), (1, 0), (0, 8), (0, 6), (3, 6), (2, 4), (0, 1), (0, 1)] := by show g_8.1 ++ _ = _; rw [s_8]; rfl
theorem n_9 : gC g_9 = 8 ∧ gS g_9 = 31 := by unfold gC gS; rw [s_9]; exact ⟨rfl, rfl⟩
def g_10 : GG := sR g_9 4 1 7
theorem f_10 : Fr g_10 := f_9.sR (by rw [s_9]; exact Nat.le_of_ble_eq_true rfl)
theorem s_10 : g_10.1 = [(1, 0), (1, 0), (0, 8), (0, 6), (3, 6), (2, 4), (0, 1), (0, 1)] := by show g_9.1 = _; exact s_9
theorem n_10 : gC g_10 = 8 ∧ gS g_10 = 31 := by unfold gC gS; rw [s_10]; exact ⟨rfl, rfl⟩
def g_11 : GG := aO g_10 (0, 1)
theorem f_11 : Fr g_11 := f_10.aO _
theorem s_11 : g_11.1 = [(1, 0), (1, 0), (0, 8), (0, 6), (3, 6), (2, 4), (0, 1), (0, 1), (0, 1)] := by show g_10.1 ++ _ = _; rw [s_10]; rfl
theorem n_11 : gC g_11 = 9 ∧ gS g_11 = 36 := by unfold gC gS; rw [s_11]; exact ⟨rfl, rfl⟩
def g_12 : GG := sR g_11 4 2 8
theorem f_12 : Fr g_12 := f_11.sR (by rw [s_11]; exact Nat.le_of_ble_eq_true rfl)
theorem s_12 : g_12.1 = [(1, 0), (1, 0), (0, 8), (0, 6), (3, 6), (2, 4), (0, 1), (0, 1), (0, 1)] := by show g_11.1 = _; exact s_11
theorem n_12 : gC g_12 = 9 ∧ gS g_12 = 36 := by unfold gC gS; rw [s_12]; exact ⟨rfl, rfl⟩
def g_13 : GG := aO g_12 (0, 1)
theorem f_13 : Fr g_13 := f_12.aO _
theorem s_13 : g_13.1 = [(1, 0), (1, 0), (0, 8), (0, 6), (3, 6), (2, 4), (0, 1), (0, 1), (0, 1), (0, 1)] := by show g_12.1 ++ _ = _; rw [s_12]; rfl
theorem n_13 : gC g_13 = 10 ∧ gS g_13 = 41 := by unfold gC gS; rw [s_13]; exact ⟨rfl, rfl⟩
def g_14 : GG := sR g_13 4 3 9
theorem f_14 : Fr g_14 := f_13.sR (by rw [s_13]; exact Nat.le_of_ble_eq_true rfl)
theorem s_14 : g_14.1 = [(1, 0), (1, 0), (0, 8), (0, 6), (3, 6), (2, 4), (0, 1), (0, 1), (0, 1), (0, 1)] := by show g_13.1 = _; exact s_13
theorem n_14 : gC g_14 = 10 ∧ gS g_14 = 41 := by unfold gC gS; rw [s_14]; exact ⟨rfl, rfl⟩
def g_15 : GG := aO g_14 (0, 1)
theorem f_15 : Fr g_15 := f_14.aO _
theorem s_15 : g_15.1 = [(1, 0), (1, 0), (0, 8), (0, 6), (3, 6), (2, 4), (0, 1), (0, 1), (0, 1), (0, 1), (0, 1)] := by show g_14.1 ++ _ = _; rw [s_14]; rfl
theorem n_15 : gC g_15 = 11 ∧ gS g_15 = 46 := by unfold gC gS; rw [s_15]; exact ⟨rfl, rfl⟩
def g_16 : GG := sR g_15 4 4 10
theorem f_16 : Fr g_16 := f_15.sR (by rw [s_15]; exact Nat.le_of_ble_eq_true rfl)
theorem s_16 : g_16.1 = [(1, 0), (1, 0), (0, 8), (0, 6), (3, 6), (2, 4), (0, 1), (0, 1), (0, 1), (0, 1), (0, 1)] := by show g_15.1 = _; exact s_15
theorem n_16 : gC g_16 = 11 ∧ gS g_16 = 46 := by unfold gC gS; rw [s_16]; exact ⟨rfl, rfl⟩
def g_17 : GG := aO g_16 (0, 1)
theorem f_17 : Fr g_17 := f_16.aO _
theorem s_17 : g_17.1 = [(1, 0), (1, 0), (0, 8), (0, 6), (3, 6), (2, 4), (0, 1), (0, 1), (0, 1), (0, 1), (0, 1), (0, 1)] := by show g_16.1 ++ _ = _; rw [s_16]; rfl
theorem n_17 : gC g_17 = 12 ∧ gS g_17 = 51 := by unfold gC gS; rw [s_17]; exact ⟨rfl, rfl⟩
def g_18 : GG := sR g_17 4 5 11
theorem f_18 : Fr g_18 := f_17.sR (by rw [s_17]; exact Nat.le_of_ble_eq_true rfl)
theorem s_18 : g_18.1 = [(1, 0), (1, 0), (0, 8), (0, 6), (3, 6), (2, 4), (0, 1), (0, 1), (0, 1), (0, 1), (0, 1), (0, 1)] := by show g_17.1 = _; exact s_17
theorem n_18 : gC g_18 = 12 ∧ gS g_18 = 51 := by unfold gC gS; rw [s_18]; exact ⟨rfl, rfl⟩
def g_19 : GG := aO g_18 (0, 0)
theorem f_19 : Fr g_19 := f_18.aO _
theorem s_19 : g_19.1 = [(1, 0), (1, 0), (0, 8), (0, 6), (3, 6), (2, 4), (0, 1), (0, 1), (0, 1), (0, 1), (0, 1), (0, 1), (0, 0)] := by show g_18.1 ++ _ = _; rw [s_18]; rfl
theorem n_19 : gC g_19 = 13 ∧ gS g_19 = 55 := by unfold gC gS; rw [s_19]; exact ⟨rfl, rfl⟩
def g_20 : GG := sR g_19 5 0 12
theorem f_20 : Fr g_20 := f_19.sR (by rw [s_19]; exact Nat.le_of_ble_eq_true rfl)
theorem s_20 : g_20.1 = [(1, 0), (1, 0), (0, 8), (0, 6), (3, 6), (2, 4), (0, 1), (0, 1), (0, 1), (0, 1), (0, 1), (0, 1), (0, 0)] := by show g_19.1 = _; exact s_19
theorem n_20 : gC g_20 = 13 ∧ gS g_20 = 55 := by unfold gC gS; rw [s_20]; exact ⟨rfl, rfl⟩
def g_21 : GG := aO g_20 (0, 0)
theorem f_21 : Fr g_21 := f_20.aO _
theorem s_21 : g_21.1 = [(1, 0), (1, 0), (0, 8), (0, 6), (3, 6), (2, 4), (0, 1), (0, 1), (0, 1), (0, 1), (0, 1), (0, 1), (0, 0), (0, 0)] := by show g_20.1 ++ _ = _; rw [s_20]; rfl
theorem n_21 : gC g_21 = 14 ∧ gS g_21 = 59 := by unfold gC gS; rw [s_21]; exact ⟨rfl, rfl⟩
def g_22 : GG := sR g_21 5 1 13
theorem f_22 : Fr g_22 := f_21.sR (by rw [s_21]; exact Nat.le_of_ble_eq_true rfl)
theorem s_22 : g_22.1 = [(1, 0), (1, 0), (0, 8), (0, 6), (3, 6), (2, 4), (0, 1), (0, 1), (0, 1), (0, 1), (0, 1), (0, 1), (0, 0), (0, 0)] := by show g_21.1 = _; exact s_21
theorem n_22 : gC g_22 = 14 ∧ gS g_22 = 59 := by unfold gC gS; rw [s_22]; exact ⟨rfl, rfl⟩
def g_23 : GG := aO g_22 (0, 0)
theorem f_23 : Fr g_23 := f_22.aO _
theorem s_23 : g_23.1 = [(1, 0), (1, 0), (0, 8), (0, 6), (3, 6), (2, 4), (0, 1), (0, 1), (0, 1), (0, 1), (0, 1), (0, 1), (0, 0), (0, 0), (0, 0)] := by show g_22.1 ++ _ = _; rw [s_22]; rfl
theorem n_23 : gC g_23 = 15 ∧ gS g_23 = 63 := by unfold gC gS; rw [s_23]; exact ⟨rfl, rfl⟩
def g_24 : GG := sR g_23 5 2 14
theorem f_24 : Fr g_24 := f_23.sR (by rw [s_23]; exact Nat.le_of_ble_eq_true rfl)
theorem s_24 : g_24.1 = [(1, 0), (1, 0), (0, 8), (0, 6), (3, 6), (2, 4), (0, 1), (0, 1), (0, 1), (0, 1), (0, 1), (0, 1), (0, 0), (0, 0), (0, 0)] := by show g_23.1 = _; exact s_23
theorem n_24 : gC g_24 = 15 ∧ gS g_24 = 63 := by unfold gC gS; rw [s_24]; exact ⟨rfl, rfl⟩
def g_25 : GG := aO g_24 (0, 0)
theorem f_25 : Fr g_25 := f_24.aO _
theorem s_25 : g_25.1 = [(1, 0), (1, 0), (0, 8), (0, 6), (3, 6), (2, 4), (0, 1), (0, 1), (0, 1), (0, 1), (0, 1), (0, 1), (0, 0), (0, 0), (0, 0), (0, 0)] := by show g_24.1 ++ _ = _; rw [s_24]; rfl
theorem n_25 : gC g_25 = 16 ∧ gS g_25 = 67 := by unfold gC gS; rw [s_25]; exact ⟨rfl, rfl⟩
def g_26 : GG := sR g_25 5 3 15
theorem f_26 : Fr g_26 := f_25.sR (by rw [s_25]; exact Nat.le_of_ble_eq_true rfl)
theorem s_26 : g_26.1 = [(1, 0), (1, 0), (0, 8), (0, 6), (3, 6), (2, 4), (0, 1), (0, 1), (0, 1), (0, 1), (0, 1), (0, 1), (0, 0), (0, 0), (0, 0), (0, 0)] := by show g_25.1 = _; exact s_25
theorem n_26 : gC g_26 = 16 ∧ gS g_26 = 67 := by unfold gC gS; rw [s_26]; exact ⟨rfl, rfl⟩
set_option maxRecDepth 4000 in
theorem C_Sp_init_1 : AMet y_Sp_init c_Sp_init 2 none 2 12 56 [vR 3] g_2 (fun o G' => o = none ∧ G' = g_26) := by
  refine AMet.of k_Sp_init (lo := [some (vR 3), none]) rfl (Nat.le_of_ble_eq_true rfl) (fun X hX hR hI0 => ?_)
  have hI := hI0 rfl
  refine v_aload_n (pc := 0) hX rfl d_Sp_init_0 ?_
  refine v_objInit (pc := 1) hX ml_Sp_3 rfl ⟨Nat.le_of_ble_eq_true rfl, Nat.le_of_ble_eq_true rfl⟩ (by decide) d_Sp_init_1 ?_
  refine v_aload_n (pc := 4) hX rfl d_Sp_init_4 ?_
  refine v_bipush (pc := 5) (v := 6) hX (by decide) d_Sp_init_5 ?_
  refine w_anew (pc := 7) (r := 4) (c := 1) (N := 6) (G' := g_3) hX f_2 (by decide) rfl cl_Sp_9 (by decide) (by decide) (by decide) (by rw [s_2]; rfl) ⟨by rw [n_2.1]; exact Nat.le_of_ble_eq_true rfl, by rw [n_2.2]; exact Nat.le_of_ble_eq_true rfl⟩ rfl d_Sp_init_7 ?_
  refine w_putF (pc := 10) (G' := g_4) hX hI fl_Sp_11 rfl (finF rfl rfl rfl) (by decide) (by rw [s_3]; rfl) (by decide) (fun _ => rfl) (fun _ => rfl) rfl d_Sp_init_10 ?_
  refine v_aload_n (pc := 13) hX rfl d_Sp_init_13 ?_
  refine v_iconst (pc := 14) (v := 4) hX (by decide) d_Sp_init_14 ?_
  refine w_anew (pc := 15) (r := 5) (c := 0) (N := 4) (G' := g_5) hX f_4 (by decide) rfl cl_Sp_17 (by decide) (by decide) (by decide) (by rw [s_4]; rfl) ⟨by rw [n_4.1]; exact Nat.le_of_ble_eq_true rfl, by rw [n_4.2]; exact Nat.le_of_ble_eq_true rfl⟩ rfl d_Sp_init_15 ?_
  refine w_putF (pc := 18) (G' := g_6) hX hI fl_Sp_19 rfl (finF rfl rfl rfl) (by decide) (by rw [s_5]; rfl) (by decide) (fun _ => rfl) (fun _ => rfl) rfl d_Sp_init_18 ?_
  refine v_iconst (pc := 21) (v := 0) hX (by decide) d_Sp_init_21 ?_
  refine v_istore_n (pc := 22) (lo' := [some (vR 3), some (vI (0))]) hX (by decide) rfl d_Sp_init_22 ?_
  refine v_iload_n (pc := 23) hX rfl d_Sp_init_23 ?_
  refine v_bipush (pc := 24) (v := 6) hX (by decide) d_Sp_init_24 ?_
  refine v_icmp_ge (pc := 26) (tgt := 48) hX d_Sp_init_26 rfl (fun hc => absurd hc (by decide)) (fun _ => ?_)
  refine v_aload_n (pc := 29) hX rfl d_Sp_init_29 ?_
  refine w_getR (pc := 30) (v := 4) hX fl_Sp_11 rfl (by decide) (by rw [s_6]; rfl) rfl d_Sp_init_30 ?_
  refine v_iload_n (pc := 33) hX rfl d_Sp_init_33 ?_
  refine w_new (pc := 34) (r := 6) (G' := g_7) hX f_6 cl_Sp_9 io_Ja ii_Ja rfl (by rw [s_6]; rfl) ⟨by rw [n_6.1]; exact Nat.le_of_ble_eq_true rfl, by rw [n_6.2]; exact Nat.le_of_ble_eq_true rfl⟩ rfl d_Sp_init_34 ?_
  refine v_dup (pc := 37) hX rfl d_Sp_init_37 ?_
  refine v_callI (pc := 38) (as := []) hX k_Ja_init rfl ki_Ja_init ml_Sp_23 (C_Ja_init (by decide)) (by decide) rfl rfl rfl ⟨Nat.le_of_ble_eq_true rfl, Nat.le_of_ble_eq_true rfl, Nat.le_of_ble_eq_true rfl, by rw [n_7.1]; exact Nat.le_of_ble_eq_true rfl, by rw [n_7.2]; exact Nat.le_of_ble_eq_true rfl⟩ (fun r G' h => by rw [h.2]; exact ⟨rfl, rfl⟩) d_Sp_init_38 (fun r G' h => ?_)
  obtain ⟨rfl, rfl⟩ := h
  refine VW.cast (lo' := [some (vR 3), some (vI (0))]) (st' := [vR 6, vI (0), vR 4]) (G' := g_7) rfl rfl rfl ?_
  refine w_aast (pc := 41) (c := 1) (n := 6) (j := 0) (G' := g_8) hX (by decide) (by decide) (by rw [s_7]; rfl) (by decide) (by rw [s_7]; rfl) (by unfold vp_in; decide) (by decide) rfl d_Sp_init_41 ?_
  refine v_iinc (pc := 42) (lo' := [some (vR 3), some (vI (1))]) hX rfl rfl d_Sp_init_42 ?_
  refine v_goto (pc := 45) (tgt := 23) hX d_Sp_init_45 rfl ?_
  refine v_iload_n (pc := 23) hX rfl d_Sp_init_23 ?_
  refine v_bipush (pc := 24) (v := 6) hX (by decide) d_Sp_init_24 ?_
  refine v_icmp_ge (pc := 26) (tgt := 48) hX d_Sp_init_26 rfl (fun hc => absurd hc (by decide)) (fun _ => ?_)
  refine v_aload_n (pc := 29) hX rfl d_Sp_init_29 ?_
  refine w_getR (pc := 30) (v := 4) hX fl_Sp_11 rfl (by decide) (by rw [s_8]; rfl) rfl d_Sp_init_30 ?_
  refine v_iload_n (pc := 33) hX rfl d_Sp_init_33 ?_
  refine w_new (pc := 34) (r := 7) (G' := g_9) hX f_8 cl_Sp_9 io_Ja ii_Ja rfl (by rw [s_8]; rfl) ⟨by rw [n_8.1]; exact Nat.le_of_ble_eq_true rfl, by rw [n_8.2]; exact Nat.le_of_ble_eq_true rfl⟩ rfl d_Sp_init_34 ?_
  refine v_dup (pc := 37) hX rfl d_Sp_init_37 ?_
  refine v_callI (pc := 38) (as := []) hX k_Ja_init rfl ki_Ja_init ml_Sp_23 (C_Ja_init (by decide)) (by decide) rfl rfl rfl ⟨Nat.le_of_ble_eq_true rfl, Nat.le_of_ble_eq_true rfl, Nat.le_of_ble_eq_true rfl, by rw [n_9.1]; exact Nat.le_of_ble_eq_true rfl, by rw [n_9.2]; exact Nat.le_of_ble_eq_true rfl⟩ (fun r G' h => by rw [h.2]; exact ⟨rfl, rfl⟩) d_Sp_init_38 (fun r G' h => ?_)
  obtain ⟨rfl, rfl⟩ := h
  refine VW.cast (lo' := [some (vR 3), some (vI (1))]) (st' := [vR 7, vI (1), vR 4]) (G' := g_9) rfl rfl rfl ?_
  refine w_aast (pc := 41) (c := 1) (n := 6) (j := 1) (G' := g_10) hX (by decide) (by decide) (by rw [s_9]; rfl) (by decide) (by rw [s_9]; rfl) (by unfold vp_in; decide) (by decide) rfl d_Sp_init_41 ?_
  refine v_iinc (pc := 42) (lo' := [some (vR 3), some (vI (2))]) hX rfl rfl d_Sp_init_42 ?_
  refine v_goto (pc := 45) (tgt := 23) hX d_Sp_init_45 rfl ?_
  refine v_iload_n (pc := 23) hX rfl d_Sp_init_23 ?_
  refine v_bipush (pc := 24) (v := 6) hX (by decide) d_Sp_init_24 ?_
  refine v_icmp_ge (pc := 26) (tgt := 48) hX d_Sp_init_26 rfl (fun hc => absurd hc (by decide)) (fun _ => ?_)
  refine v_aload_n (pc := 29) hX rfl d_Sp_init_29 ?_
  refine w_getR (pc := 30) (v := 4) hX fl_Sp_11 rfl (by decide) (by rw [s_10]; rfl) rfl d_Sp_init_30 ?_
  refine v_iload_n (pc := 33) hX rfl d_Sp_init_33 ?_
  refine w_new (pc := 34) (r := 8) (G' := g_11) hX f_10 cl_Sp_9 io_Ja ii_Ja rfl (by rw [s_10]; rfl) ⟨by rw [n_10.1]; exact Nat.le_of_ble_eq_true rfl, by rw [n_10.2]; exact Nat.le_of_ble_eq_true rfl⟩ rfl d_Sp_init_34 ?_
  refine v_dup (pc := 37) hX rfl d_Sp_init_37 ?_
  refine v_callI (pc := 38) (as := []) hX k_Ja_init rfl ki_Ja_init ml_Sp_23 (C_Ja_init (by decide)) (by decide) rfl rfl rfl ⟨Nat.le_of_ble_eq_true rfl, Nat.le_of_ble_eq_true rfl, Nat.le_of_ble_eq_true rfl, by rw [n_11.1]; exact Nat.le_of_ble_eq_true rfl, by rw [n_11.2]; exact Nat.le_of_ble_eq_true rfl⟩ (fun r G' h => by rw [h.2]; exact ⟨rfl, rfl⟩) d_Sp_init_38 (fun r G' h => ?_)
  obtain ⟨rfl, rfl⟩ := h
  refine VW.cast (lo' := [some (vR 3), some (vI (2))]) (st' := [vR 8, vI (2), vR 4]) (G' := g_11) rfl rfl rfl ?_
  refine w_aast (pc := 41) (c := 1) (n := 6) (j := 2) (G' := g_12) hX (by decide) (by decide) (by rw [s_11]; rfl) (by decide) (by rw [s_11]; rfl) (by unfold vp_in; decide) (by decide) rfl d_Sp_init_41 ?_
  refine v_iinc (pc := 42) (lo' := [some (vR 3), some (vI (3))]) hX rfl rfl d_Sp_init_42 ?_
  refine v_goto (pc := 45) (tgt := 23) hX d_Sp_init_45 rfl ?_
  refine v_iload_n (pc := 23) hX rfl d_Sp_init_23 ?_
  refine v_bipush (pc := 24) (v := 6) hX (by decide) d_Sp_init_24 ?_
  refine v_icmp_ge (pc := 26) (tgt := 48) hX d_Sp_init_26 rfl (fun hc => absurd hc (by decide)) (fun _ => ?_)
  refine v_aload_n (pc := 29) hX rfl d_Sp_init_29 ?_
  refine w_getR (pc := 30) (v := 4) hX fl_Sp_11 rfl (by decide) (by rw [s_12]; rfl) rfl d_Sp_init_30 ?_
  refine v_iload_n (pc := 33) hX rfl d_Sp_init_33 ?_
  refine w_new (pc := 34) (r := 9) (G' := g_13) hX f_12 cl_Sp_9 io_Ja ii_Ja rfl (by rw [s_12]; rfl) ⟨by rw [n_12.1]; exact Nat.le_of_ble_eq_true rfl, by rw [n_12.2]; exact Nat.le_of_ble_eq_true rfl⟩ rfl d_Sp_init_34 ?_
  refine v_dup (pc := 37) hX rfl d_Sp_init_37 ?_
  refine v_callI (pc := 38) (as := []) hX k_Ja_init rfl ki_Ja_init ml_Sp_23 (C_Ja_init (by decide)) (by decide) rfl rfl rfl ⟨Nat.le_of_ble_eq_true rfl, Nat.le_of_ble_eq_true rfl, Nat.le_of_ble_eq_true rfl, by rw [n_13.1]; exact Nat.le_of_ble_eq_true rfl, by rw [n_13.2]; exact Nat.le_of_ble_eq_true rfl⟩ (fun r G' h => by rw [h.2]; exact ⟨rfl, rfl⟩) d_Sp_init_38 (fun r G' h => ?_)
  obtain ⟨rfl, rfl⟩ := h
  refine VW.cast (lo' := [some (vR 3), some (vI (3))]) (st' := [vR 9, vI (3), vR 4]) (G' := g_13) rfl rfl rfl ?_
  refine w_aast (pc := 41) (c := 1) (n := 6) (j := 3) (G' := g_14) hX (by decide) (by decide) (by rw [s_13]; rfl) (by decide) (by rw [s_13]; rfl) (by unfold vp_in; decide) (by decide) rfl d_Sp_init_41 ?_
  refine v_iinc (pc := 42) (lo' := [some (vR 3), some (vI (4))]) hX rfl rfl d_Sp_init_42 ?_
  refine v_goto (pc := 45) (tgt := 23) hX d_Sp_init_45 rfl ?_
  refine v_iload_n (pc := 23) hX rfl d_Sp_init_23 ?_
  refine v_bipush (pc := 24) (v := 6) hX (by decide) d_Sp_init_24 ?_
  refine v_icmp_ge (pc := 26) (tgt := 48) hX d_Sp_init_26 rfl (fun hc => absurd hc (by decide)) (fun _ => ?_)
  refine v_aload_n (pc := 29) hX rfl d_Sp_init_29 ?_
  refine w_getR (pc := 30) (v := 4) hX fl_Sp_11 rfl (by decide) (by rw [s_14]; rfl) rfl d_Sp_init_30 ?_
  refine v_iload_n (pc := 33) hX rfl d_Sp_init_33 ?_
  refine w_new (pc := 34) (r := 10) (G' := g_15) hX f_14 cl_Sp_9 io_Ja ii_Ja rfl (by rw [s_14]; rfl) ⟨by rw [n_14.1]; exact Nat.le_of_ble_eq_true rfl, by rw [n_14.2]; exact Nat.le_of_ble_eq_true rfl⟩ rfl d_Sp_init_34 ?_
  refine v_dup (pc := 37) hX rfl d_Sp_init_37 ?_
  refine v_callI (pc := 38) (as := []) hX k_Ja_init rfl ki_Ja_init ml_Sp_23 (C_Ja_init (by decide)) (by decide) rfl rfl rfl ⟨Nat.le_of_ble_eq_true rfl, Nat.le_of_ble_eq_true rfl, Nat.le_of_ble_eq_true rfl, by rw [n_15.1]; exact Nat.le_of_ble_eq_true rfl, by rw [n_15.2]; exact Nat.le_of_ble_eq_true rfl⟩ (fun r G' h => by rw [h.2]; exact ⟨rfl, rfl⟩) d_Sp_init_38 (fun r G' h => ?_)
  obtain ⟨rfl, rfl⟩ := h
  refine VW.cast (lo' := [some (vR 3), some (vI (4))]) (st' := [vR 10, vI (4), vR 4]) (G' := g_15) rfl rfl rfl ?_
  refine w_aast (pc := 41) (c := 1) (n := 6) (j := 4) (G' := g_16) hX (by decide) (by decide) (by rw [s_15]; rfl) (by decide) (by rw [s_15]; rfl) (by unfold vp_in; decide) (by decide) rfl d_Sp_init_41 ?_
  refine v_iinc (pc := 42) (lo' := [some (vR 3), some (vI (5))]) hX rfl rfl d_Sp_init_42 ?_
  refine v_goto (pc := 45) (tgt := 23) hX d_Sp_init_45 rfl ?_
  refine v_iload_n (pc := 23) hX rfl d_Sp_init_23 ?_
  refine v_bipush (pc := 24) (v := 6) hX (by decide) d_Sp_init_24 ?_
  refine v_icmp_ge (pc := 26) (tgt := 48) hX d_Sp_init_26 rfl (fun hc => absurd hc (by decide)) (fun _ => ?_)
  refine v_aload_n (pc := 29) hX rfl d_Sp_init_29 ?_
  refine w_getR (pc := 30) (v := 4) hX fl_Sp_11 rfl (by decide) (by rw [s_16]; rfl) rfl d_Sp_init_30 ?_
  refine v_iload_n (pc := 33) hX rfl d_Sp_init_33 ?_
  refine w_new (pc := 34) (r := 11) (G' := g_17) hX f_16 cl_Sp_9 io_Ja ii_Ja rfl (by rw [s_16]; rfl) ⟨by rw [n_16.1]; exact Nat.le_of_ble_eq_true rfl, by rw [n_16.2]; exact Nat.le_of_ble_eq_true rfl⟩ rfl d_Sp_init_34 ?_
  refine v_dup (pc := 37) hX rfl d_Sp_init_37 ?_
  refine v_callI (pc := 38) (as := []) hX k_Ja_init rfl ki_Ja_init ml_Sp_23 (C_Ja_init (by decide)) (by decide) rfl rfl rfl ⟨Nat.le_of_ble_eq_true rfl, Nat.le_of_ble_eq_true rfl, Nat.le_of_ble_eq_true rfl, by rw [n_17.1]; exact Nat.le_of_ble_eq_true rfl, by rw [n_17.2]; exact Nat.le_of_ble_eq_true rfl⟩ (fun r G' h => by rw [h.2]; exact ⟨rfl, rfl⟩) d_Sp_init_38 (fun r G' h => ?_)
  obtain ⟨rfl, rfl⟩ := h
  refine VW.cast (lo' := [some (vR 3), some (vI (5))]) (st' := [vR 11, vI (5), vR 4]) (G' := g_17) rfl rfl rfl ?_
  refine w_aast (pc := 41) (c := 1) (n := 6) (j := 5) (G' := g_18) hX (by decide) (by decide) (by rw [s_17]; rfl) (by decide) (by rw [s_17]; rfl) (by unfold vp_in; decide) (by decide) rfl d_Sp_init_41 ?_
  refine v_iinc (pc := 42) (lo' := [some (vR 3), some (vI (6))]) hX rfl rfl d_Sp_init_42 ?_
  refine v_goto (pc := 45) (tgt := 23) hX d_Sp_init_45 rfl ?_
  refine v_iload_n (pc := 23) hX rfl d_Sp_init_23 ?_
  refine v_bipush (pc := 24) (v := 6) hX (by decide) d_Sp_init_24 ?_
  refine v_icmp_ge (pc := 26) (tgt := 48) hX d_Sp_init_26 rfl (fun _ => ?_) (fun hc => absurd (by decide) hc)
  refine v_iconst (pc := 48) (v := 0) hX (by decide) d_Sp_init_48 ?_
  refine v_istore_n (pc := 49) (lo' := [some (vR 3), some (vI (0))]) hX (by decide) rfl d_Sp_init_49 ?_
  refine v_iload_n (pc := 50) hX rfl d_Sp_init_50 ?_
  refine v_iconst (pc := 51) (v := 4) hX (by decide) d_Sp_init_51 ?_
  refine v_icmp_ge (pc := 52) (tgt := 74) hX d_Sp_init_52 rfl (fun hc => absurd hc (by decide)) (fun _ => ?_)
  refine v_aload_n (pc := 55) hX rfl d_Sp_init_55 ?_
  refine w_getR (pc := 56) (v := 5) hX fl_Sp_19 rfl (by decide) (by rw [s_18]; rfl) rfl d_Sp_init_56 ?_
  refine v_iload_n (pc := 59) hX rfl d_Sp_init_59 ?_
  refine w_new (pc := 60) (r := 12) (G' := g_19) hX f_18 cl_Sp_17 io_De ii_De rfl (by rw [s_18]; rfl) ⟨by rw [n_18.1]; exact Nat.le_of_ble_eq_true rfl, by rw [n_18.2]; exact Nat.le_of_ble_eq_true rfl⟩ rfl d_Sp_init_60 ?_
  refine v_dup (pc := 63) hX rfl d_Sp_init_63 ?_
  refine v_callI (pc := 64) (as := []) hX k_De_init rfl ki_De_init ml_Sp_24 (C_De_init (by decide)) (by decide) rfl rfl rfl ⟨Nat.le_of_ble_eq_true rfl, Nat.le_of_ble_eq_true rfl, Nat.le_of_ble_eq_true rfl, by rw [n_19.1]; exact Nat.le_of_ble_eq_true rfl, by rw [n_19.2]; exact Nat.le_of_ble_eq_true rfl⟩ (fun r G' h => by rw [h.2]; exact ⟨rfl, rfl⟩) d_Sp_init_64 (fun r G' h => ?_)
  obtain ⟨rfl, rfl⟩ := h
  refine VW.cast (lo' := [some (vR 3), some (vI (0))]) (st' := [vR 12, vI (0), vR 5]) (G' := g_19) rfl rfl rfl ?_
  refine w_aast (pc := 67) (c := 0) (n := 4) (j := 0) (G' := g_20) hX (by decide) (by decide) (by rw [s_19]; rfl) (by decide) (by rw [s_19]; rfl) (by unfold vp_in; decide) (by decide) rfl d_Sp_init_67 ?_
  refine v_iinc (pc := 68) (lo' := [some (vR 3), some (vI (1))]) hX rfl rfl d_Sp_init_68 ?_
  refine v_goto (pc := 71) (tgt := 50) hX d_Sp_init_71 rfl ?_
  refine v_iload_n (pc := 50) hX rfl d_Sp_init_50 ?_
  refine v_iconst (pc := 51) (v := 4) hX (by decide) d_Sp_init_51 ?_
  refine v_icmp_ge (pc := 52) (tgt := 74) hX d_Sp_init_52 rfl (fun hc => absurd hc (by decide)) (fun _ => ?_)
  refine v_aload_n (pc := 55) hX rfl d_Sp_init_55 ?_
  refine w_getR (pc := 56) (v := 5) hX fl_Sp_19 rfl (by decide) (by rw [s_20]; rfl) rfl d_Sp_init_56 ?_
  refine v_iload_n (pc := 59) hX rfl d_Sp_init_59 ?_
  refine w_new (pc := 60) (r := 13) (G' := g_21) hX f_20 cl_Sp_17 io_De ii_De rfl (by rw [s_20]; rfl) ⟨by rw [n_20.1]; exact Nat.le_of_ble_eq_true rfl, by rw [n_20.2]; exact Nat.le_of_ble_eq_true rfl⟩ rfl d_Sp_init_60 ?_
  refine v_dup (pc := 63) hX rfl d_Sp_init_63 ?_
  refine v_callI (pc := 64) (as := []) hX k_De_init rfl ki_De_init ml_Sp_24 (C_De_init (by decide)) (by decide) rfl rfl rfl ⟨Nat.le_of_ble_eq_true rfl, Nat.le_of_ble_eq_true rfl, Nat.le_of_ble_eq_true rfl, by rw [n_21.1]; exact Nat.le_of_ble_eq_true rfl, by rw [n_21.2]; exact Nat.le_of_ble_eq_true rfl⟩ (fun r G' h => by rw [h.2]; exact ⟨rfl, rfl⟩) d_Sp_init_64 (fun r G' h => ?_)
  obtain ⟨rfl, rfl⟩ := h
  refine VW.cast (lo' := [some (vR 3), some (vI (1))]) (st' := [vR 13, vI (1), vR 5]) (G' := g_21) rfl rfl rfl ?_
  refine w_aast (pc := 67) (c := 0) (n := 4) (j := 1) (G' := g_22) hX (by decide) (by decide) (by rw [s_21]; rfl) (by decide) (by rw [s_21]; rfl) (by unfold vp_in; decide) (by decide) rfl d_Sp_init_67 ?_
  refine v_iinc (pc := 68) (lo' := [some (vR 3), some (vI (2))]) hX rfl rfl d_Sp_init_68 ?_
  refine v_goto (pc := 71) (tgt := 50) hX d_Sp_init_71 rfl ?_
  refine v_iload_n (pc := 50) hX rfl d_Sp_init_50 ?_
  refine v_iconst (pc := 51) (v := 4) hX (by decide) d_Sp_init_51 ?_
  refine v_icmp_ge (pc := 52) (tgt := 74) hX d_Sp_init_52 rfl (fun hc => absurd hc (by decide)) (fun _ => ?_)
  refine v_aload_n (pc := 55) hX rfl d_Sp_init_55 ?_
  refine w_getR (pc := 56) (v := 5) hX fl_Sp_19 rfl (by decide) (by rw [s_22]; rfl) rfl d_Sp_init_56 ?_
  refine v_iload_n (pc := 59) hX rfl d_Sp_init_59 ?_
  refine w_new (pc := 60) (r := 14) (G' := g_23) hX f_22 cl_Sp_17 io_De ii_De rfl (by rw [s_22]; rfl) ⟨by rw [n_22.1]; exact Nat.le_of_ble_eq_true rfl, by rw [n_22.2]; exact Nat.le_of_ble_eq_true rfl⟩ rfl d_Sp_init_60 ?_
  refine v_dup (pc := 63) hX rfl d_Sp_init_63 ?_
  refine v_callI (pc := 64) (as := []) hX k_De_init rfl ki_De_init ml_Sp_24 (C_De_init (by decide)) (by decide) rfl rfl rfl ⟨Nat.le_of_ble_eq_true rfl, Nat.le_of_ble_eq_true rfl, Nat.le_of_ble_eq_true rfl, by rw [n_23.1]; exact Nat.le_of_ble_eq_true rfl, by rw [n_23.2]; exact Nat.le_of_ble_eq_true rfl⟩ (fun r G' h => by rw [h.2]; exact ⟨rfl, rfl⟩) d_Sp_init_64 (fun r G' h => ?_)
  obtain ⟨rfl, rfl⟩ := h
  refine VW.cast (lo' := [some (vR 3), some (vI (2))]) (st' := [vR 14, vI (2), vR 5]) (G' := g_23) rfl rfl rfl ?_
  refine w_aast (pc := 67) (c := 0) (n := 4) (j := 2) (G' := g_24) hX (by decide) (by decide) (by rw [s_23]; rfl) (by decide) (by rw [s_23]; rfl) (by unfold vp_in; decide) (by decide) rfl d_Sp_init_67 ?_
  refine v_iinc (pc := 68) (lo' := [some (vR 3), some (vI (3))]) hX rfl rfl d_Sp_init_68 ?_
  refine v_goto (pc := 71) (tgt := 50) hX d_Sp_init_71 rfl ?_
  refine v_iload_n (pc := 50) hX rfl d_Sp_init_50 ?_
  refine v_iconst (pc := 51) (v := 4) hX (by decide) d_Sp_init_51 ?_
  refine v_icmp_ge (pc := 52) (tgt := 74) hX d_Sp_init_52 rfl (fun hc => absurd hc (by decide)) (fun _ => ?_)
  refine v_aload_n (pc := 55) hX rfl d_Sp_init_55 ?_
  refine w_getR (pc := 56) (v := 5) hX fl_Sp_19 rfl (by decide) (by rw [s_24]; rfl) rfl d_Sp_init_56 ?_
  refine v_iload_n (pc := 59) hX rfl d_Sp_init_59 ?_
  refine w_new (pc := 60) (r := 15) (G' := g_25) hX f_24 cl_Sp_17 io_De ii_De rfl (by rw [s_24]; rfl) ⟨by rw [n_24.1]; exact Nat.le_of_ble_eq_true rfl, by rw [n_24.2]; exact Nat.le_of_ble_eq_true rfl⟩ rfl d_Sp_init_60 ?_
  refine v_dup (pc := 63) hX rfl d_Sp_init_63 ?_
  refine v_callI (pc := 64) (as := []) hX k_De_init rfl ki_De_init ml_Sp_24 (C_De_init (by decide)) (by decide) rfl rfl rfl ⟨Nat.le_of_ble_eq_true rfl, Nat.le_of_ble_eq_true rfl, Nat.le_of_ble_eq_true rfl, by rw [n_25.1]; exact Nat.le_of_ble_eq_true rfl, by rw [n_25.2]; exact Nat.le_of_ble_eq_true rfl⟩ (fun r G' h => by rw [h.2]; exact ⟨rfl, rfl⟩) d_Sp_init_64 (fun r G' h => ?_)
  obtain ⟨rfl, rfl⟩ := h
  refine VW.cast (lo' := [some (vR 3), some (vI (3))]) (st' := [vR 15, vI (3), vR 5]) (G' := g_25) rfl rfl rfl ?_
  refine w_aast (pc := 67) (c := 0) (n := 4) (j := 3) (G' := g_26) hX (by decide) (by decide) (by rw [s_25]; rfl) (by decide) (by rw [s_25]; rfl) (by unfold vp_in; decide) (by decide) rfl d_Sp_init_67 ?_
  refine v_iinc (pc := 68) (lo' := [some (vR 3), some (vI (4))]) hX rfl rfl d_Sp_init_68 ?_
  refine v_goto (pc := 71) (tgt := 50) hX d_Sp_init_71 rfl ?_
  refine v_iload_n (pc := 50) hX rfl d_Sp_init_50 ?_
  refine v_iconst (pc := 51) (v := 4) hX (by decide) d_Sp_init_51 ?_
  refine v_icmp_ge (pc := 52) (tgt := 74) hX d_Sp_init_52 rfl (fun _ => ?_) (fun hc => absurd (by decide) hc)
  exact v_vret (pc := 74) hX hR (by rw [n_26.1, n_2.1]) (by rw [n_26.2, n_2.2]) ⟨rfl, rfl⟩ d_Sp_init_74
def g_27 : GG := sR g_26 2 0 3
theorem f_27 : Fr g_27 := f_26.sR (by rw [s_26]; exact Nat.le_of_ble_eq_true rfl)
theorem s_27 : g_27.1 = [(1, 0), (1, 0), (0, 8), (0, 6), (3, 6), (2, 4), (0, 1), (0, 1), (0, 1), (0, 1), (0, 1), (0, 1), (0, 0), (0, 0), (0, 0), (0, 0)] := by show g_26.1 = _; exact s_26
theorem n_27 : gC g_27 = 16 ∧ gS g_27 = 67 := by unfold gC gS; rw [s_27]; exact ⟨rfl, rfl⟩
def g_28 : GG := aO g_27 (0, 3)
theorem f_28 : Fr g_28 := f_27.aO _
theorem s_28 : g_28.1 = [(1, 0), (1, 0), (0, 8), (0, 6), (3, 6), (2, 4), (0, 1), (0, 1), (0, 1), (0, 1), (0, 1), (0, 1), (0, 0), (0, 0), (0, 0), (0, 0), (0, 3)] := by show g_27.1 ++ _ = _; rw [s_27]; rfl
theorem n_28 : gC g_28 = 17 ∧ gS g_28 = 72 := by unfold gC gS; rw [s_28]; exact ⟨rfl, rfl⟩
theorem d_Sa_init_0 : decode c_Sa_init 0 = .ok (.aload_n 0, 1) := by decide +kernel
theorem d_Sa_init_1 : decode c_Sa_init 1 = .ok (.invokespecial 3, 3) := by decide +kernel
theorem d_Sa_init_4 : decode c_Sa_init 4 = .ok (.aload_n 0, 1) := by decide +kernel
theorem d_Sa_init_5 : decode c_Sa_init 5 = .ok (.bipush 6, 2) := by decide +kernel
theorem d_Sa_init_7 : decode c_Sa_init 7 = .ok (.newarray .int, 2) := by decide +kernel
theorem d_Sa_init_9 : decode c_Sa_init 9 = .ok (.putfield 9, 3) := by decide +kernel
theorem d_Sa_init_12 : decode c_Sa_init 12 = .ok (.aload_n 0, 1) := by decide +kernel
theorem d_Sa_init_13 : decode c_Sa_init 13 = .ok (.iconst 4, 1) := by decide +kernel
theorem d_Sa_init_14 : decode c_Sa_init 14 = .ok (.newarray .int, 2) := by decide +kernel
theorem d_Sa_init_16 : decode c_Sa_init 16 = .ok (.putfield 15, 3) := by decide +kernel
theorem d_Sa_init_19 : decode c_Sa_init 19 = .ok (.return_, 1) := by decide +kernel
def g_29 : GG := aO g_28 (1, 6)
theorem f_29 : Fr g_29 := f_28.aO _
theorem s_29 : g_29.1 = [(1, 0), (1, 0), (0, 8), (0, 6), (3, 6), (2, 4), (0, 1), (0, 1), (0, 1), (0, 1), (0, 1), (0, 1), (0, 0), (0, 0), (0, 0), (0, 0), (0, 3), (1, 6)] := by show g_28.1 ++ _ = _; rw [s_28]; rfl
theorem n_29 : gC g_29 = 18 ∧ gS g_29 = 78 := by unfold gC gS; rw [s_29]; exact ⟨rfl, rfl⟩
def g_30 : GG := sR g_29 16 0 17
theorem f_30 : Fr g_30 := f_29.sR (by rw [s_29]; exact Nat.le_of_ble_eq_true rfl)
theorem s_30 : g_30.1 = [(1, 0), (1, 0), (0, 8), (0, 6), (3, 6), (2, 4), (0, 1), (0, 1), (0, 1), (0, 1), (0, 1), (0, 1), (0, 0), (0, 0), (0, 0), (0, 0), (0, 3), (1, 6)] := by show g_29.1 = _; exact s_29
theorem n_30 : gC g_30 = 18 ∧ gS g_30 = 78 := by unfold gC gS; rw [s_30]; exact ⟨rfl, rfl⟩
def g_31 : GG := aO g_30 (1, 4)
theorem f_31 : Fr g_31 := f_30.aO _
theorem s_31 : g_31.1 = [(1, 0), (1, 0), (0, 8), (0, 6), (3, 6), (2, 4), (0, 1), (0, 1), (0, 1), (0, 1), (0, 1), (0, 1), (0, 0), (0, 0), (0, 0), (0, 0), (0, 3), (1, 6), (1, 4)] := by show g_30.1 ++ _ = _; rw [s_30]; rfl
theorem n_31 : gC g_31 = 19 ∧ gS g_31 = 82 := by unfold gC gS; rw [s_31]; exact ⟨rfl, rfl⟩
def g_32 : GG := sR g_31 16 1 18
theorem f_32 : Fr g_32 := f_31.sR (by rw [s_31]; exact Nat.le_of_ble_eq_true rfl)
theorem s_32 : g_32.1 = [(1, 0), (1, 0), (0, 8), (0, 6), (3, 6), (2, 4), (0, 1), (0, 1), (0, 1), (0, 1), (0, 1), (0, 1), (0, 0), (0, 0), (0, 0), (0, 0), (0, 3), (1, 6), (1, 4)] := by show g_31.1 = _; exact s_31
theorem n_32 : gC g_32 = 19 ∧ gS g_32 = 82 := by unfold gC gS; rw [s_32]; exact ⟨rfl, rfl⟩
set_option maxRecDepth 4000 in
theorem C_Sa_init_1 : AMet y_Sa_init c_Sa_init 1 none 1 2 10 [vR 16] g_28 (fun o G' => o = none ∧ G' = g_32) := by
  refine AMet.of k_Sa_init (lo := [some (vR 16)]) rfl (Nat.le_of_ble_eq_true rfl) (fun X hX hR hI0 => ?_)
  have hI := hI0 rfl
  refine v_aload_n (pc := 0) hX rfl d_Sa_init_0 ?_
  refine v_objInit (pc := 1) hX ml_Sa_3 rfl ⟨Nat.le_of_ble_eq_true rfl, Nat.le_of_ble_eq_true rfl⟩ (by decide) d_Sa_init_1 ?_
  refine v_aload_n (pc := 4) hX rfl d_Sa_init_4 ?_
  refine v_bipush (pc := 5) (v := 6) hX (by decide) d_Sa_init_5 ?_
  refine w_newarr (pc := 7) (r := 17) (N := 6) (G' := g_29) hX f_28 (by decide) (by decide) (by decide) (by rw [s_28]; rfl) ⟨by rw [n_28.1]; exact Nat.le_of_ble_eq_true rfl, by rw [n_28.2]; exact Nat.le_of_ble_eq_true rfl⟩ rfl d_Sa_init_7 ?_
  refine w_putF (pc := 9) (G' := g_30) hX hI fl_Sa_9 rfl (finF rfl rfl rfl) (by decide) (by rw [s_29]; rfl) (by decide) (fun _ => rfl) (fun _ => rfl) rfl d_Sa_init_9 ?_
  refine v_aload_n (pc := 12) hX rfl d_Sa_init_12 ?_
  refine v_iconst (pc := 13) (v := 4) hX (by decide) d_Sa_init_13 ?_
  refine w_newarr (pc := 14) (r := 18) (N := 4) (G' := g_31) hX f_30 (by decide) (by decide) (by decide) (by rw [s_30]; rfl) ⟨by rw [n_30.1]; exact Nat.le_of_ble_eq_true rfl, by rw [n_30.2]; exact Nat.le_of_ble_eq_true rfl⟩ rfl d_Sa_init_14 ?_
  refine w_putF (pc := 16) (G' := g_32) hX hI fl_Sa_15 rfl (finF rfl rfl rfl) (by decide) (by rw [s_31]; rfl) (by decide) (fun _ => rfl) (fun _ => rfl) rfl d_Sa_init_16 ?_
  exact v_vret (pc := 19) hX hR (by rw [n_32.1, n_28.1]) (by rw [n_32.2, n_28.2]) ⟨rfl, rfl⟩ d_Sa_init_19
def g_33 : GG := sR g_32 2 1 16
theorem f_33 : Fr g_33 := f_32.sR (by rw [s_32]; exact Nat.le_of_ble_eq_true rfl)
theorem s_33 : g_33.1 = [(1, 0), (1, 0), (0, 8), (0, 6), (3, 6), (2, 4), (0, 1), (0, 1), (0, 1), (0, 1), (0, 1), (0, 1), (0, 0), (0, 0), (0, 0), (0, 0), (0, 3), (1, 6), (1, 4)] := by show g_32.1 = _; exact s_32
theorem n_33 : gC g_33 = 19 ∧ gS g_33 = 82 := by unfold gC gS; rw [s_33]; exact ⟨rfl, rfl⟩
def g_34 : GG := aO g_33 (0, 4)
theorem f_34 : Fr g_34 := f_33.aO _
theorem s_34 : g_34.1 = [(1, 0), (1, 0), (0, 8), (0, 6), (3, 6), (2, 4), (0, 1), (0, 1), (0, 1), (0, 1), (0, 1), (0, 1), (0, 0), (0, 0), (0, 0), (0, 0), (0, 3), (1, 6), (1, 4), (0, 4)] := by show g_33.1 ++ _ = _; rw [s_33]; rfl
theorem n_34 : gC g_34 = 20 ∧ gS g_34 = 84 := by unfold gC gS; rw [s_34]; exact ⟨rfl, rfl⟩
theorem d_Se_init_0 : decode c_Se_init 0 = .ok (.aload_n 0, 1) := by decide +kernel
theorem d_Se_init_1 : decode c_Se_init 1 = .ok (.invokespecial 3, 3) := by decide +kernel
theorem d_Se_init_4 : decode c_Se_init 4 = .ok (.aload_n 0, 1) := by decide +kernel
theorem d_Se_init_5 : decode c_Se_init 5 = .ok (.bipush 6, 2) := by decide +kernel
theorem d_Se_init_7 : decode c_Se_init 7 = .ok (.newarray .int, 2) := by decide +kernel
theorem d_Se_init_9 : decode c_Se_init 9 = .ok (.putfield 9, 3) := by decide +kernel
theorem d_Se_init_12 : decode c_Se_init 12 = .ok (.aload_n 0, 1) := by decide +kernel
theorem d_Se_init_13 : decode c_Se_init 13 = .ok (.iconst 4, 1) := by decide +kernel
theorem d_Se_init_14 : decode c_Se_init 14 = .ok (.newarray .int, 2) := by decide +kernel
theorem d_Se_init_16 : decode c_Se_init 16 = .ok (.putfield 15, 3) := by decide +kernel
theorem d_Se_init_19 : decode c_Se_init 19 = .ok (.return_, 1) := by decide +kernel
def g_35 : GG := aO g_34 (1, 6)
theorem f_35 : Fr g_35 := f_34.aO _
theorem s_35 : g_35.1 = [(1, 0), (1, 0), (0, 8), (0, 6), (3, 6), (2, 4), (0, 1), (0, 1), (0, 1), (0, 1), (0, 1), (0, 1), (0, 0), (0, 0), (0, 0), (0, 0), (0, 3), (1, 6), (1, 4), (0, 4), (1, 6)] := by show g_34.1 ++ _ = _; rw [s_34]; rfl
theorem n_35 : gC g_35 = 21 ∧ gS g_35 = 90 := by unfold gC gS; rw [s_35]; exact ⟨rfl, rfl⟩
def g_36 : GG := sR g_35 19 0 20
theorem f_36 : Fr g_36 := f_35.sR (by rw [s_35]; exact Nat.le_of_ble_eq_true rfl)
theorem s_36 : g_36.1 = [(1, 0), (1, 0), (0, 8), (0, 6), (3, 6), (2, 4), (0, 1), (0, 1), (0, 1), (0, 1), (0, 1), (0, 1), (0, 0), (0, 0), (0, 0), (0, 0), (0, 3), (1, 6), (1, 4), (0, 4), (1, 6)] := by show g_35.1 = _; exact s_35
theorem n_36 : gC g_36 = 21 ∧ gS g_36 = 90 := by unfold gC gS; rw [s_36]; exact ⟨rfl, rfl⟩
def g_37 : GG := aO g_36 (1, 4)
theorem f_37 : Fr g_37 := f_36.aO _
theorem s_37 : g_37.1 = [(1, 0), (1, 0), (0, 8), (0, 6), (3, 6), (2, 4), (0, 1), (0, 1), (0, 1), (0, 1), (0, 1), (0, 1), (0, 0), (0, 0), (0, 0), (0, 0), (0, 3), (1, 6), (1, 4), (0, 4), (1, 6), (1, 4)] := by show g_36.1 ++ _ = _; rw [s_36]; rfl
theorem n_37 : gC g_37 = 22 ∧ gS g_37 = 94 := by unfold gC gS; rw [s_37]; exact ⟨rfl, rfl⟩
def g_38 : GG := sR g_37 19 1 21
theorem f_38 : Fr g_38 := f_37.sR (by rw [s_37]; exact Nat.le_of_ble_eq_true rfl)
theorem s_38 : g_38.1 = [(1, 0), (1, 0), (0, 8), (0, 6), (3, 6), (2, 4), (0, 1), (0, 1), (0, 1), (0, 1), (0, 1), (0, 1), (0, 0), (0, 0), (0, 0), (0, 0), (0, 3), (1, 6), (1, 4), (0, 4), (1, 6), (1, 4)] := by show g_37.1 = _; exact s_37
theorem n_38 : gC g_38 = 22 ∧ gS g_38 = 94 := by unfold gC gS; rw [s_38]; exact ⟨rfl, rfl⟩
set_option maxRecDepth 4000 in
theorem C_Se_init_1 : AMet y_Se_init c_Se_init 1 none 1 2 10 [vR 19] g_34 (fun o G' => o = none ∧ G' = g_38) := by
  refine AMet.of k_Se_init (lo := [some (vR 19)]) rfl (Nat.le_of_ble_eq_true rfl) (fun X hX hR hI0 => ?_)
  have hI := hI0 rfl
  refine v_aload_n (pc := 0) hX rfl d_Se_init_0 ?_
  refine v_objInit (pc := 1) hX ml_Se_3 rfl ⟨Nat.le_of_ble_eq_true rfl, Nat.le_of_ble_eq_true rfl⟩ (by decide) d_Se_init_1 ?_
  refine v_aload_n (pc := 4) hX rfl d_Se_init_4 ?_
  refine v_bipush (pc := 5) (v := 6) hX (by decide) d_Se_init_5 ?_
  refine w_newarr (pc := 7) (r := 20) (N := 6) (G' := g_35) hX f_34 (by decide) (by decide) (by decide) (by rw [s_34]; rfl) ⟨by rw [n_34.1]; exact Nat.le_of_ble_eq_true rfl, by rw [n_34.2]; exact Nat.le_of_ble_eq_true rfl⟩ rfl d_Se_init_7 ?_
  refine w_putF (pc := 9) (G' := g_36) hX hI fl_Se_9 rfl (finF rfl rfl rfl) (by decide) (by rw [s_35]; rfl) (by decide) (fun _ => rfl) (fun _ => rfl) rfl d_Se_init_9 ?_
  refine v_aload_n (pc := 12) hX rfl d_Se_init_12 ?_
  refine v_iconst (pc := 13) (v := 4) hX (by decide) d_Se_init_13 ?_
  refine w_newarr (pc := 14) (r := 21) (N := 4) (G' := g_37) hX f_36 (by decide) (by decide) (by decide) (by rw [s_36]; rfl) ⟨by rw [n_36.1]; exact Nat.le_of_ble_eq_true rfl, by rw [n_36.2]; exact Nat.le_of_ble_eq_true rfl⟩ rfl d_Se_init_14 ?_
  refine w_putF (pc := 16) (G' := g_38) hX hI fl_Se_15 rfl (finF rfl rfl rfl) (by decide) (by rw [s_37]; rfl) (by decide) (fun _ => rfl) (fun _ => rfl) rfl d_Se_init_16 ?_
  exact v_vret (pc := 19) hX hR (by rw [n_38.1, n_34.1]) (by rw [n_38.2, n_34.2]) ⟨rfl, rfl⟩ d_Se_init_19
def g_39 : GG := sR g_38 2 2 19
theorem f_39 : Fr g_39 := f_38.sR (by rw [s_38]; exact Nat.le_of_ble_eq_true rfl)
theorem s_39 : g_39.1 = [(1, 0), (1, 0), (0, 8), (0, 6), (3, 6), (2, 4), (0, 1), (0, 1), (0, 1), (0, 1), (0, 1), (0, 1), (0, 0), (0, 0), (0, 0), (0, 0), (0, 3), (1, 6), (1, 4), (0, 4), (1, 6), (1, 4)] := by show g_38.1 = _; exact s_38
theorem n_39 : gC g_39 = 22 ∧ gS g_39 = 94 := by unfold gC gS; rw [s_39]; exact ⟨rfl, rfl⟩
def g_40 : GG := aO g_39 (0, 2)
theorem f_40 : Fr g_40 := f_39.aO _
theorem s_40 : g_40.1 = [(1, 0), (1, 0), (0, 8), (0, 6), (3, 6), (2, 4), (0, 1), (0, 1), (0, 1), (0, 1), (0, 1), (0, 1), (0, 0), (0, 0), (0, 0), (0, 0), (0, 3), (1, 6), (1, 4), (0, 4), (1, 6), (1, 4), (0, 2)] := by show g_39.1 ++ _ = _; rw [s_39]; rfl
theorem n_40 : gC g_40 = 23 ∧ gS g_40 = 98 := by unfold gC gS; rw [s_40]; exact ⟨rfl, rfl⟩
theorem d_Re_init_0 : decode c_Re_init 0 = .ok (.aload_n 0, 1) := by decide +kernel
theorem d_Re_init_1 : decode c_Re_init 1 = .ok (.invokespecial 3, 3) := by decide +kernel
theorem d_Re_init_4 : decode c_Re_init 4 = .ok (.aload_n 0, 1) := by decide +kernel
theorem d_Re_init_5 : decode c_Re_init 5 = .ok (.bipush 8, 2) := by decide +kernel
theorem d_Re_init_7 : decode c_Re_init 7 = .ok (.newarray .int, 2) := by decide +kernel
theorem d_Re_init_9 : decode c_Re_init 9 = .ok (.putfield 9, 3) := by decide +kernel
theorem d_Re_init_12 : decode c_Re_init 12 = .ok (.aload_n 0, 1) := by decide +kernel
theorem d_Re_init_13 : decode c_Re_init 13 = .ok (.bipush 8, 2) := by decide +kernel
theorem d_Re_init_15 : decode c_Re_init 15 = .ok (.newarray .int, 2) := by decide +kernel
theorem d_Re_init_17 : decode c_Re_init 17 = .ok (.putfield 15, 3) := by decide +kernel
theorem d_Re_init_20 : decode c_Re_init 20 = .ok (.aload_n 0, 1) := by decide +kernel
theorem d_Re_init_21 : decode c_Re_init 21 = .ok (.bipush 8, 2) := by decide +kernel
theorem d_Re_init_23 : decode c_Re_init 23 = .ok (.newarray .int, 2) := by decide +kernel
theorem d_Re_init_25 : decode c_Re_init 25 = .ok (.putfield 18, 3) := by decide +kernel
theorem d_Re_init_28 : decode c_Re_init 28 = .ok (.return_, 1) := by decide +kernel
def g_41 : GG := aO g_40 (1, 8)
theorem f_41 : Fr g_41 := f_40.aO _
theorem s_41 : g_41.1 = [(1, 0), (1, 0), (0, 8), (0, 6), (3, 6), (2, 4), (0, 1), (0, 1), (0, 1), (0, 1), (0, 1), (0, 1), (0, 0), (0, 0), (0, 0), (0, 0), (0, 3), (1, 6), (1, 4), (0, 4), (1, 6), (1, 4), (0, 2), (1, 8)] := by show g_40.1 ++ _ = _; rw [s_40]; rfl
theorem n_41 : gC g_41 = 24 ∧ gS g_41 = 106 := by unfold gC gS; rw [s_41]; exact ⟨rfl, rfl⟩
def g_42 : GG := sR g_41 22 0 23
theorem f_42 : Fr g_42 := f_41.sR (by rw [s_41]; exact Nat.le_of_ble_eq_true rfl)
theorem s_42 : g_42.1 = [(1, 0), (1, 0), (0, 8), (0, 6), (3, 6), (2, 4), (0, 1), (0, 1), (0, 1), (0, 1), (0, 1), (0, 1), (0, 0), (0, 0), (0, 0), (0, 0), (0, 3), (1, 6), (1, 4), (0, 4), (1, 6), (1, 4), (0, 2), (1, 8)] := by show g_41.1 = _; exact s_41
theorem n_42 : gC g_42 = 24 ∧ gS g_42 = 106 := by unfold gC gS; rw [s_42]; exact ⟨rfl, rfl⟩
def g_43 : GG := aO g_42 (1, 8)
theorem f_43 : Fr g_43 := f_42.aO _
theorem s_43 : g_43.1 = [(1, 0), (1, 0), (0, 8), (0, 6), (3, 6), (2, 4), (0, 1), (0, 1), (0, 1), (0, 1), (0, 1), (0, 1), (0, 0), (0, 0), (0, 0), (0, 0), (0, 3), (1, 6), (1, 4), (0, 4), (1, 6), (1, 4), (0, 2), (1, 8), (1, 8)] := by show g_42.1 ++ _ = _; rw [s_42]; rfl
theorem n_43 : gC g_43 = 25 ∧ gS g_43 = 114 := by unfold gC gS; rw [s_43]; exact ⟨rfl, rfl⟩
def g_44 : GG := sR g_43 22 1 24
theorem f_44 : Fr g_44 := f_43.sR (by rw [s_43]; exact Nat.le_of_ble_eq_true rfl)
theorem s_44 : g_44.1 = [(1, 0), (1, 0), (0, 8), (0, 6), (3, 6), (2, 4), (0, 1), (0, 1), (0, 1), (0, 1), (0, 1), (0, 1), (0, 0), (0, 0), (0, 0), (0, 0), (0, 3), (1, 6), (1, 4), (0, 4), (1, 6), (1, 4), (0, 2), (1, 8), (1, 8)] := by show g_43.1 = _; exact s_43
theorem n_44 : gC g_44 = 25 ∧ gS g_44 = 114 := by unfold gC gS; rw [s_44]; exact ⟨rfl, rfl⟩
def g_45 : GG := aO g_44 (1, 8)
theorem f_45 : Fr g_45 := f_44.aO _
theorem s_45 : g_45.1 = [(1, 0), (1, 0), (0, 8), (0, 6), (3, 6), (2, 4), (0, 1), (0, 1), (0, 1), (0, 1), (0, 1), (0, 1), (0, 0), (0, 0), (0, 0), (0, 0), (0, 3), (1, 6), (1, 4), (0, 4), (1, 6), (1, 4), (0, 2), (1, 8), (1, 8), (1, 8)] := by show g_44.1 ++ _ = _; rw [s_44]; rfl
theorem n_45 : gC g_45 = 26 ∧ gS g_45 = 122 := by unfold gC gS; rw [s_45]; exact ⟨rfl, rfl⟩
def g_46 : GG := sR g_45 22 2 25
theorem f_46 : Fr g_46 := f_45.sR (by rw [s_45]; exact Nat.le_of_ble_eq_true rfl)
theorem s_46 : g_46.1 = [(1, 0), (1, 0), (0, 8), (0, 6), (3, 6), (2, 4), (0, 1), (0, 1), (0, 1), (0, 1), (0, 1), (0, 1), (0, 0), (0, 0), (0, 0), (0, 0), (0, 3), (1, 6), (1, 4), (0, 4), (1, 6), (1, 4), (0, 2), (1, 8), (1, 8), (1, 8)] := by show g_45.1 = _; exact s_45
theorem n_46 : gC g_46 = 26 ∧ gS g_46 = 122 := by unfold gC gS; rw [s_46]; exact ⟨rfl, rfl⟩
set_option maxRecDepth 4000 in
theorem C_Re_init_1 : AMet y_Re_init c_Re_init 1 none 1 3 24 [vR 22] g_40 (fun o G' => o = none ∧ G' = g_46) := by
  refine AMet.of k_Re_init (lo := [some (vR 22)]) rfl (Nat.le_of_ble_eq_true rfl) (fun X hX hR hI0 => ?_)
  have hI := hI0 rfl
  refine v_aload_n (pc := 0) hX rfl d_Re_init_0 ?_
  refine v_objInit (pc := 1) hX ml_Re_3 rfl ⟨Nat.le_of_ble_eq_true rfl, Nat.le_of_ble_eq_true rfl⟩ (by decide) d_Re_init_1 ?_
  refine v_aload_n (pc := 4) hX rfl d_Re_init_4 ?_
  refine v_bipush (pc := 5) (v := 8) hX (by decide) d_Re_init_5 ?_
  refine w_newarr (pc := 7) (r := 23) (N := 8) (G' := g_41) hX f_40 (by decide) (by decide) (by decide) (by rw [s_40]; rfl) ⟨by rw [n_40.1]; exact Nat.le_of_ble_eq_true rfl, by rw [n_40.2]; exact Nat.le_of_ble_eq_true rfl⟩ rfl d_Re_init_7 ?_
  refine w_putF (pc := 9) (G' := g_42) hX hI fl_Re_9 rfl (finF rfl rfl rfl) (by decide) (by rw [s_41]; rfl) (by decide) (fun _ => rfl) (fun _ => rfl) rfl d_Re_init_9 ?_
  refine v_aload_n (pc := 12) hX rfl d_Re_init_12 ?_
  refine v_bipush (pc := 13) (v := 8) hX (by decide) d_Re_init_13 ?_
  refine w_newarr (pc := 15) (r := 24) (N := 8) (G' := g_43) hX f_42 (by decide) (by decide) (by decide) (by rw [s_42]; rfl) ⟨by rw [n_42.1]; exact Nat.le_of_ble_eq_true rfl, by rw [n_42.2]; exact Nat.le_of_ble_eq_true rfl⟩ rfl d_Re_init_15 ?_
  refine w_putF (pc := 17) (G' := g_44) hX hI fl_Re_15 rfl (finF rfl rfl rfl) (by decide) (by rw [s_43]; rfl) (by decide) (fun _ => rfl) (fun _ => rfl) rfl d_Re_init_17 ?_
  refine v_aload_n (pc := 20) hX rfl d_Re_init_20 ?_
  refine v_bipush (pc := 21) (v := 8) hX (by decide) d_Re_init_21 ?_
  refine w_newarr (pc := 23) (r := 25) (N := 8) (G' := g_45) hX f_44 (by decide) (by decide) (by decide) (by rw [s_44]; rfl) ⟨by rw [n_44.1]; exact Nat.le_of_ble_eq_true rfl, by rw [n_44.2]; exact Nat.le_of_ble_eq_true rfl⟩ rfl d_Re_init_23 ?_
  refine w_putF (pc := 25) (G' := g_46) hX hI fl_Re_18 rfl (finF rfl rfl rfl) (by decide) (by rw [s_45]; rfl) (by decide) (fun _ => rfl) (fun _ => rfl) rfl d_Re_init_25 ?_
  exact v_vret (pc := 28) hX hR (by rw [n_46.1, n_40.1]) (by rw [n_46.2, n_40.2]) ⟨rfl, rfl⟩ d_Re_init_28
def g_47 : GG := sR g_46 2 3 22
theorem f_47 : Fr g_47 := f_46.sR (by rw [s_46]; exact Nat.le_of_ble_eq_true rfl)
theorem s_47 : g_47.1 = [(1, 0), (1, 0), (0, 8), (0, 6), (3, 6), (2, 4), (0, 1), (0, 1), (0, 1), (0, 1), (0, 1), (0, 1), (0, 0), (0, 0), (0, 0), (0, 0), (0, 3), (1, 6), (1, 4), (0, 4), (1, 6), (1, 4), (0, 2), (1, 8), (1, 8), (1, 8)] := by show g_46.1 = _; exact s_46
theorem n_47 : gC g_47 = 26 ∧ gS g_47 = 122 := by unfold gC gS; rw [s_47]; exact ⟨rfl, rfl⟩
def g_48 : GG := aO g_47 (0, 7)
theorem f_48 : Fr g_48 := f_47.aO _
theorem s_48 : g_48.1 = [(1, 0), (1, 0), (0, 8), (0, 6), (3, 6), (2, 4), (0, 1), (0, 1), (0, 1), (0, 1), (0, 1), (0, 1), (0, 0), (0, 0), (0, 0), (0, 0), (0, 3), (1, 6), (1, 4), (0, 4), (1, 6), (1, 4), (0, 2), (1, 8), (1, 8), (1, 8), (0, 7)] := by show g_47.1 ++ _ = _; rw [s_47]; rfl
theorem n_48 : gC g_48 = 27 ∧ gS g_48 = 123 := by unfold gC gS; rw [s_48]; exact ⟨rfl, rfl⟩
def g_49 : GG := sR g_48 2 4 26
theorem f_49 : Fr g_49 := f_48.sR (by rw [s_48]; exact Nat.le_of_ble_eq_true rfl)
theorem s_49 : g_49.1 = [(1, 0), (1, 0), (0, 8), (0, 6), (3, 6), (2, 4), (0, 1), (0, 1), (0, 1), (0, 1), (0, 1), (0, 1), (0, 0), (0, 0), (0, 0), (0, 0), (0, 3), (1, 6), (1, 4), (0, 4), (1, 6), (1, 4), (0, 2), (1, 8), (1, 8), (1, 8), (0, 7)] := by show g_48.1 = _; exact s_48
theorem n_49 : gC g_49 = 27 ∧ gS g_49 = 123 := by unfold gC gS; rw [s_49]; exact ⟨rfl, rfl⟩
def g_50 : GG := aO g_49 (7, 4)
theorem f_50 : Fr g_50 := f_49.aO _
theorem s_50 : g_50.1 = [(1, 0), (1, 0), (0, 8), (0, 6), (3, 6), (2, 4), (0, 1), (0, 1), (0, 1), (0, 1), (0, 1), (0, 1), (0, 0), (0, 0), (0, 0), (0, 0), (0, 3), (1, 6), (1, 4), (0, 4), (1, 6), (1, 4), (0, 2), (1, 8), (1, 8), (1, 8), (0, 7), (7, 4)] := by show g_49.1 ++ _ = _; rw [s_49]; rfl
theorem n_50 : gC g_50 = 28 ∧ gS g_50 = 127 := by unfold gC gS; rw [s_50]; exact ⟨rfl, rfl⟩
def g_51 : GG := sR g_50 2 5 27
theorem f_51 : Fr g_51 := f_50.sR (by rw [s_50]; exact Nat.le_of_ble_eq_true rfl)
theorem s_51 : g_51.1 = [(1, 0), (1, 0), (0, 8), (0, 6), (3, 6), (2, 4), (0, 1), (0, 1), (0, 1), (0, 1), (0, 1), (0, 1), (0, 0), (0, 0), (0, 0), (0, 0), (0, 3), (1, 6), (1, 4), (0, 4), (1, 6), (1, 4), (0, 2), (1, 8), (1, 8), (1, 8), (0, 7), (7, 4)] := by show g_50.1 = _; exact s_50
theorem n_51 : gC g_51 = 28 ∧ gS g_51 = 127 := by unfold gC gS; rw [s_51]; exact ⟨rfl, rfl⟩
def g_52 : GG := sI g_51 2 6 (0)
theorem f_52 : Fr g_52 := f_51.sI (by rw [s_51]; exact Nat.le_of_ble_eq_true rfl)
theorem s_52 : g_52.1 = [(1, 0), (1, 0), (0, 8), (0, 6), (3, 6), (2, 4), (0, 1), (0, 1), (0, 1), (0, 1), (0, 1), (0, 1), (0, 0), (0, 0), (0, 0), (0, 0), (0, 3), (1, 6), (1, 4), (0, 4), (1, 6), (1, 4), (0, 2), (1, 8), (1, 8), (1, 8), (0, 7), (7, 4)] := by show g_51.1 = _; exact s_51
theorem n_52 : gC g_52 = 28 ∧ gS g_52 = 127 := by unfold gC gS; rw [s_52]; exact ⟨rfl, rfl⟩
def g_53 : GG := aO g_52 (0, 5)
theorem f_53 : Fr g_53 := f_52.aO _
theorem s_53 : g_53.1 = [(1, 0), (1, 0), (0, 8), (0, 6), (3, 6), (2, 4), (0, 1), (0, 1), (0, 1), (0, 1), (0, 1), (0, 1), (0, 0), (0, 0), (0, 0), (0, 0), (0, 3), (1, 6), (1, 4), (0, 4), (1, 6), (1, 4), (0, 2), (1, 8), (1, 8), (1, 8), (0, 7), (7, 4), (0, 5)] := by show g_52.1 ++ _ = _; rw [s_52]; rfl
theorem n_53 : gC g_53 = 29 ∧ gS g_53 = 131 := by unfold gC gS; rw [s_53]; exact ⟨rfl, rfl⟩
theorem d_Sh_init_0 : decode c_Sh_init 0 = .ok (.aload_n 0, 1) := by decide +kernel
theorem d_Sh_init_1 : decode c_Sh_init 1 = .ok (.invokespecial 3, 3) := by decide +kernel
theorem d_Sh_init_4 : decode c_Sh_init 4 = .ok (.aload_n 0, 1) := by decide +kernel
theorem d_Sh_init_5 : decode c_Sh_init 5 = .ok (.bipush 60, 2) := by decide +kernel
theorem d_Sh_init_7 : decode c_Sh_init 7 = .ok (.newarray .int, 2) := by decide +kernel
theorem d_Sh_init_9 : decode c_Sh_init 9 = .ok (.putfield 9, 3) := by decide +kernel
theorem d_Sh_init_12 : decode c_Sh_init 12 = .ok (.return_, 1) := by decide +kernel
def g_54 : GG := aO g_53 (1, 60)
theorem f_54 : Fr g_54 := f_53.aO _
theorem s_54 : g_54.1 = [(1, 0), (1, 0), (0, 8), (0, 6), (3, 6), (2, 4), (0, 1), (0, 1), (0, 1), (0, 1), (0, 1), (0, 1), (0, 0), (0, 0), (0, 0), (0, 0), (0, 3), (1, 6), (1, 4), (0, 4), (1, 6), (1, 4), (0, 2), (1, 8), (1, 8), (1, 8), (0, 7), (7, 4), (0, 5), (1, 60)] := by show g_53.1 ++ _ = _; rw [s_53]; rfl
theorem n_54 : gC g_54 = 30 ∧ gS g_54 = 191 := by unfold gC gS; rw [s_54]; exact ⟨rfl, rfl⟩
def g_55 : GG := sR g_54 28 0 29
theorem f_55 : Fr g_55 := f_54.sR (by rw [s_54]; exact Nat.le_of_ble_eq_true rfl)
theorem s_55 : g_55.1 = [(1, 0), (1, 0), (0, 8), (0, 6), (3, 6), (2, 4), (0, 1), (0, 1), (0, 1), (0, 1), (0, 1), (0, 1), (0, 0), (0, 0), (0, 0), (0, 0), (0, 3), (1, 6), (1, 4), (0, 4), (1, 6), (1, 4), (0, 2), (1, 8), (1, 8), (1, 8), (0, 7), (7, 4), (0, 5), (1, 60)] := by show g_54.1 = _; exact s_54
theorem n_55 : gC g_55 = 30 ∧ gS g_55 = 191 := by unfold gC gS; rw [s_55]; exact ⟨rfl, rfl⟩
set_option maxRecDepth 4000 in
theorem C_Sh_init_1 : AMet y_Sh_init c_Sh_init 1 none 1 1 60 [vR 28] g_53 (fun o G' => o = none ∧ G' = g_55) := by
  refine AMet.of k_Sh_init (lo := [some (vR 28)]) rfl (Nat.le_of_ble_eq_true rfl) (fun X hX hR hI0 => ?_)
  have hI := hI0 rfl
  refine v_aload_n (pc := 0) hX rfl d_Sh_init_0 ?_
  refine v_objInit (pc := 1) hX ml_Sh_3 rfl ⟨Nat.le_of_ble_eq_true rfl, Nat.le_of_ble_eq_true rfl⟩ (by decide) d_Sh_init_1 ?_
  refine v_aload_n (pc := 4) hX rfl d_Sh_init_4 ?_
  refine v_bipush (pc := 5) (v := 60) hX (by decide) d_Sh_init_5 ?_
  refine w_newarr (pc := 7) (r := 29) (N := 60) (G' := g_54) hX f_53 (by decide) (by decide) (by decide) (by rw [s_53]; rfl) ⟨by rw [n_53.1]; exact Nat.le_of_ble_eq_true rfl, by rw [n_53.2]; exact Nat.le_of_ble_eq_true rfl⟩ rfl d_Sh_init_7 ?_
  refine w_putF (pc := 9) (G' := g_55) hX hI fl_Sh_9 rfl (finF rfl rfl rfl) (by decide) (by rw [s_54]; rfl) (by decide) (fun _ => rfl) (fun _ => rfl) rfl d_Sh_init_9 ?_
  exact v_vret (pc := 12) hX hR (by rw [n_55.1, n_53.1]) (by rw [n_55.2, n_53.2]) ⟨rfl, rfl⟩ d_Sh_init_12
def g_56 : GG := sR g_55 27 0 28
theorem f_56 : Fr g_56 := f_55.sR (by rw [s_55]; exact Nat.le_of_ble_eq_true rfl)
theorem s_56 : g_56.1 = [(1, 0), (1, 0), (0, 8), (0, 6), (3, 6), (2, 4), (0, 1), (0, 1), (0, 1), (0, 1), (0, 1), (0, 1), (0, 0), (0, 0), (0, 0), (0, 0), (0, 3), (1, 6), (1, 4), (0, 4), (1, 6), (1, 4), (0, 2), (1, 8), (1, 8), (1, 8), (0, 7), (7, 4), (0, 5), (1, 60)] := by show g_55.1 = _; exact s_55
theorem n_56 : gC g_56 = 30 ∧ gS g_56 = 191 := by unfold gC gS; rw [s_56]; exact ⟨rfl, rfl⟩
def g_57 : GG := aO g_56 (0, 5)
theorem f_57 : Fr g_57 := f_56.aO _
theorem s_57 : g_57.1 = [(1, 0), (1, 0), (0, 8), (0, 6), (3, 6), (2, 4), (0, 1), (0, 1), (0, 1), (0, 1), (0, 1), (0, 1), (0, 0), (0, 0), (0, 0), (0, 0), (0, 3), (1, 6), (1, 4), (0, 4), (1, 6), (1, 4), (0, 2), (1, 8), (1, 8), (1, 8), (0, 7), (7, 4), (0, 5), (1, 60), (0, 5)] := by show g_56.1 ++ _ = _; rw [s_56]; rfl
theorem n_57 : gC g_57 = 31 ∧ gS g_57 = 195 := by unfold gC gS; rw [s_57]; exact ⟨rfl, rfl⟩
def g_58 : GG := aO g_57 (1, 60)
theorem f_58 : Fr g_58 := f_57.aO _
theorem s_58 : g_58.1 = [(1, 0), (1, 0), (0, 8), (0, 6), (3, 6), (2, 4), (0, 1), (0, 1), (0, 1), (0, 1), (0, 1), (0, 1), (0, 0), (0, 0), (0, 0), (0, 0), (0, 3), (1, 6), (1, 4), (0, 4), (1, 6), (1, 4), (0, 2), (1, 8), (1, 8), (1, 8), (0, 7), (7, 4), (0, 5), (1, 60), (0, 5), (1, 60)] := by show g_57.1 ++ _ = _; rw [s_57]; rfl
theorem n_58 : gC g_58 = 32 ∧ gS g_58 = 255 := by unfold gC gS; rw [s_58]; exact ⟨rfl, rfl⟩
def g_59 : GG := sR g_58 30 0 31
theorem f_59 : Fr g_59 := f_58.sR (by rw [s_58]; exact Nat.le_of_ble_eq_true rfl)
theorem s_59 : g_59.1 = [(1, 0), (1, 0), (0, 8), (0, 6), (3, 6), (2, 4), (0, 1), (0, 1), (0, 1), (0, 1), (0, 1), (0, 1), (0, 0), (0, 0), (0, 0), (0, 0), (0, 3), (1, 6), (1, 4), (0, 4), (1, 6), (1, 4), (0, 2), (1, 8), (1, 8), (1, 8), (0, 7), (7, 4), (0, 5), (1, 60), (0, 5), (1, 60)] := by show g_58.1 = _; exact s_58
theorem n_59 : gC g_59 = 32 ∧ gS g_59 = 255 := by unfold gC gS; rw [s_59]; exact ⟨rfl, rfl⟩
set_option maxRecDepth 4000 in
theorem C_Sh_init_2 : AMet y_Sh_init c_Sh_init 1 none 1 1 60 [vR 30] g_57 (fun o G' => o = none ∧ G' = g_59) := by
  refine AMet.of k_Sh_init (lo := [some (vR 30)]) rfl (Nat.le_of_ble_eq_true rfl) (fun X hX hR hI0 => ?_)
  have hI := hI0 rfl
  refine v_aload_n (pc := 0) hX rfl d_Sh_init_0 ?_
  refine v_objInit (pc := 1) hX ml_Sh_3 rfl ⟨Nat.le_of_ble_eq_true rfl, Nat.le_of_ble_eq_true rfl⟩ (by decide) d_Sh_init_1 ?_
  refine v_aload_n (pc := 4) hX rfl d_Sh_init_4 ?_
  refine v_bipush (pc := 5) (v := 60) hX (by decide) d_Sh_init_5 ?_
  refine w_newarr (pc := 7) (r := 31) (N := 60) (G' := g_58) hX f_57 (by decide) (by decide) (by decide) (by rw [s_57]; rfl) ⟨by rw [n_57.1]; exact Nat.le_of_ble_eq_true rfl, by rw [n_57.2]; exact Nat.le_of_ble_eq_true rfl⟩ rfl d_Sh_init_7 ?_
  refine w_putF (pc := 9) (G' := g_59) hX hI fl_Sh_9 rfl (finF rfl rfl rfl) (by decide) (by rw [s_58]; rfl) (by decide) (fun _ => rfl) (fun _ => rfl) rfl d_Sh_init_9 ?_
  exact v_vret (pc := 12) hX hR (by rw [n_59.1, n_57.1]) (by rw [n_59.2, n_57.2]) ⟨rfl, rfl⟩ d_Sh_init_12
def g_60 : GG := sR g_59 27 1 30
theorem f_60 : Fr g_60 := f_59.sR (by rw [s_59]; exact Nat.le_of_ble_eq_true rfl)
theorem s_60 : g_60.1 = [(1, 0), (1, 0), (0, 8), (0, 6), (3, 6), (2, 4), (0, 1), (0, 1), (0, 1), (0, 1), (0, 1), (0, 1), (0, 0), (0, 0), (0, 0), (0, 0), (0, 3), (1, 6), (1, 4), (0, 4), (1, 6), (1, 4), (0, 2), (1, 8), (1, 8), (1, 8), (0, 7), (7, 4), (0, 5), (1, 60), (0, 5), (1, 60)] := by show g_59.1 = _; exact s_59
theorem n_60 : gC g_60 = 32 ∧ gS g_60 = 255 := by unfold gC gS; rw [s_60]; exact ⟨rfl, rfl⟩
def g_61 : GG := aO g_60 (0, 5)
theorem f_61 : Fr g_61 := f_60.aO _
theorem s_61 : g_61.1 = [(1, 0), (1, 0), (0, 8), (0, 6), (3, 6), (2, 4), (0, 1), (0, 1), (0, 1), (0, 1), (0, 1), (0, 1), (0, 0), (0, 0), (0, 0), (0, 0), (0, 3), (1, 6), (1, 4), (0, 4), (1, 6), (1, 4), (0, 2), (1, 8), (1, 8), (1, 8), (0, 7), (7, 4), (0, 5), (1, 60), (0, 5), (1, 60), (0, 5)] := by show g_60.1 ++ _ = _; rw [s_60]; rfl
theorem n_61 : gC g_61 = 33 ∧ gS g_61 = 259 := by unfold gC gS; rw [s_61]; exact ⟨rfl, rfl⟩
def g_62 : GG := aO g_61 (1, 60)
theorem f_62 : Fr g_62 := f_61.aO _
theorem s_62 : g_62.1 = [(1, 0), (1, 0), (0, 8), (0, 6), (3, 6), (2, 4), (0, 1), (0, 1), (0, 1), (0, 1), (0, 1), (0, 1), (0, 0), (0, 0), (0, 0), (0, 0), (0, 3), (1, 6), (1, 4), (0, 4), (1, 6), (1, 4), (0, 2), (1, 8), (1, 8), (1, 8), (0, 7), (7, 4), (0, 5), (1, 60), (0, 5), (1, 60), (0, 5), (1, 60)] := by show g_61.1 ++ _ = _; rw [s_61]; rfl
theorem n_62 : gC g_62 = 34 ∧ gS g_62 = 319 := by unfold gC gS; rw [s_62]; exact ⟨rfl, rfl⟩
def g_63 : GG := sR g_62 32 0 33
theorem f_63 : Fr g_63 := f_62.sR (by rw [s_62]; exact Nat.le_of_ble_eq_true rfl)
theorem s_63 : g_63.1 = [(1, 0), (1, 0), (0, 8), (0, 6), (3, 6), (2, 4), (0, 1), (0, 1), (0, 1), (0, 1), (0, 1), (0, 1), (0, 0), (0, 0), (0, 0), (0, 0), (0, 3), (1, 6), (1, 4), (0, 4), (1, 6), (1, 4), (0, 2), (1, 8), (1, 8), (1, 8), (0, 7), (7, 4), (0, 5), (1, 60), (0, 5), (1, 60), (0, 5), (1, 60)] := by show g_62.1 = _; exact s_62
theorem n_63 : gC g_63 = 34 ∧ gS g_63 = 319 := by unfold gC gS; rw [s_63]; exact ⟨rfl, rfl⟩
set_option maxRecDepth 4000 in
theorem C_Sh_init_3 : AMet y_Sh_init c_Sh_init 1 none 1 1 60 [vR 32] g_61 (fun o G' => o = none ∧ G' = g_63) := by
  refine AMet.of k_Sh_init (lo := [some (vR 32)]) rfl (Nat.le_of_ble_eq_true rfl) (fun X hX hR hI0 => ?_)
  have hI := hI0 rfl
  refine v_aload_n (pc := 0) hX rfl d_Sh_init_0 ?_
  refine v_objInit (pc := 1) hX ml_Sh_3 rfl ⟨Nat.le_of_ble_eq_true rfl, Nat.le_of_ble_eq_true rfl⟩ (by decide) d_Sh_init_1 ?_
  refine v_aload_n (pc := 4) hX rfl d_Sh_init_4 ?_
  refine v_bipush (pc := 5) (v := 60) hX (by decide) d_Sh_init_5 ?_
  refine w_newarr (pc := 7) (r := 33) (N := 60) (G' := g_62) hX f_61 (by decide) (by decide) (by decide) (by rw [s_61]; rfl) ⟨by rw [n_61.1]; exact Nat.le_of_ble_eq_true rfl, by rw [n_61.2]; exact Nat.le_of_ble_eq_true rfl⟩ rfl d_Sh_init_7 ?_
  refine w_putF (pc := 9) (G' := g_63) hX hI fl_Sh_9 rfl (finF rfl rfl rfl) (by decide) (by rw [s_62]; rfl) (by decide) (fun _ => rfl) (fun _ => rfl) rfl d_Sh_init_9 ?_
  exact v_vret (pc := 12) hX hR (by rw [n_63.1, n_61.1]) (by rw [n_63.2, n_61.2]) ⟨rfl, rfl⟩ d_Sh_init_12
def g_64 : GG := sR g_63 27 2 32
theorem f_64 : Fr g_64 := f_63.sR (by rw [s_63]; exact Nat.le_of_ble_eq_true rfl)
theorem s_64 : g_64.1 = [(1, 0), (1, 0), (0, 8), (0, 6), (3, 6), (2, 4), (0, 1), (0, 1), (0, 1), (0, 1), (0, 1), (0, 1), (0, 0), (0, 0), (0, 0), (0, 0), (0, 3), (1, 6), (1, 4), (0, 4), (1, 6), (1, 4), (0, 2), (1, 8), (1, 8), (1, 8), (0, 7), (7, 4), (0, 5), (1, 60), (0, 5), (1, 60), (0, 5), (1, 60)] := by show g_63.1 = _; exact s_63
theorem n_64 : gC g_64 = 34 ∧ gS g_64 = 319 := by unfold gC gS; rw [s_64]; exact ⟨rfl, rfl⟩
def g_65 : GG := aO g_64 (0, 5)
theorem f_65 : Fr g_65 := f_64.aO _
theorem s_65 : g_65.1 = [(1, 0), (1, 0), (0, 8), (0, 6), (3, 6), (2, 4), (0, 1), (0, 1), (0, 1), (0, 1), (0, 1), (0, 1), (0, 0), (0, 0), (0, 0), (0, 0), (0, 3), (1, 6), (1, 4), (0, 4), (1, 6), (1, 4), (0, 2), (1, 8), (1, 8), (1, 8), (0, 7), (7, 4), (0, 5), (1, 60), (0, 5), (1, 60), (0, 5), (1, 60), (0, 5)] := by show g_64.1 ++ _ = _; rw [s_64]; rfl
theorem n_65 : gC g_65 = 35 ∧ gS g_65 = 323 := by unfold gC gS; rw [s_65]; exact ⟨rfl, rfl⟩
def g_66 : GG := aO g_65 (1, 60)
theorem f_66 : Fr g_66 := f_65.aO _
theorem s_66 : g_66.1 = [(1, 0), (1, 0), (0, 8), (0, 6), (3, 6), (2, 4), (0, 1), (0, 1), (0, 1), (0, 1), (0, 1), (0, 1), (0, 0), (0, 0), (0, 0), (0, 0), (0, 3), (1, 6), (1, 4), (0, 4), (1, 6), (1, 4), (0, 2), (1, 8), (1, 8), (1, 8), (0, 7), (7, 4), (0, 5), (1, 60), (0, 5), (1, 60), (0, 5), (1, 60), (0, 5), (1, 60)] := by show g_65.1 ++ _ = _; rw [s_65]; rfl
theorem n_66 : gC g_66 = 36 ∧ gS g_66 = 383 := by unfold gC gS; rw [s_66]; exact ⟨rfl, rfl⟩
def g_67 : GG := sR g_66 34 0 35
theorem f_67 : Fr g_67 := f_66.sR (by rw [s_66]; exact Nat.le_of_ble_eq_true rfl)
theorem s_67 : g_67.1 = [(1, 0), (1, 0), (0, 8), (0, 6), (3, 6), (2, 4), (0, 1), (0, 1), (0, 1), (0, 1), (0, 1), (0, 1), (0, 0), (0, 0), (0, 0), (0, 0), (0, 3), (1, 6), (1, 4), (0, 4), (1, 6), (1, 4), (0, 2), (1, 8), (1, 8), (1, 8), (0, 7), (7, 4), (0, 5), (1, 60), (0, 5), (1, 60), (0, 5), (1, 60), (0, 5), (1, 60)] := by show g_66.1 = _; exact s_66
theorem n_67 : gC g_67 = 36 ∧ gS g_67 = 383 := by unfold gC gS; rw [s_67]; exact ⟨rfl, rfl⟩
set_option maxRecDepth 4000 in
theorem C_Sh_init_4 : AMet y_Sh_init c_Sh_init 1 none 1 1 60 [vR 34] g_65 (fun o G' => o = none ∧ G' = g_67) := by
  refine AMet.of k_Sh_init (lo := [some (vR 34)]) rfl (Nat.le_of_ble_eq_true rfl) (fun X hX hR hI0 => ?_)
  have hI := hI0 rfl
  refine v_aload_n (pc := 0) hX rfl d_Sh_init_0 ?_
  refine v_objInit (pc := 1) hX ml_Sh_3 rfl ⟨Nat.le_of_ble_eq_true rfl, Nat.le_of_ble_eq_true rfl⟩ (by decide) d_Sh_init_1 ?_
  refine v_aload_n (pc := 4) hX rfl d_Sh_init_4 ?_
  refine v_bipush (pc := 5) (v := 60) hX (by decide) d_Sh_init_5 ?_
  refine w_newarr (pc := 7) (r := 35) (N := 60) (G' := g_66) hX f_65 (by decide) (by decide) (by decide) (by rw [s_65]; rfl) ⟨by rw [n_65.1]; exact Nat.le_of_ble_eq_true rfl, by rw [n_65.2]; exact Nat.le_of_ble_eq_true rfl⟩ rfl d_Sh_init_7 ?_
  refine w_putF (pc := 9) (G' := g_67) hX hI fl_Sh_9 rfl (finF rfl rfl rfl) (by decide) (by rw [s_66]; rfl) (by decide) (fun _ => rfl) (fun _ => rfl) rfl d_Sh_init_9 ?_
  exact v_vret (pc := 12) hX hR (by rw [n_67.1, n_65.1]) (by rw [n_67.2, n_65.2]) ⟨rfl, rfl⟩ d_Sh_init_12
def g_68 : GG := sR g_67 27 3 34
theorem f_68 : Fr g_68 := f_67.sR (by rw [s_67]; exact Nat.le_of_ble_eq_true rfl)
theorem s_68 : g_68.1 = [(1, 0), (1, 0), (0, 8), (0, 6), (3, 6), (2, 4), (0, 1), (0, 1), (0, 1), (0, 1), (0, 1), (0, 1), (0, 0), (0, 0), (0, 0), (0, 0), (0, 3), (1, 6), (1, 4), (0, 4), (1, 6), (1, 4), (0, 2), (1, 8), (1, 8), (1, 8), (0, 7), (7, 4), (0, 5), (1, 60), (0, 5), (1, 60), (0, 5), (1, 60), (0, 5), (1, 60)] := by show g_67.1 = _; exact s_67
theorem n_68 : gC g_68 = 36 ∧ gS g_68 = 383 := by unfold gC gS; rw [s_68]; exact ⟨rfl, rfl⟩
set_option maxRecDepth 4000 in
theorem C_LJ_init_1 : AMet y_LJ_init c_LJ_init 2 none 3 33 376 [vR 2] g_1 (fun o G' => o = none ∧ G' = g_68) := by
  refine AMet.of k_LJ_init (lo := [some (vR 2), none]) rfl (Nat.le_of_ble_eq_true rfl) (fun X hX hR hI0 => ?_)
  have hI := hI0 rfl
  refine v_aload_n (pc := 0) hX rfl d_LJ_init_0 ?_
  refine v_objInit (pc := 1) hX ml_LJ_3 rfl ⟨Nat.le_of_ble_eq_true rfl, Nat.le_of_ble_eq_true rfl⟩ (by decide) d_LJ_init_1 ?_
  refine v_aload_n (pc := 4) hX rfl d_LJ_init_4 ?_
  refine w_new (pc := 5) (r := 3) (G' := g_2) hX f_1 cl_LJ_9 io_Sp ii_Sp rfl (by rw [s_1]; rfl) ⟨by rw [n_1.1]; exact Nat.le_of_ble_eq_true rfl, by rw [n_1.2]; exact Nat.le_of_ble_eq_true rfl⟩ rfl d_LJ_init_5 ?_
  refine v_dup (pc := 8) hX rfl d_LJ_init_8 ?_
  refine v_callI (pc := 9) (as := []) hX k_Sp_init rfl ki_Sp_init ml_LJ_11 C_Sp_init_1 (by decide) rfl rfl rfl ⟨Nat.le_of_ble_eq_true rfl, Nat.le_of_ble_eq_true rfl, Nat.le_of_ble_eq_true rfl, by rw [n_2.1]; exact Nat.le_of_ble_eq_true rfl, by rw [n_2.2]; exact Nat.le_of_ble_eq_true rfl⟩ (fun r G' h => by rw [h.2, n_26.1, n_26.2, n_2.1, n_2.2]; exact ⟨rfl, rfl⟩) d_LJ_init_9 (fun r G' h => ?_)
  obtain ⟨rfl, rfl⟩ := h
  refine VW.cast (lo' := [some (vR 2), none]) (st' := [vR 3, vR 2]) (G' := g_26) rfl rfl rfl ?_
  refine w_putF (pc := 12) (G' := g_27) hX hI fl_LJ_12 rfl (finF rfl rfl rfl) (by decide) (by rw [s_26]; rfl) (by decide) (fun _ => rfl) (fun _ => rfl) rfl d_LJ_init_12 ?_
  refine v_aload_n (pc := 15) hX rfl d_LJ_init_15 ?_
  refine w_new (pc := 16) (r := 16) (G' := g_28) hX f_27 cl_LJ_18 io_Sa ii_Sa rfl (by rw [s_27]; rfl) ⟨by rw [n_27.1]; exact Nat.le_of_ble_eq_true rfl, by rw [n_27.2]; exact Nat.le_of_ble_eq_true rfl⟩ rfl d_LJ_init_16 ?_
  refine v_dup (pc := 19) hX rfl d_LJ_init_19 ?_
  refine v_callI (pc := 20) (as := []) hX k_Sa_init rfl ki_Sa_init ml_LJ_20 C_Sa_init_1 (by decide) rfl rfl rfl ⟨Nat.le_of_ble_eq_true rfl, Nat.le_of_ble_eq_true rfl, Nat.le_of_ble_eq_true rfl, by rw [n_28.1]; exact Nat.le_of_ble_eq_true rfl, by rw [n_28.2]; exact Nat.le_of_ble_eq_true rfl⟩ (fun r G' h => by rw [h.2, n_32.1, n_32.2, n_28.1, n_28.2]; exact ⟨rfl, rfl⟩) d_LJ_init_20 (fun r G' h => ?_)
  obtain ⟨rfl, rfl⟩ := h
  refine VW.cast (lo' := [some (vR 2), none]) (st' := [vR 16, vR 2]) (G' := g_32) rfl rfl rfl ?_
  refine w_putF (pc := 23) (G' := g_33) hX hI fl_LJ_21 rfl (finF rfl rfl rfl) (by decide) (by rw [s_32]; rfl) (by decide) (fun _ => rfl) (fun _ => rfl) rfl d_LJ_init_23 ?_
  refine v_aload_n (pc := 26) hX rfl d_LJ_init_26 ?_
  refine w_new (pc := 27) (r := 19) (G' := g_34) hX f_33 cl_LJ_25 io_Se ii_Se rfl (by rw [s_33]; rfl) ⟨by rw [n_33.1]; exact Nat.le_of_ble_eq_true rfl, by rw [n_33.2]; exact Nat.le_of_ble_eq_true rfl⟩ rfl d_LJ_init_27 ?_
  refine v_dup (pc := 30) hX rfl d_LJ_init_30 ?_
  refine v_callI (pc := 31) (as := []) hX k_Se_init rfl ki_Se_init ml_LJ_27 C_Se_init_1 (by decide) rfl rfl rfl ⟨Nat.le_of_ble_eq_true rfl, Nat.le_of_ble_eq_true rfl, Nat.le_of_ble_eq_true rfl, by rw [n_34.1]; exact Nat.le_of_ble_eq_true rfl, by rw [n_34.2]; exact Nat.le_of_ble_eq_true rfl⟩ (fun r G' h => by rw [h.2, n_38.1, n_38.2, n_34.1, n_34.2]; exact ⟨rfl, rfl⟩) d_LJ_init_31 (fun r G' h => ?_)
  obtain ⟨rfl, rfl⟩ := h
  refine VW.cast (lo' := [some (vR 2), none]) (st' := [vR 19, vR 2]) (G' := g_38) rfl rfl rfl ?_
  refine w_putF (pc := 34) (G' := g_39) hX hI fl_LJ_28 rfl (finF rfl rfl rfl) (by decide) (by rw [s_38]; rfl) (by decide) (fun _ => rfl) (fun _ => rfl) rfl d_LJ_init_34 ?_
  refine v_aload_n (pc := 37) hX rfl d_LJ_init_37 ?_
  refine w_new (pc := 38) (r := 22) (G' := g_40) hX f_39 cl_LJ_32 io_Re ii_Re rfl (by rw [s_39]; rfl) ⟨by rw [n_39.1]; exact Nat.le_of_ble_eq_true rfl, by rw [n_39.2]; exact Nat.le_of_ble_eq_true rfl⟩ rfl d_LJ_init_38 ?_
  refine v_dup (pc := 41) hX rfl d_LJ_init_41 ?_
  refine v_callI (pc := 42) (as := []) hX k_Re_init rfl ki_Re_init ml_LJ_34 C_Re_init_1 (by decide) rfl rfl rfl ⟨Nat.le_of_ble_eq_true rfl, Nat.le_of_ble_eq_true rfl, Nat.le_of_ble_eq_true rfl, by rw [n_40.1]; exact Nat.le_of_ble_eq_true rfl, by rw [n_40.2]; exact Nat.le_of_ble_eq_true rfl⟩ (fun r G' h => by rw [h.2, n_46.1, n_46.2, n_40.1, n_40.2]; exact ⟨rfl, rfl⟩) d_LJ_init_42 (fun r G' h => ?_)
  obtain ⟨rfl, rfl⟩ := h
  refine VW.cast (lo' := [some (vR 2), none]) (st' := [vR 22, vR 2]) (G' := g_46) rfl rfl rfl ?_
  refine w_putF (pc := 45) (G' := g_47) hX hI fl_LJ_35 rfl (finF rfl rfl rfl) (by decide) (by rw [s_46]; rfl) (by decide) (fun _ => rfl) (fun _ => rfl) rfl d_LJ_init_45 ?_
  refine v_aload_n (pc := 48) hX rfl d_LJ_init_48 ?_
  refine w_new (pc := 49) (r := 26) (G' := g_48) hX f_47 cl_LJ_39 io_Te ii_Te rfl (by rw [s_47]; rfl) ⟨by rw [n_47.1]; exact Nat.le_of_ble_eq_true rfl, by rw [n_47.2]; exact Nat.le_of_ble_eq_true rfl⟩ rfl d_LJ_init_49 ?_
  refine v_dup (pc := 52) hX rfl d_LJ_init_52 ?_
  refine v_callI (pc := 53) (as := []) hX k_Te_init rfl ki_Te_init ml_LJ_41 (C_Te_init (by decide)) (by decide) rfl rfl rfl ⟨Nat.le_of_ble_eq_true rfl, Nat.le_of_ble_eq_true rfl, Nat.le_of_ble_eq_true rfl, by rw [n_48.1]; exact Nat.le_of_ble_eq_true rfl, by rw [n_48.2]; exact Nat.le_of_ble_eq_true rfl⟩ (fun r G' h => by rw [h.2]; exact ⟨rfl, rfl⟩) d_LJ_init_53 (fun r G' h => ?_)
  obtain ⟨rfl, rfl⟩ := h
  refine VW.cast (lo' := [some (vR 2), none]) (st' := [vR 26, vR 2]) (G' := g_48) rfl rfl rfl ?_
  refine w_putF (pc := 56) (G' := g_49) hX hI fl_LJ_42 rfl (finF rfl rfl rfl) (by decide) (by rw [s_48]; rfl) (by decide) (fun _ => rfl) (fun _ => rfl) rfl d_LJ_init_56 ?_
  refine v_aload_n (pc := 59) hX rfl d_LJ_init_59 ?_
  refine v_iconst (pc := 60) (v := 4) hX (by decide) d_LJ_init_60 ?_
  refine w_anew (pc := 61) (r := 27) (c := 5) (N := 4) (G' := g_50) hX f_49 (by decide) rfl cl_LJ_46 (by decide) (by decide) (by decide) (by rw [s_49]; rfl) ⟨by rw [n_49.1]; exact Nat.le_of_ble_eq_true rfl, by rw [n_49.2]; exact Nat.le_of_ble_eq_true rfl⟩ rfl d_LJ_init_61 ?_
  refine w_putF (pc := 64) (G' := g_51) hX hI fl_LJ_48 rfl (finF rfl rfl rfl) (by decide) (by rw [s_50]; rfl) (by decide) (fun _ => rfl) (fun _ => rfl) rfl d_LJ_init_64 ?_
  refine v_aload_n (pc := 67) hX rfl d_LJ_init_67 ?_
  refine v_iconst (pc := 68) (v := 0) hX (by decide) d_LJ_init_68 ?_
  refine w_putI (pc := 69) (G' := g_52) hX fl_LJ_52 rfl (finI rfl rfl) (by decide) (by rw [s_51]; rfl) rfl rfl rfl d_LJ_init_69 ?_
  refine v_iconst (pc := 72) (v := 0) hX (by decide) d_LJ_init_72 ?_
  refine v_istore_n (pc := 73) (lo' := [some (vR 2), some (vI (0))]) hX (by decide) rfl d_LJ_init_73 ?_
  refine v_iload_n (pc := 74) hX rfl d_LJ_init_74 ?_
  refine v_iconst (pc := 75) (v := 4) hX (by decide) d_LJ_init_75 ?_
  refine v_icmp_ge (pc := 76) (tgt := 98) hX d_LJ_init_76 rfl (fun hc => absurd hc (by decide)) (fun _ => ?_)
  refine v_aload_n (pc := 79) hX rfl d_LJ_init_79 ?_
  refine w_getR (pc := 80) (v := 27) hX fl_LJ_48 rfl (by decide) (by rw [s_52]; rfl) rfl d_LJ_init_80 ?_
  refine v_iload_n (pc := 83) hX rfl d_LJ_init_83 ?_
  refine w_new (pc := 84) (r := 28) (G' := g_53) hX f_52 cl_LJ_46 io_Sh ii_Sh rfl (by rw [s_52]; rfl) ⟨by rw [n_52.1]; exact Nat.le_of_ble_eq_true rfl, by rw [n_52.2]; exact Nat.le_of_ble_eq_true rfl⟩ rfl d_LJ_init_84 ?_
  refine v_dup (pc := 87) hX rfl d_LJ_init_87 ?_
  refine v_callI (pc := 88) (as := []) hX k_Sh_init rfl ki_Sh_init ml_LJ_56 C_Sh_init_1 (by decide) rfl rfl rfl ⟨Nat.le_of_ble_eq_true rfl, Nat.le_of_ble_eq_true rfl, Nat.le_of_ble_eq_true rfl, by rw [n_53.1]; exact Nat.le_of_ble_eq_true rfl, by rw [n_53.2]; exact Nat.le_of_ble_eq_true rfl⟩ (fun r G' h => by rw [h.2, n_55.1, n_55.2, n_53.1, n_53.2]; exact ⟨rfl, rfl⟩) d_LJ_init_88 (fun r G' h => ?_)
  obtain ⟨rfl, rfl⟩ := h
  refine VW.cast (lo' := [some (vR 2), some (vI (0))]) (st' := [vR 28, vI (0), vR 27]) (G' := g_55) rfl rfl rfl ?_
  refine w_aast (pc := 91) (c := 5) (n := 4) (j := 0) (G' := g_56) hX (by decide) (by decide) (by rw [s_55]; rfl) (by decide) (by rw [s_55]; rfl) (by unfold vp_in; decide) (by decide) rfl d_LJ_init_91 ?_
  refine v_iinc (pc := 92) (lo' := [some (vR 2), some (vI (1))]) hX rfl rfl d_LJ_init_92 ?_
  refine v_goto (pc := 95) (tgt := 74) hX d_LJ_init_95 rfl ?_
  refine v_iload_n (pc := 74) hX rfl d_LJ_init_74 ?_
  refine v_iconst (pc := 75) (v := 4) hX (by decide) d_LJ_init_75 ?_
  refine v_icmp_ge (pc := 76) (tgt := 98) hX d_LJ_init_76 rfl (fun hc => absurd hc (by decide)) (fun _ => ?_)
  refine v_aload_n (pc := 79) hX rfl d_LJ_init_79 ?_
  refine w_getR (pc := 80) (v := 27) hX fl_LJ_48 rfl (by decide) (by rw [s_56]; rfl) rfl d_LJ_init_80 ?_
  refine v_iload_n (pc := 83) hX rfl d_LJ_init_83 ?_
  refine w_new (pc := 84) (r := 30) (G' := g_57) hX f_56 cl_LJ_46 io_Sh ii_Sh rfl (by rw [s_56]; rfl) ⟨by rw [n_56.1]; exact Nat.le_of_ble_eq_true rfl, by rw [n_56.2]; exact Nat.le_of_ble_eq_true rfl⟩ rfl d_LJ_init_84 ?_
  refine v_dup (pc := 87) hX rfl d_LJ_init_87 ?_
  refine v_callI (pc := 88) (as := []) hX k_Sh_init rfl ki_Sh_init ml_LJ_56 C_Sh_init_2 (by decide) rfl rfl rfl ⟨Nat.le_of_ble_eq_true rfl, Nat.le_of_ble_eq_true rfl, Nat.le_of_ble_eq_true rfl, by rw [n_57.1]; exact Nat.le_of_ble_eq_true rfl, by rw [n_57.2]; exact Nat.le_of_ble_eq_true rfl⟩ (fun r G' h => by rw [h.2, n_59.1, n_59.2, n_57.1, n_57.2]; exact ⟨rfl, rfl⟩) d_LJ_init_88 (fun r G' h => ?_)
  obtain ⟨rfl, rfl⟩ := h
  refine VW.cast (lo' := [some (vR 2), some (vI (1))]) (st' := [vR 30, vI (1), vR 27]) (G' := g_59) rfl rfl rfl ?_
  refine w_aast (pc := 91) (c := 5) (n := 4) (j := 1) (G' := g_60) hX (by decide) (by decide) (by rw [s_59]; rfl) (by decide) (by rw [s_59]; rfl) (by unfold vp_in; decide) (by decide) rfl d_LJ_init_91 ?_
  refine v_iinc (pc := 92) (lo' := [some (vR 2), some (vI (2))]) hX rfl rfl d_LJ_init_92 ?_
  refine v_goto (pc := 95) (tgt := 74) hX d_LJ_init_95 rfl ?_
  refine v_iload_n (pc := 74) hX rfl d_LJ_init_74 ?_
  refine v_iconst (pc := 75) (v := 4) hX (by decide) d_LJ_init_75 ?_
  refine v_icmp_ge (pc := 76) (tgt := 98) hX d_LJ_init_76 rfl (fun hc => absurd hc (by decide)) (fun _ => ?_)
  refine v_aload_n (pc := 79) hX rfl d_LJ_init_79 ?_
  refine w_getR (pc := 80) (v := 27) hX fl_LJ_48 rfl (by decide) (by rw [s_60]; rfl) rfl d_LJ_init_80 ?_
  refine v_iload_n (pc := 83) hX rfl d_LJ_init_83 ?_
  refine w_new (pc := 84) (r := 32) (G' := g_61) hX f_60 cl_LJ_46 io_Sh ii_Sh rfl (by rw [s_60]; rfl) ⟨by rw [n_60.1]; exact Nat.le_of_ble_eq_true rfl, by rw [n_60.2]; exact Nat.le_of_ble_eq_true rfl⟩ rfl d_LJ_init_84 ?_
  refine v_dup (pc := 87) hX rfl d_LJ_init_87 ?_
  refine v_callI (pc := 88) (as := []) hX k_Sh_init rfl ki_Sh_init ml_LJ_56 C_Sh_init_3 (by decide) rfl rfl rfl ⟨Nat.le_of_ble_eq_true rfl, Nat.le_of_ble_eq_true rfl, Nat.le_of_ble_eq_true rfl, by rw [n_61.1]; exact Nat.le_of_ble_eq_true rfl, by rw [n_61.2]; exact Nat.le_of_ble_eq_true rfl⟩ (fun r G' h => by rw [h.2, n_63.1, n_63.2, n_61.1, n_61.2]; exact ⟨rfl, rfl⟩) d_LJ_init_88 (fun r G' h => ?_)
  obtain ⟨rfl, rfl⟩ := h
  refine VW.cast (lo' := [some (vR 2), some (vI (2))]) (st' := [vR 32, vI (2), vR 27]) (G' := g_63) rfl rfl rfl ?_
  refine w_aast (pc := 91) (c := 5) (n := 4) (j := 2) (G' := g_64) hX (by decide) (by decide) (by rw [s_63]; rfl) (by decide) (by rw [s_63]; rfl) (by unfold vp_in; decide) (by decide) rfl d_LJ_init_91 ?_
  refine v_iinc (pc := 92) (lo' := [some (vR 2), some (vI (3))]) hX rfl rfl d_LJ_init_92 ?_
  refine v_goto (pc := 95) (tgt := 74) hX d_LJ_init_95 rfl ?_
  refine v_iload_n (pc := 74) hX rfl d_LJ_init_74 ?_
  refine v_iconst (pc := 75) (v := 4) hX (by decide) d_LJ_init_75 ?_
  refine v_icmp_ge (pc := 76) (tgt := 98) hX d_LJ_init_76 rfl (fun hc => absurd hc (by decide)) (fun _ => ?_)
  refine v_aload_n (pc := 79) hX rfl d_LJ_init_79 ?_
  refine w_getR (pc := 80) (v := 27) hX fl_LJ_48 rfl (by decide) (by rw [s_64]; rfl) rfl d_LJ_init_80 ?_
  refine v_iload_n (pc := 83) hX rfl d_LJ_init_83 ?_
  refine w_new (pc := 84) (r := 34) (G' := g_65) hX f_64 cl_LJ_46 io_Sh ii_Sh rfl (by rw [s_64]; rfl) ⟨by rw [n_64.1]; exact Nat.le_of_ble_eq_true rfl, by rw [n_64.2]; exact Nat.le_of_ble_eq_true rfl⟩ rfl d_LJ_init_84 ?_
  refine v_dup (pc := 87) hX rfl d_LJ_init_87 ?_
  refine v_callI (pc := 88) (as := []) hX k_Sh_init rfl ki_Sh_init ml_LJ_56 C_Sh_init_4 (by decide) rfl rfl rfl ⟨Nat.le_of_ble_eq_true rfl, Nat.le_of_ble_eq_true rfl, Nat.le_of_ble_eq_true rfl, by rw [n_65.1]; exact Nat.le_of_ble_eq_true rfl, by rw [n_65.2]; exact Nat.le_of_ble_eq_true rfl⟩ (fun r G' h => by rw [h.2, n_67.1, n_67.2, n_65.1, n_65.2]; exact ⟨rfl, rfl⟩) d_LJ_init_88 (fun r G' h => ?_)
  obtain ⟨rfl, rfl⟩ := h
  refine VW.cast (lo' := [some (vR 2), some (vI (3))]) (st' := [vR 34, vI (3), vR 27]) (G' := g_67) rfl rfl rfl ?_
  refine w_aast (pc := 91) (c := 5) (n := 4) (j := 3) (G' := g_68) hX (by decide) (by decide) (by rw [s_67]; rfl) (by decide) (by rw [s_67]; rfl) (by unfold vp_in; decide) (by decide) rfl d_LJ_init_91 ?_
  refine v_iinc (pc := 92) (lo' := [some (vR 2), some (vI (4))]) hX rfl rfl d_LJ_init_92 ?_
  refine v_goto (pc := 95) (tgt := 74) hX d_LJ_init_95 rfl ?_
  refine v_iload_n (pc := 74) hX rfl d_LJ_init_74 ?_
  refine v_iconst (pc := 75) (v := 4) hX (by decide) d_LJ_init_75 ?_
  refine v_icmp_ge (pc := 76) (tgt := 98) hX d_LJ_init_76 rfl (fun _ => ?_) (fun hc => absurd (by decide) hc)
  exact v_vret (pc := 98) hX hR (by rw [n_68.1, n_1.1]) (by rw [n_68.2, n_1.2]) ⟨rfl, rfl⟩ d_LJ_init_98
def g_69 : GG := aO g_68 (0, 9)
theorem f_69 : Fr g_69 := f_68.aO _
theorem s_69 : g_69.1 = [(1, 0), (1, 0), (0, 8), (0, 6), (3, 6), (2, 4), (0, 1), (0, 1), (0, 1), (0, 1), (0, 1), (0, 1), (0, 0), (0, 0), (0, 0), (0, 0), (0, 3), (1, 6), (1, 4), (0, 4), (1, 6), (1, 4), (0, 2), (1, 8), (1, 8), (1, 8), (0, 7), (7, 4), (0, 5), (1, 60), (0, 5), (1, 60), (0, 5), (1, 60), (0, 5), (1, 60), (0, 9)] := by show g_68.1 ++ _ = _; rw [s_68]; rfl
theorem n_69 : gC g_69 = 37 ∧ gS g_69 = 419 := by unfold gC gS; rw [s_69]; exact ⟨rfl, rfl⟩
theorem d_Mo_init_0 : decode c_Mo_init 0 = .ok (.aload_n 0, 1) := by decide +kernel
theorem d_Mo_init_1 : decode c_Mo_init 1 = .ok (.invokespecial 1, 3) := by decide +kernel
theorem d_Mo_init_4 : decode c_Mo_init 4 = .ok (.aload_n 0, 1) := by decide +kernel
theorem d_Mo_init_5 : decode c_Mo_init 5 = .ok (.bipush 6, 2) := by decide +kernel
theorem d_Mo_init_7 : decode c_Mo_init 7 = .ok (.newarray .int, 2) := by decide +kernel
theorem d_Mo_init_9 : decode c_Mo_init 9 = .ok (.putfield 7, 3) := by decide +kernel
theorem d_Mo_init_12 : decode c_Mo_init 12 = .ok (.aload_n 0, 1) := by decide +kernel
theorem d_Mo_init_13 : decode c_Mo_init 13 = .ok (.bipush 6, 2) := by decide +kernel
theorem d_Mo_init_15 : decode c_Mo_init 15 = .ok (.newarray .int, 2) := by decide +kernel
theorem d_Mo_init_17 : decode c_Mo_init 17 = .ok (.putfield 13, 3) := by decide +kernel
theorem d_Mo_init_20 : decode c_Mo_init 20 = .ok (.aload_n 0, 1) := by decide +kernel
theorem d_Mo_init_21 : decode c_Mo_init 21 = .ok (.bipush 6, 2) := by decide +kernel
theorem d_Mo_init_23 : decode c_Mo_init 23 = .ok (.newarray .int, 2) := by decide +kernel
theorem d_Mo_init_25 : decode c_Mo_init 25 = .ok (.putfield 16, 3) := by decide +kernel
theorem d_Mo_init_28 : decode c_Mo_init 28 = .ok (.aload_n 0, 1) := by decide +kernel
theorem d_Mo_init_29 : decode c_Mo_init 29 = .ok (.bipush 6, 2) := by decide +kernel
theorem d_Mo_init_31 : decode c_Mo_init 31 = .ok (.newarray .int, 2) := by decide +kernel
theorem d_Mo_init_33 : decode c_Mo_init 33 = .ok (.putfield 19, 3) := by decide +kernel
theorem d_Mo_init_36 : decode c_Mo_init 36 = .ok (.aload_n 0, 1) := by decide +kernel
theorem d_Mo_init_37 : decode c_Mo_init 37 = .ok (.bipush 6, 2) := by decide +kernel
theorem d_Mo_init_39 : decode c_Mo_init 39 = .ok (.newarray .int, 2) := by decide +kernel
theorem d_Mo_init_41 : decode c_Mo_init 41 = .ok (.putfield 22, 3) := by decide +kernel
theorem d_Mo_init_44 : decode c_Mo_init 44 = .ok (.aload_n 0, 1) := by decide +kernel
theorem d_Mo_init_45 : decode c_Mo_init 45 = .ok (.iconst 4, 1) := by decide +kernel
theorem d_Mo_init_46 : decode c_Mo_init 46 = .ok (.newarray .int, 2) := by decide +kernel
theorem d_Mo_init_48 : decode c_Mo_init 48 = .ok (.putfield 25, 3) := by decide +kernel
theorem d_Mo_init_51 : decode c_Mo_init 51 = .ok (.aload_n 0, 1) := by decide +kernel
theorem d_Mo_init_52 : decode c_Mo_init 52 = .ok (.iconst 4, 1) := by decide +kernel
theorem d_Mo_init_53 : decode c_Mo_init 53 = .ok (.newarray .int, 2) := by decide +kernel
theorem d_Mo_init_55 : decode c_Mo_init 55 = .ok (.putfield 28, 3) := by decide +kernel
theorem d_Mo_init_58 : decode c_Mo_init 58 = .ok (.aload_n 0, 1) := by decide +kernel
theorem d_Mo_init_59 : decode c_Mo_init 59 = .ok (.iconst 4, 1) := by decide +kernel
theorem d_Mo_init_60 : decode c_Mo_init 60 = .ok (.newarray .int, 2) := by decide +kernel
theorem d_Mo_init_62 : decode c_Mo_init 62 = .ok (.putfield 31, 3) := by decide +kernel
theorem d_Mo_init_65 : decode c_Mo_init 65 = .ok (.aload_n 0, 1) := by decide +kernel
theorem d_Mo_init_66 : decode c_Mo_init 66 = .ok (.iconst 4, 1) := by decide +kernel
theorem d_Mo_init_67 : decode c_Mo_init 67 = .ok (.newarray .int, 2) := by decide +kernel
theorem d_Mo_init_69 : decode c_Mo_init 69 = .ok (.putfield 34, 3) := by decide +kernel
theorem d_Mo_init_72 : decode c_Mo_init 72 = .ok (.aload_n 0, 1) := by decide +kernel
theorem d_Mo_init_73 : decode c_Mo_init 73 = .ok (.bipush 6, 2) := by decide +kernel
theorem d_Mo_init_75 : decode c_Mo_init 75 = .ok (.newarray .int, 2) := by decide +kernel
theorem d_Mo_init_77 : decode c_Mo_init 77 = .ok (.putfield 37, 3) := by decide +kernel
theorem d_Mo_init_80 : decode c_Mo_init 80 = .ok (.aload_n 0, 1) := by decide +kernel
theorem d_Mo_init_81 : decode c_Mo_init 81 = .ok (.bipush 6, 2) := by decide +kernel
theorem d_Mo_init_83 : decode c_Mo_init 83 = .ok (.newarray .int, 2) := by decide +kernel
theorem d_Mo_init_85 : decode c_Mo_init 85 = .ok (.putfield 40, 3) := by decide +kernel
theorem d_Mo_init_88 : decode c_Mo_init 88 = .ok (.aload_n 0, 1) := by decide +kernel
theorem d_Mo_init_89 : decode c_Mo_init 89 = .ok (.bipush 6, 2) := by decide +kernel
theorem d_Mo_init_91 : decode c_Mo_init 91 = .ok (.newarray .int, 2) := by decide +kernel
theorem d_Mo_init_93 : decode c_Mo_init 93 = .ok (.putfield 43, 3) := by decide +kernel
theorem d_Mo_init_96 : decode c_Mo_init 96 = .ok (.aload_n 0, 1) := by decide +kernel
theorem d_Mo_init_97 : decode c_Mo_init 97 = .ok (.bipush 6, 2) := by decide +kernel
theorem d_Mo_init_99 : decode c_Mo_init 99 = .ok (.newarray .int, 2) := by decide +kernel
theorem d_Mo_init_101 : decode c_Mo_init 101 = .ok (.putfield 46, 3) := by decide +kernel
theorem d_Mo_init_104 : decode c_Mo_init 104 = .ok (.aload_n 0, 1) := by decide +kernel
theorem d_Mo_init_105 : decode c_Mo_init 105 = .ok (.bipush 6, 2) := by decide +kernel
theorem d_Mo_init_107 : decode c_Mo_init 107 = .ok (.newarray .int, 2) := by decide +kernel
theorem d_Mo_init_109 : decode c_Mo_init 109 = .ok (.putfield 49, 3) := by decide +kernel
theorem d_Mo_init_112 : decode c_Mo_init 112 = .ok (.aload_n 0, 1) := by decide +kernel
theorem d_Mo_init_113 : decode c_Mo_init 113 = .ok (.iconst 4, 1) := by decide +kernel
theorem d_Mo_init_114 : decode c_Mo_init 114 = .ok (.newarray .int, 2) := by decide +kernel
theorem d_Mo_init_116 : decode c_Mo_init 116 = .ok (.putfield 52, 3) := by decide +kernel
theorem d_Mo_init_119 : decode c_Mo_init 119 = .ok (.aload_n 0, 1) := by decide +kernel
theorem d_Mo_init_120 : decode c_Mo_init 120 = .ok (.iconst 4, 1) := by decide +kernel
theorem d_Mo_init_121 : decode c_Mo_init 121 = .ok (.newarray .int, 2) := by decide +kernel
theorem d_Mo_init_123 : decode c_Mo_init 123 = .ok (.putfield 55, 3) := by decide +kernel
theorem d_Mo_init_126 : decode c_Mo_init 126 = .ok (.aload_n 0, 1) := by decide +kernel
theorem d_Mo_init_127 : decode c_Mo_init 127 = .ok (.iconst 4, 1) := by decide +kernel
theorem d_Mo_init_128 : decode c_Mo_init 128 = .ok (.newarray .int, 2) := by decide +kernel
theorem d_Mo_init_130 : decode c_Mo_init 130 = .ok (.putfield 58, 3) := by decide +kernel
theorem d_Mo_init_133 : decode c_Mo_init 133 = .ok (.aload_n 0, 1) := by decide +kernel
theorem d_Mo_init_134 : decode c_Mo_init 134 = .ok (.bipush 6, 2) := by decide +kernel
theorem d_Mo_init_136 : decode c_Mo_init 136 = .ok (.newarray .int, 2) := by decide +kernel
theorem d_Mo_init_138 : decode c_Mo_init 138 = .ok (.putfield 61, 3) := by decide +kernel
theorem d_Mo_init_141 : decode c_Mo_init 141 = .ok (.aload_n 0, 1) := by decide +kernel
theorem d_Mo_init_142 : decode c_Mo_init 142 = .ok (.iconst 4, 1) := by decide +kernel
theorem d_Mo_init_143 : decode c_Mo_init 143 = .ok (.newarray .int, 2) := by decide +kernel
theorem d_Mo_init_145 : decode c_Mo_init 145 = .ok (.putfield 64, 3) := by decide +kernel
theorem d_Mo_init_148 : decode c_Mo_init 148 = .ok (.aload_n 0, 1) := by decide +kernel
theorem d_Mo_init_149 : decode c_Mo_init 149 = .ok (.bipush 7, 2) := by decide +kernel
theorem d_Mo_init_151 : decode c_Mo_init 151 = .ok (.newarray .int, 2) := by decide +kernel
theorem d_Mo_init_153 : decode c_Mo_init 153 = .ok (.putfield 67, 3) := by decide +kernel
theorem d_Mo_init_156 : decode c_Mo_init 156 = .ok (.aload_n 0, 1) := by decide +kernel
theorem d_Mo_init_157 : decode c_Mo_init 157 = .ok (.bipush 8, 2) := by decide +kernel
theorem d_Mo_init_159 : decode c_Mo_init 159 = .ok (.newarray .int, 2) := by decide +kernel
theorem d_Mo_init_161 : decode c_Mo_init 161 = .ok (.putfield 70, 3) := by decide +kernel
theorem d_Mo_init_164 : decode c_Mo_init 164 = .ok (.aload_n 0, 1) := by decide +kernel
theorem d_Mo_init_165 : decode c_Mo_init 165 = .ok (.bipush 8, 2) := by decide +kernel
theorem d_Mo_init_167 : decode c_Mo_init 167 = .ok (.newarray .int, 2) := by decide +kernel
theorem d_Mo_init_169 : decode c_Mo_init 169 = .ok (.putfield 73, 3) := by decide +kernel
theorem d_Mo_init_172 : decode c_Mo_init 172 = .ok (.aload_n 0, 1) := by decide +kernel
theorem d_Mo_init_173 : decode c_Mo_init 173 = .ok (.bipush 8, 2) := by decide +kernel
theorem d_Mo_init_175 : decode c_Mo_init 175 = .ok (.newarray .int, 2) := by decide +kernel
theorem d_Mo_init_177 : decode c_Mo_init 177 = .ok (.putfield 76, 3) := by decide +kernel
theorem d_Mo_init_180 : decode c_Mo_init 180 = .ok (.aload_n 0, 1) := by decide +kernel
theorem d_Mo_init_181 : decode c_Mo_init 181 = .ok (.iconst 4, 1) := by decide +kernel
theorem d_Mo_init_182 : decode c_Mo_init 182 = .ok (.newarray .int, 2) := by decide +kernel
theorem d_Mo_init_184 : decode c_Mo_init 184 = .ok (.putfield 79, 3) := by decide +kernel
theorem d_Mo_init_187 : decode c_Mo_init 187 = .ok (.aload_n 0, 1) := by decide +kernel
theorem d_Mo_init_188 : decode c_Mo_init 188 = .ok (.iconst 4, 1) := by decide +kernel
theorem d_Mo_init_189 : decode c_Mo_init 189 = .ok (.newarray .int, 2) := by decide +kernel
theorem d_Mo_init_191 : decode c_Mo_init 191 = .ok (.putfield 82, 3) := by decide +kernel
theorem d_Mo_init_194 : decode c_Mo_init 194 = .ok (.aload_n 0, 1) := by decide +kernel
theorem d_Mo_init_195 : decode c_Mo_init 195 = .ok (.sipush 240, 3) := by decide +kernel
theorem d_Mo_init_198 : decode c_Mo_init 198 = .ok (.newarray .int, 2) := by decide +kernel
theorem d_Mo_init_200 : decode c_Mo_init 200 = .ok (.putfield 85, 3) := by decide +kernel
theorem d_Mo_init_203 : decode c_Mo_init 203 = .ok (.aload_n 0, 1) := by decide +kernel
theorem d_Mo_init_204 : decode c_Mo_init 204 = .ok (.bipush 60, 2) := by decide +kernel
theorem d_Mo_init_206 : decode c_Mo_init 206 = .ok (.newarray .int, 2) := by decide +kernel
theorem d_Mo_init_208 : decode c_Mo_init 208 = .ok (.putfield 88, 3) := by decide +kernel
theorem d_Mo_init_211 : decode c_Mo_init 211 = .ok (.iconst 0, 1) := by decide +kernel
theorem d_Mo_init_212 : decode c_Mo_init 212 = .ok (.istore_n 1, 1) := by decide +kernel
theorem d_Mo_init_213 : decode c_Mo_init 213 = .ok (.iload_n 1, 1) := by decide +kernel
theorem d_Mo_init_214 : decode c_Mo_init 214 = .ok (.iconst 4, 1) := by decide +kernel
theorem d_Mo_init_215 : decode c_Mo_init 215 = .ok (.if_icmp .ge 16, 3) := by decide +kernel
theorem d_Mo_init_218 : decode c_Mo_init 218 = .ok (.aload_n 0, 1) := by decide +kernel
theorem d_Mo_init_219 : decode c_Mo_init 219 = .ok (.getfield 79, 3) := by decide +kernel
theorem d_Mo_init_222 : decode c_Mo_init 222 = .ok (.iload_n 1, 1) := by decide +kernel
theorem d_Mo_init_223 : decode c_Mo_init 223 = .ok (.iconst (-1), 1) := by decide +kernel
theorem d_Mo_init_224 : decode c_Mo_init 224 = .ok (.iastore, 1) := by decide +kernel
theorem d_Mo_init_225 : decode c_Mo_init 225 = .ok (.iinc 1 1, 3) := by decide +kernel
theorem d_Mo_init_228 : decode c_Mo_init 228 = .ok (.goto (-15), 3) := by decide +kernel
theorem d_Mo_init_231 : decode c_Mo_init 231 = .ok (.return_, 1) := by decide +kernel
def g_70 : GG := aO g_69 (1, 6)
theorem f_70 : Fr g_70 := f_69.aO _
theorem s_70 : g_70.1 = [(1, 0), (1, 0), (0, 8), (0, 6), (3, 6), (2, 4), (0, 1), (0, 1), (0, 1), (0, 1), (0, 1), (0, 1), (0, 0), (0, 0), (0, 0), (0, 0), (0, 3), (1, 6), (1, 4), (0, 4), (1, 6), (1, 4), (0, 2), (1, 8), (1, 8), (1, 8), (0, 7), (7, 4), (0, 5), (1, 60), (0, 5), (1, 60), (0, 5), (1, 60), (0, 5), (1, 60), (0, 9), (1, 6)] := by show g_69.1 ++ _ = _; rw [s_69]; rfl
theorem n_70 : gC g_70 = 38 ∧ gS g_70 = 425 := by unfold gC gS; rw [s_70]; exact ⟨rfl, rfl⟩
def g_71 : GG := sR g_70 36 2 37
theorem f_71 : Fr g_71 := f_70.sR (by rw [s_70]; exact Nat.le_of_ble_eq_true rfl)
theorem s_71 : g_71.1 = [(1, 0), (1, 0), (0, 8), (0, 6), (3, 6), (2, 4), (0, 1), (0, 1), (0, 1), (0, 1), (0, 1), (0, 1), (0, 0), (0, 0), (0, 0), (0, 0), (0, 3), (1, 6), (1, 4), (0, 4), (1, 6), (1, 4), (0, 2), (1, 8), (1, 8), (1, 8), (0, 7), (7, 4), (0, 5), (1, 60), (0, 5), (1, 60), (0, 5), (1, 60), (0, 5), (1, 60), (0, 9), (1, 6)] := by show g_70.1 = _; exact s_70
theorem n_71 : gC g_71 = 38 ∧ gS g_71 = 425 := by unfold gC gS; rw [s_71]; exact ⟨rfl, rfl⟩
def g_72 : GG := aO g_71 (1, 6)
theorem f_72 : Fr g_72 := f_71.aO _
theorem s_72 : g_72.1 = [(1, 0), (1, 0), (0, 8), (0, 6), (3, 6), (2, 4), (0, 1), (0, 1), (0, 1), (0, 1), (0, 1), (0, 1), (0, 0), (0, 0), (0, 0), (0, 0), (0, 3), (1, 6), (1, 4), (0, 4), (1, 6), (1, 4), (0, 2), (1, 8), (1, 8), (1, 8), (0, 7), (7, 4), (0, 5), (1, 60), (0, 5), (1, 60), (0, 5), (1, 60), (0, 5), (1, 60), (0, 9), (1, 6), (1, 6)] := by show g_71.1 ++ _ = _; rw [s_71]; rfl
theorem n_72 : gC g_72 = 39 ∧ gS g_72 = 431 := by unfold gC gS; rw [s_72]; exact ⟨rfl, rfl⟩
def g_73 : GG := sR g_72 36 3 38
theorem f_73 : Fr g_73 := f_72.sR (by rw [s_72]; exact Nat.le_of_ble_eq_true rfl)
theorem s_73 : g_73.1 = [(1, 0), (1, 0), (0, 8), (0, 6), (3, 6), (2, 4), (0, 1), (0, 1), (0, 1), (0, 1), (0, 1), (0, 1), (0, 0), (0, 0), (0, 0), (0, 0), (0, 3), (1, 6), (1, 4), (0, 4), (1, 6), (1, 4), (0, 2), (1, 8), (1, 8), (1, 8), (0, 7), (7, 4), (0, 5), (1, 60), (0, 5), (1, 60), (0, 5), (1, 60), (0, 5), (1, 60), (0, 9), (1, 6), (1, 6)] := by show g_72.1 = _; exact s_72
theorem n_73 : gC g_73 = 39 ∧ gS g_73 = 431 := by unfold gC gS; rw [s_73]; exact ⟨rfl, rfl⟩
def g_74 : GG := aO g_73 (1, 6)
theorem f_74 : Fr g_74 := f_73.aO _
theorem s_74 : g_74.1 = [(1, 0), (1, 0), (0, 8), (0, 6), (3, 6), (2, 4), (0, 1), (0, 1), (0, 1), (0, 1), (0, 1), (0, 1), (0, 0), (0, 0), (0, 0), (0, 0), (0, 3), (1, 6), (1, 4), (0, 4), (1, 6), (1, 4), (0, 2), (1, 8), (1, 8), (1, 8), (0, 7), (7, 4), (0, 5), (1, 60), (0, 5), (1, 60), (0, 5), (1, 60), (0, 5), (1, 60), (0, 9), (1, 6), (1, 6), (1, 6)] := by show g_73.1 ++ _ = _; rw [s_73]; rfl
theorem n_74 : gC g_74 = 40 ∧ gS g_74 = 437 := by unfold gC gS; rw [s_74]; exact ⟨rfl, rfl⟩
def g_75 : GG := sR g_74 36 4 39
theorem f_75 : Fr g_75 := f_74.sR (by rw [s_74]; exact Nat.le_of_ble_eq_true rfl)
theorem s_75 : g_75.1 = [(1, 0), (1, 0), (0, 8), (0, 6), (3, 6), (2, 4), (0, 1), (0, 1), (0, 1), (0, 1), (0, 1), (0, 1), (0, 0), (0, 0), (0, 0), (0, 0), (0, 3), (1, 6), (1, 4), (0, 4), (1, 6), (1, 4), (0, 2), (1, 8), (1, 8), (1, 8), (0, 7), (7, 4), (0, 5), (1, 60), (0, 5), (1, 60), (0, 5), (1, 60), (0, 5), (1, 60), (0, 9), (1, 6), (1, 6), (1, 6)] := by show g_74.1 = _; exact s_74
theorem n_75 : gC g_75 = 40 ∧ gS g_75 = 437 := by unfold gC gS; rw [s_75]; exact ⟨rfl, rfl⟩
def g_76 : GG := aO g_75 (1, 6)
theorem f_76 : Fr g_76 := f_75.aO _
theorem s_76 : g_76.1 = [(1, 0), (1, 0), (0, 8), (0, 6), (3, 6), (2, 4), (0, 1), (0, 1), (0, 1), (0, 1), (0, 1), (0, 1), (0, 0), (0, 0), (0, 0), (0, 0), (0, 3), (1, 6), (1, 4), (0, 4), (1, 6), (1, 4), (0, 2), (1, 8), (1, 8), (1, 8), (0, 7), (7, 4), (0, 5), (1, 60), (0, 5), (1, 60), (0, 5), (1, 60), (0, 5), (1, 60), (0, 9), (1, 6), (1, 6), (1, 6), (1, 6)] := by show g_75.1 ++ _ = _; rw [s_75]; rfl
theorem n_76 : gC g_76 = 41 ∧ gS g_76 = 443 := by unfold gC gS; rw [s_76]; exact ⟨rfl, rfl⟩
def g_77 : GG := sR g_76 36 5 40
theorem f_77 : Fr g_77 := f_76.sR (by rw [s_76]; exact Nat.le_of_ble_eq_true rfl)
theorem s_77 : g_77.1 = [(1, 0), (1, 0), (0, 8), (0, 6), (3, 6), (2, 4), (0, 1), (0, 1), (0, 1), (0, 1), (0, 1), (0, 1), (0, 0), (0, 0), (0, 0), (0, 0), (0, 3), (1, 6), (1, 4), (0, 4), (1, 6), (1, 4), (0, 2), (1, 8), (1, 8), (1, 8), (0, 7), (7, 4), (0, 5), (1, 60), (0, 5), (1, 60), (0, 5), (1, 60), (0, 5), (1, 60), (0, 9), (1, 6), (1, 6), (1, 6), (1, 6)] := by show g_76.1 = _; exact s_76
theorem n_77 : gC g_77 = 41 ∧ gS g_77 = 443 := by unfold gC gS; rw [s_77]; exact ⟨rfl, rfl⟩
def g_78 : GG := aO g_77 (1, 6)
theorem f_78 : Fr g_78 := f_77.aO _
theorem s_78 : g_78.1 = [(1, 0), (1, 0), (0, 8), (0, 6), (3, 6), (2, 4), (0, 1), (0, 1), (0, 1), (0, 1), (0, 1), (0, 1), (0, 0), (0, 0), (0, 0), (0, 0), (0, 3), (1, 6), (1, 4), (0, 4), (1, 6), (1, 4), (0, 2), (1, 8), (1, 8), (1, 8), (0, 7), (7, 4), (0, 5), (1, 60), (0, 5), (1, 60), (0, 5), (1, 60), (0, 5), (1, 60), (0, 9), (1, 6), (1, 6), (1, 6), (1, 6), (1, 6)] := by show g_77.1 ++ _ = _; rw [s_77]; rfl
theorem n_78 : gC g_78 = 42 ∧ gS g_78 = 449 := by unfold gC gS; rw [s_78]; exact ⟨rfl, rfl⟩
def g_79 : GG := sR g_78 36 6 41
theorem f_79 : Fr g_79 := f_78.sR (by rw [s_78]; exact Nat.le_of_ble_eq_true rfl)
theorem s_79 : g_79.1 = [(1, 0), (1, 0), (0, 8), (0, 6), (3, 6), (2, 4), (0, 1), (0, 1), (0, 1), (0, 1), (0, 1), (0, 1), (0, 0), (0, 0), (0, 0), (0, 0), (0, 3), (1, 6), (1, 4), (0, 4), (1, 6), (1, 4), (0, 2), (1, 8), (1, 8), (1, 8), (0, 7), (7, 4), (0, 5), (1, 60), (0, 5), (1, 60), (0, 5), (1, 60), (0, 5), (1, 60), (0, 9), (1, 6), (1, 6), (1, 6), (1, 6), (1, 6)] := by show g_78.1 = _; exact s_78
theorem n_79 : gC g_79 = 42 ∧ gS g_79 = 449 := by unfold gC gS; rw [s_79]; exact ⟨rfl, rfl⟩
def g_80 : GG := aO g_79 (1, 4)
theorem f_80 : Fr g_80 := f_79.aO _
theorem s_80 : g_80.1 = [(1, 0), (1, 0), (0, 8), (0, 6), (3, 6), (2, 4), (0, 1), (0, 1), (0, 1), (0, 1), (0, 1), (0, 1), (0, 0), (0, 0), (0, 0), (0, 0), (0, 3), (1, 6), (1, 4), (0, 4), (1, 6), (1, 4), (0, 2), (1, 8), (1, 8), (1, 8), (0, 7), (7, 4), (0, 5), (1, 60), (0, 5), (1, 60), (0, 5), (1, 60), (0, 5), (1, 60), (0, 9), (1, 6), (1, 6), (1, 6), (1, 6), (1, 6), (1, 4)] := by show g_79.1 ++ _ = _; rw [s_79]; rfl
theorem n_80 : gC g_80 = 43 ∧ gS g_80 = 453 := by unfold gC gS; rw [s_80]; exact ⟨rfl, rfl⟩
def g_81 : GG := sR g_80 36 8 42
theorem f_81 : Fr g_81 := f_80.sR (by rw [s_80]; exact Nat.le_of_ble_eq_true rfl)
theorem s_81 : g_81.1 = [(1, 0), (1, 0), (0, 8), (0, 6), (3, 6), (2, 4), (0, 1), (0, 1), (0, 1), (0, 1), (0, 1), (0, 1), (0, 0), (0, 0), (0, 0), (0, 0), (0, 3), (1, 6), (1, 4), (0, 4), (1, 6), (1, 4), (0, 2), (1, 8), (1, 8), (1, 8), (0, 7), (7, 4), (0, 5), (1, 60), (0, 5), (1, 60), (0, 5), (1, 60), (0, 5), (1, 60), (0, 9), (1, 6), (1, 6), (1, 6), (1, 6), (1, 6), (1, 4)] := by show g_80.1 = _; exact s_80
theorem n_81 : gC g_81 = 43 ∧ gS g_81 = 453 := by unfold gC gS; rw [s_81]; exact ⟨rfl, rfl⟩
def g_82 : GG := aO g_81 (1, 4)
theorem f_82 : Fr g_82 := f_81.aO _
theorem s_82 : g_82.1 = [(1, 0), (1, 0), (0, 8), (0, 6), (3, 6), (2, 4), (0, 1), (0, 1), (0, 1), (0, 1), (0, 1), (0, 1), (0, 0), (0, 0), (0, 0), (0, 0), (0, 3), (1, 6), (1, 4), (0, 4), (1, 6), (1, 4), (0, 2), (1, 8), (1, 8), (1, 8), (0, 7), (7, 4), (0, 5), (1, 60), (0, 5), (1, 60), (0, 5), (1, 60), (0, 5), (1, 60), (0, 9), (1, 6), (1, 6), (1, 6), (1, 6), (1, 6), (1, 4), (1, 4)] := by show g_81.1 ++ _ = _; rw [s_81]; rfl
theorem n_82 : gC g_82 = 44 ∧ gS g_82 = 457 := by unfold gC gS; rw [s_82]; exact ⟨rfl, rfl⟩
def g_83 : GG := sR g_82 36 9 43
theorem f_83 : Fr g_83 := f_82.sR (by rw [s_82]; exact Nat.le_of_ble_eq_true rfl)
theorem s_83 : g_83.1 = [(1, 0), (1, 0), (0, 8), (0, 6), (3, 6), (2, 4), (0, 1), (0, 1), (0, 1), (0, 1), (0, 1), (0, 1), (0, 0), (0, 0), (0, 0), (0, 0), (0, 3), (1, 6), (1, 4), (0, 4), (1, 6), (1, 4), (0, 2), (1, 8), (1, 8), (1, 8), (0, 7), (7, 4), (0, 5), (1, 60), (0, 5), (1, 60), (0, 5), (1, 60), (0, 5), (1, 60), (0, 9), (1, 6), (1, 6), (1, 6), (1, 6), (1, 6), (1, 4), (1, 4)] := by show g_82.1 = _; exact s_82
theorem n_83 : gC g_83 = 44 ∧ gS g_83 = 457 := by unfold gC gS; rw [s_83]; exact ⟨rfl, rfl⟩
def g_84 : GG := aO g_83 (1, 4)
theorem f_84 : Fr g_84 := f_83.aO _
theorem s_84 : g_84.1 = [(1, 0), (1, 0), (0, 8), (0, 6), (3, 6), (2, 4), (0, 1), (0, 1), (0, 1), (0, 1), (0, 1), (0, 1), (0, 0), (0, 0), (0, 0), (0, 0), (0, 3), (1, 6), (1, 4), (0, 4), (1, 6), (1, 4), (0, 2), (1, 8), (1, 8), (1, 8), (0, 7), (7, 4), (0, 5), (1, 60), (0, 5), (1, 60), (0, 5), (1, 60), (0, 5), (1, 60), (0, 9), (1, 6), (1, 6), (1, 6), (1, 6), (1, 6), (1, 4), (1, 4), (1, 4)] := by show g_83.1 ++ _ = _; rw [s_83]; rfl
theorem n_84 : gC g_84 = 45 ∧ gS g_84 = 461 := by unfold gC gS; rw [s_84]; exact ⟨rfl, rfl⟩
def g_85 : GG := sR g_84 36 10 44
theorem f_85 : Fr g_85 := f_84.sR (by rw [s_84]; exact Nat.le_of_ble_eq_true rfl)
theorem s_85 : g_85.1 = [(1, 0), (1, 0), (0, 8), (0, 6), (3, 6), (2, 4), (0, 1), (0, 1), (0, 1), (0, 1), (0, 1), (0, 1), (0, 0), (0, 0), (0, 0), (0, 0), (0, 3), (1, 6), (1, 4), (0, 4), (1, 6), (1, 4), (0, 2), (1, 8), (1, 8), (1, 8), (0, 7), (7, 4), (0, 5), (1, 60), (0, 5), (1, 60), (0, 5), (1, 60), (0, 5), (1, 60), (0, 9), (1, 6), (1, 6), (1, 6), (1, 6), (1, 6), (1, 4), (1, 4), (1, 4)] := by show g_84.1 = _; exact s_84
theorem n_85 : gC g_85 = 45 ∧ gS g_85 = 461 := by unfold gC gS; rw [s_85]; exact ⟨rfl, rfl⟩
def g_86 : GG := aO g_85 (1, 4)
theorem f_86 : Fr g_86 := f_85.aO _
theorem s_86 : g_86.1 = [(1, 0), (1, 0), (0, 8), (0, 6), (3, 6), (2, 4), (0, 1), (0, 1), (0, 1), (0, 1), (0, 1), (0, 1), (0, 0), (0, 0), (0, 0), (0, 0), (0, 3), (1, 6), (1, 4), (0, 4), (1, 6), (1, 4), (0, 2), (1, 8), (1, 8), (1, 8), (0, 7), (7, 4), (0, 5), (1, 60), (0, 5), (1, 60), (0, 5), (1, 60), (0, 5), (1, 60), (0, 9), (1, 6), (1, 6), (1, 6), (1, 6), (1, 6), (1, 4), (1, 4), (1, 4), (1, 4)] := by show g_85.1 ++ _ = _; rw [s_85]; rfl
theorem n_86 : gC g_86 = 46 ∧ gS g_86 = 465 := by unfold gC gS; rw [s_86]; exact ⟨rfl, rfl⟩
def g_87 : GG := sR g_86 36 11 45
theorem f_87 : Fr g_87 := f_86.sR (by rw [s_86]; exact Nat.le_of_ble_eq_true rfl)
theorem s_87 : g_87.1 = [(1, 0), (1, 0), (0, 8), (0, 6), (3, 6), (2, 4), (0, 1), (0, 1), (0, 1), (0, 1), (0, 1), (0, 1), (0, 0), (0, 0), (0, 0), (0, 0), (0, 3), (1, 6), (1, 4), (0, 4), (1, 6), (1, 4), (0, 2), (1, 8), (1, 8), (1, 8), (0, 7), (7, 4), (0, 5), (1, 60), (0, 5), (1, 60), (0, 5), (1, 60), (0, 5), (1, 60), (0, 9), (1, 6), (1, 6), (1, 6), (1, 6), (1, 6), (1, 4), (1, 4), (1, 4), (1, 4)] := by show g_86.1 = _; exact s_86
theorem n_87 : gC g_87 = 46 ∧ gS g_87 = 465 := by unfold gC gS; rw [s_87]; exact ⟨rfl, rfl⟩
def g_88 : GG := aO g_87 (1, 6)
theorem f_88 : Fr g_88 := f_87.aO _
theorem s_88 : g_88.1 = [(1, 0), (1, 0), (0, 8), (0, 6), (3, 6), (2, 4), (0, 1), (0, 1), (0, 1), (0, 1), (0, 1), (0, 1), (0, 0), (0, 0), (0, 0), (0, 0), (0, 3), (1, 6), (1, 4), (0, 4), (1, 6), (1, 4), (0, 2), (1, 8), (1, 8), (1, 8), (0, 7), (7, 4), (0, 5), (1, 60), (0, 5), (1, 60), (0, 5), (1, 60), (0, 5), (1, 60), (0, 9), (1, 6), (1, 6), (1, 6), (1, 6), (1, 6), (1, 4), (1, 4), (1, 4), (1, 4), (1, 6)] := by show g_87.1 ++ _ = _; rw [s_87]; rfl
theorem n_88 : gC g_88 = 47 ∧ gS g_88 = 471 := by unfold gC gS; rw [s_88]; exact ⟨rfl, rfl⟩
def g_89 : GG := sR g_88 36 15 46
theorem f_89 : Fr g_89 := f_88.sR (by rw [s_88]; exact Nat.le_of_ble_eq_true rfl)
theorem s_89 : g_89.1 = [(1, 0), (1, 0), (0, 8), (0, 6), (3, 6), (2, 4), (0, 1), (0, 1), (0, 1), (0, 1), (0, 1), (0, 1), (0, 0), (0, 0), (0, 0), (0, 0), (0, 3), (1, 6), (1, 4), (0, 4), (1, 6), (1, 4), (0, 2), (1, 8), (1, 8), (1, 8), (0, 7), (7, 4), (0, 5), (1, 60), (0, 5), (1, 60), (0, 5), (1, 60), (0, 5), (1, 60), (0, 9), (1, 6), (1, 6), (1, 6), (1, 6), (1, 6), (1, 4), (1, 4), (1, 4), (1, 4), (1, 6)] := by show g_88.1 = _; exact s_88
theorem n_89 : gC g_89 = 47 ∧ gS g_89 = 471 := by unfold gC gS; rw [s_89]; exact ⟨rfl, rfl⟩
def g_90 : GG := aO g_89 (1, 6)
theorem f_90 : Fr g_90 := f_89.aO _
theorem s_90 : g_90.1 = [(1, 0), (1, 0), (0, 8), (0, 6), (3, 6), (2, 4), (0, 1), (0, 1), (0, 1), (0, 1), (0, 1), (0, 1), (0, 0), (0, 0), (0, 0), (0, 0), (0, 3), (1, 6), (1, 4), (0, 4), (1, 6), (1, 4), (0, 2), (1, 8), (1, 8), (1, 8), (0, 7), (7, 4), (0, 5), (1, 60), (0, 5), (1, 60), (0, 5), (1, 60), (0, 5), (1, 60), (0, 9), (1, 6), (1, 6), (1, 6), (1, 6), (1, 6), (1, 4), (1, 4), (1, 4), (1, 4), (1, 6), (1, 6)] := by show g_89.1 ++ _ = _; rw [s_89]; rfl
theorem n_90 : gC g_90 = 48 ∧ gS g_90 = 477 := by unfold gC gS; rw [s_90]; exact ⟨rfl, rfl⟩
def g_91 : GG := sR g_90 36 16 47
theorem f_91 : Fr g_91 := f_90.sR (by rw [s_90]; exact Nat.le_of_ble_eq_true rfl)
theorem s_91 : g_91.1 = [(1, 0), (1, 0), (0, 8), (0, 6), (3, 6), (2, 4), (0, 1), (0, 1), (0, 1), (0, 1), (0, 1), (0, 1), (0, 0), (0, 0), (0, 0), (0, 0), (0, 3), (1, 6), (1, 4), (0, 4), (1, 6), (1, 4), (0, 2), (1, 8), (1, 8), (1, 8), (0, 7), (7, 4), (0, 5), (1, 60), (0, 5), (1, 60), (0, 5), (1, 60), (0, 5), (1, 60), (0, 9), (1, 6), (1, 6), (1, 6), (1, 6), (1, 6), (1, 4), (1, 4), (1, 4), (1, 4), (1, 6), (1, 6)] := by show g_90.1 = _; exact s_90
theorem n_91 : gC g_91 = 48 ∧ gS g_91 = 477 := by unfold gC gS; rw [s_91]; exact ⟨rfl, rfl⟩
def g_92 : GG := aO g_91 (1, 6)
theorem f_92 : Fr g_92 := f_91.aO _
theorem s_92 : g_92.1 = [(1, 0), (1, 0), (0, 8), (0, 6), (3, 6), (2, 4), (0, 1), (0, 1), (0, 1), (0, 1), (0, 1), (0, 1), (0, 0), (0, 0), (0, 0), (0, 0), (0, 3), (1, 6), (1, 4), (0, 4), (1, 6), (1, 4), (0, 2), (1, 8), (1, 8), (1, 8), (0, 7), (7, 4), (0, 5), (1, 60), (0, 5), (1, 60), (0, 5), (1, 60), (0, 5), (1, 60), (0, 9), (1, 6), (1, 6), (1, 6), (1, 6), (1, 6), (1, 4), (1, 4), (1, 4), (1, 4), (1, 6), (1, 6), (1, 6)] := by show g_91.1 ++ _ = _; rw [s_91]; rfl
theorem n_92 : gC g_92 = 49 ∧ gS g_92 = 483 := by unfold gC gS; rw [s_92]; exact ⟨rfl, rfl⟩
def g_93 : GG := sR g_92 36 17 48
theorem f_93 : Fr g_93 := f_92.sR (by rw [s_92]; exact Nat.le_of_ble_eq_true rfl)
theorem s_93 : g_93.1 = [(1, 0), (1, 0), (0, 8), (0, 6), (3, 6), (2, 4), (0, 1), (0, 1), (0, 1), (0, 1), (0, 1), (0, 1), (0, 0), (0, 0), (0, 0), (0, 0), (0, 3), (1, 6), (1, 4), (0, 4), (1, 6), (1, 4), (0, 2), (1, 8), (1, 8), (1, 8), (0, 7), (7, 4), (0, 5), (1, 60), (0, 5), (1, 60), (0, 5), (1, 60), (0, 5), (1, 60), (0, 9), (1, 6), (1, 6), (1, 6), (1, 6), (1, 6), (1, 4), (1, 4), (1, 4), (1, 4), (1, 6), (1, 6), (1, 6)] := by show g_92.1 = _; exact s_92
theorem n_93 : gC g_93 = 49 ∧ gS g_93 = 483 := by unfold gC gS; rw [s_93]; exact ⟨rfl, rfl⟩
def g_94 : GG := aO g_93 (1, 6)
theorem f_94 : Fr g_94 := f_93.aO _
theorem s_94 : g_94.1 = [(1, 0), (1, 0), (0, 8), (0, 6), (3, 6), (2, 4), (0, 1), (0, 1), (0, 1), (0, 1), (0, 1), (0, 1), (0, 0), (0, 0), (0, 0), (0, 0), (0, 3), (1, 6), (1, 4), (0, 4), (1, 6), (1, 4), (0, 2), (1, 8), (1, 8), (1, 8), (0, 7), (7, 4), (0, 5), (1, 60), (0, 5), (1, 60), (0, 5), (1, 60), (0, 5), (1, 60), (0, 9), (1, 6), (1, 6), (1, 6), (1, 6), (1, 6), (1, 4), (1, 4), (1, 4), (1, 4), (1, 6), (1, 6), (1, 6), (1, 6)] := by show g_93.1 ++ _ = _; rw [s_93]; rfl
theorem n_94 : gC g_94 = 50 ∧ gS g_94 = 489 := by unfold gC gS; rw [s_94]; exact ⟨rfl, rfl⟩
def g_95 : GG := sR g_94 36 18 49
theorem f_95 : Fr g_95 := f_94.sR (by rw [s_94]; exact Nat.le_of_ble_eq_true rfl)
theorem s_95 : g_95.1 = [(1, 0), (1, 0), (0, 8), (0, 6), (3, 6), (2, 4), (0, 1), (0, 1), (0, 1), (0, 1), (0, 1), (0, 1), (0, 0), (0, 0), (0, 0), (0, 0), (0, 3), (1, 6), (1, 4), (0, 4), (1, 6), (1, 4), (0, 2), (1, 8), (1, 8), (1, 8), (0, 7), (7, 4), (0, 5), (1, 60), (0, 5), (1, 60), (0, 5), (1, 60), (0, 5), (1, 60), (0, 9), (1, 6), (1, 6), (1, 6), (1, 6), (1, 6), (1, 4), (1, 4), (1, 4), (1, 4), (1, 6), (1, 6), (1, 6), (1, 6)] := by show g_94.1 = _; exact s_94
theorem n_95 : gC g_95 = 50 ∧ gS g_95 = 489 := by unfold gC gS; rw [s_95]; exact ⟨rfl, rfl⟩
def g_96 : GG := aO g_95 (1, 6)
theorem f_96 : Fr g_96 := f_95.aO _
theorem s_96 : g_96.1 = [(1, 0), (1, 0), (0, 8), (0, 6), (3, 6), (2, 4), (0, 1), (0, 1), (0, 1), (0, 1), (0, 1), (0, 1), (0, 0), (0, 0), (0, 0), (0, 0), (0, 3), (1, 6), (1, 4), (0, 4), (1, 6), (1, 4), (0, 2), (1, 8), (1, 8), (1, 8), (0, 7), (7, 4), (0, 5), (1, 60), (0, 5), (1, 60), (0, 5), (1, 60), (0, 5), (1, 60), (0, 9), (1, 6), (1, 6), (1, 6), (1, 6), (1, 6), (1, 4), (1, 4), (1, 4), (1, 4), (1, 6), (1, 6), (1, 6), (1, 6), (1, 6)] := by show g_95.1 ++ _ = _; rw [s_95]; rfl
theorem n_96 : gC g_96 = 51 ∧ gS g_96 = 495 := by unfold gC gS; rw [s_96]; exact ⟨rfl, rfl⟩
def g_97 : GG := sR g_96 36 19 50
theorem f_97 : Fr g_97 := f_96.sR (by rw [s_96]; exact Nat.le_of_ble_eq_true rfl)
theorem s_97 : g_97.1 = [(1, 0), (1, 0), (0, 8), (0, 6), (3, 6), (2, 4), (0, 1), (0, 1), (0, 1), (0, 1), (0, 1), (0, 1), (0, 0), (0, 0), (0, 0), (0, 0), (0, 3), (1, 6), (1, 4), (0, 4), (1, 6), (1, 4), (0, 2), (1, 8), (1, 8), (1, 8), (0, 7), (7, 4), (0, 5), (1, 60), (0, 5), (1, 60), (0, 5), (1, 60), (0, 5), (1, 60), (0, 9), (1, 6), (1, 6), (1, 6), (1, 6), (1, 6), (1, 4), (1, 4), (1, 4), (1, 4), (1, 6), (1, 6), (1, 6), (1, 6), (1, 6)] := by show g_96.1 = _; exact s_96
theorem n_97 : gC g_97 = 51 ∧ gS g_97 = 495 := by unfold gC gS; rw [s_97]; exact ⟨rfl, rfl⟩
def g_98 : GG := aO g_97 (1, 4)
theorem f_98 : Fr g_98 := f_97.aO _
theorem s_98 : g_98.1 = [(1, 0), (1, 0), (0, 8), (0, 6), (3, 6), (2, 4), (0, 1), (0, 1), (0, 1), (0, 1), (0, 1), (0, 1), (0, 0), (0, 0), (0, 0), (0, 0), (0, 3), (1, 6), (1, 4), (0, 4), (1, 6), (1, 4), (0, 2), (1, 8), (1, 8), (1, 8), (0, 7), (7, 4), (0, 5), (1, 60), (0, 5), (1, 60), (0, 5), (1, 60), (0, 5), (1, 60), (0, 9), (1, 6), (1, 6), (1, 6), (1, 6), (1, 6), (1, 4), (1, 4), (1, 4), (1, 4), (1, 6), (1, 6), (1, 6), (1, 6), (1, 6), (1, 4)] := by show g_97.1 ++ _ = _; rw [s_97]; rfl
theorem n_98 : gC g_98 = 52 ∧ gS g_98 = 499 := by unfold gC gS; rw [s_98]; exact ⟨rfl, rfl⟩
def g_99 : GG := sR g_98 36 20 51
theorem f_99 : Fr g_99 := f_98.sR (by rw [s_98]; exact Nat.le_of_ble_eq_true rfl)
theorem s_99 : g_99.1 = [(1, 0), (1, 0), (0, 8), (0, 6), (3, 6), (2, 4), (0, 1), (0, 1), (0, 1), (0, 1), (0, 1), (0, 1), (0, 0), (0, 0), (0, 0), (0, 0), (0, 3), (1, 6), (1, 4), (0, 4), (1, 6), (1, 4), (0, 2), (1, 8), (1, 8), (1, 8), (0, 7), (7, 4), (0, 5), (1, 60), (0, 5), (1, 60), (0, 5), (1, 60), (0, 5), (1, 60), (0, 9), (1, 6), (1, 6), (1, 6), (1, 6), (1, 6), (1, 4), (1, 4), (1, 4), (1, 4), (1, 6), (1, 6), (1, 6), (1, 6), (1, 6), (1, 4)] := by show g_98.1 = _; exact s_98
theorem n_99 : gC g_99 = 52 ∧ gS g_99 = 499 := by unfold gC gS; rw [s_99]; exact ⟨rfl, rfl⟩
def g_100 : GG := aO g_99 (1, 4)
theorem f_100 : Fr g_100 := f_99.aO _
theorem s_100 : g_100.1 = [(1, 0), (1, 0), (0, 8), (0, 6), (3, 6), (2, 4), (0, 1), (0, 1), (0, 1), (0, 1), (0, 1), (0, 1), (0, 0), (0, 0), (0, 0), (0, 0), (0, 3), (1, 6), (1, 4), (0, 4), (1, 6), (1, 4), (0, 2), (1, 8), (1, 8), (1, 8), (0, 7), (7, 4), (0, 5), (1, 60), (0, 5), (1, 60), (0, 5), (1, 60), (0, 5), (1, 60), (0, 9), (1, 6), (1, 6), (1, 6), (1, 6), (1, 6), (1, 4), (1, 4), (1, 4), (1, 4), (1, 6), (1, 6), (1, 6), (1, 6), (1, 6), (1, 4), (1, 4)] := by show g_99.1 ++ _ = _; rw [s_99]; rfl
theorem n_100 : gC g_100 = 53 ∧ gS g_100 = 503 := by unfold gC gS; rw [s_100]; exact ⟨rfl, rfl⟩
def g_101 : GG := sR g_100 36 21 52
theorem f_101 : Fr g_101 := f_100.sR (by rw [s_100]; exact Nat.le_of_ble_eq_true rfl)
theorem s_101 : g_101.1 = [(1, 0), (1, 0), (0, 8), (0, 6), (3, 6), (2, 4), (0, 1), (0, 1), (0, 1), (0, 1), (0, 1), (0, 1), (0, 0), (0, 0), (0, 0), (0, 0), (0, 3), (1, 6), (1, 4), (0, 4), (1, 6), (1, 4), (0, 2), (1, 8), (1, 8), (1, 8), (0, 7), (7, 4), (0, 5), (1, 60), (0, 5), (1, 60), (0, 5), (1, 60), (0, 5), (1, 60), (0, 9), (1, 6), (1, 6), (1, 6), (1, 6), (1, 6), (1, 4), (1, 4), (1, 4), (1, 4), (1, 6), (1, 6), (1, 6), (1, 6), (1, 6), (1, 4), (1, 4)] := by show g_100.1 = _; exact s_100
theorem n_101 : gC g_101 = 53 ∧ gS g_101 = 503 := by unfold gC gS; rw [s_101]; exact ⟨rfl, rfl⟩
def g_102 : GG := aO g_101 (1, 4)
theorem f_102 : Fr g_102 := f_101.aO _
theorem s_102 : g_102.1 = [(1, 0), (1, 0), (0, 8), (0, 6), (3, 6), (2, 4), (0, 1), (0, 1), (0, 1), (0, 1), (0, 1), (0, 1), (0, 0), (0, 0), (0, 0), (0, 0), (0, 3), (1, 6), (1, 4), (0, 4), (1, 6), (1, 4), (0, 2), (1, 8), (1, 8), (1, 8), (0, 7), (7, 4), (0, 5), (1, 60), (0, 5), (1, 60), (0, 5), (1, 60), (0, 5), (1, 60), (0, 9), (1, 6), (1, 6), (1, 6), (1, 6), (1, 6), (1, 4), (1, 4), (1, 4), (1, 4), (1, 6), (1, 6), (1, 6), (1, 6), (1, 6), (1, 4), (1, 4), (1, 4)] := by show g_101.1 ++ _ = _; rw [s_101]; rfl
theorem n_102 : gC g_102 = 54 ∧ gS g_102 = 507 := by unfold gC gS; rw [s_102]; exact ⟨rfl, rfl⟩
def g_103 : GG := sR g_102 36 22 53
theorem f_103 : Fr g_103 := f_102.sR (by rw [s_102]; exact Nat.le_of_ble_eq_true rfl)
theorem s_103 : g_103.1 = [(1, 0), (1, 0), (0, 8), (0, 6), (3, 6), (2, 4), (0, 1), (0, 1), (0, 1), (0, 1), (0, 1), (0, 1), (0, 0), (0, 0), (0, 0), (0, 0), (0, 3), (1, 6), (1, 4), (0, 4), (1, 6), (1, 4), (0, 2), (1, 8), (1, 8), (1, 8), (0, 7), (7, 4), (0, 5), (1, 60), (0, 5), (1, 60), (0, 5), (1, 60), (0, 5), (1, 60), (0, 9), (1, 6), (1, 6), (1, 6), (1, 6), (1, 6), (1, 4), (1, 4), (1, 4), (1, 4), (1, 6), (1, 6), (1, 6), (1, 6), (1, 6), (1, 4), (1, 4), (1, 4)] := by show g_102.1 = _; exact s_102
theorem n_103 : gC g_103 = 54 ∧ gS g_103 = 507 := by unfold gC gS; rw [s_103]; exact ⟨rfl, rfl⟩
def g_104 : GG := aO g_103 (1, 6)
theorem f_104 : Fr g_104 := f_103.aO _
theorem s_104 : g_104.1 = [(1, 0), (1, 0), (0, 8), (0, 6), (3, 6), (2, 4), (0, 1), (0, 1), (0, 1), (0, 1), (0, 1), (0, 1), (0, 0), (0, 0), (0, 0), (0, 0), (0, 3), (1, 6), (1, 4), (0, 4), (1, 6), (1, 4), (0, 2), (1, 8), (1, 8), (1, 8), (0, 7), (7, 4), (0, 5), (1, 60), (0, 5), (1, 60), (0, 5), (1, 60), (0, 5), (1, 60), (0, 9), (1, 6), (1, 6), (1, 6), (1, 6), (1, 6), (1, 4), (1, 4), (1, 4), (1, 4), (1, 6), (1, 6), (1, 6), (1, 6), (1, 6), (1, 4), (1, 4), (1, 4), (1, 6)] := by show g_103.1 ++ _ = _; rw [s_103]; rfl
theorem n_104 : gC g_104 = 55 ∧ gS g_104 = 513 := by unfold gC gS; rw [s_104]; exact ⟨rfl, rfl⟩
def g_105 : GG := sR g_104 36 23 54
theorem f_105 : Fr g_105 := f_104.sR (by rw [s_104]; exact Nat.le_of_ble_eq_true rfl)
theorem s_105 : g_105.1 = [(1, 0), (1, 0), (0, 8), (0, 6), (3, 6), (2, 4), (0, 1), (0, 1), (0, 1), (0, 1), (0, 1), (0, 1), (0, 0), (0, 0), (0, 0), (0, 0), (0, 3), (1, 6), (1, 4), (0, 4), (1, 6), (1, 4), (0, 2), (1, 8), (1, 8), (1, 8), (0, 7), (7, 4), (0, 5), (1, 60), (0, 5), (1, 60), (0, 5), (1, 60), (0, 5), (1, 60), (0, 9), (1, 6), (1, 6), (1, 6), (1, 6), (1, 6), (1, 4), (1, 4), (1, 4), (1, 4), (1, 6), (1, 6), (1, 6), (1, 6), (1, 6), (1, 4), (1, 4), (1, 4), (1, 6)] := by show g_104.1 = _; exact s_104
theorem n_105 : gC g_105 = 55 ∧ gS g_105 = 513 := by unfold gC gS; rw [s_105]; exact ⟨rfl, rfl⟩
def g_106 : GG := aO g_105 (1, 4)
theorem f_106 : Fr g_106 := f_105.aO _
theorem s_106 : g_106.1 = [(1, 0), (1, 0), (0, 8), (0, 6), (3, 6), (2, 4), (0, 1), (0, 1), (0, 1), (0, 1), (0, 1), (0, 1), (0, 0), (0, 0), (0, 0), (0, 0), (0, 3), (1, 6), (1, 4), (0, 4), (1, 6), (1, 4), (0, 2), (1, 8), (1, 8), (1, 8), (0, 7), (7, 4), (0, 5), (1, 60), (0, 5), (1, 60), (0, 5), (1, 60), (0, 5), (1, 60), (0, 9), (1, 6), (1, 6), (1, 6), (1, 6), (1, 6), (1, 4), (1, 4), (1, 4), (1, 4), (1, 6), (1, 6), (1, 6), (1, 6), (1, 6), (1, 4), (1, 4), (1, 4), (1, 6), (1, 4)] := by show g_105.1 ++ _ = _; rw [s_105]; rfl
theorem n_106 : gC g_106 = 56 ∧ gS g_106 = 517 := by unfold gC gS; rw [s_106]; exact ⟨rfl, rfl⟩
def g_107 : GG := sR g_106 36 24 55
theorem f_107 : Fr g_107 := f_106.sR (by rw [s_106]; exact Nat.le_of_ble_eq_true rfl)
theorem s_107 : g_107.1 = [(1, 0), (1, 0), (0, 8), (0, 6), (3, 6), (2, 4), (0, 1), (0, 1), (0, 1), (0, 1), (0, 1), (0, 1), (0, 0), (0, 0), (0, 0), (0, 0), (0, 3), (1, 6), (1, 4), (0, 4), (1, 6), (1, 4), (0, 2), (1, 8), (1, 8), (1, 8), (0, 7), (7, 4), (0, 5), (1, 60), (0, 5), (1, 60), (0, 5), (1, 60), (0, 5), (1, 60), (0, 9), (1, 6), (1, 6), (1, 6), (1, 6), (1, 6), (1, 4), (1, 4), (1, 4), (1, 4), (1, 6), (1, 6), (1, 6), (1, 6), (1, 6), (1, 4), (1, 4), (1, 4), (1, 6), (1, 4)] := by show g_106.1 = _; exact s_106
theorem n_107 : gC g_107 = 56 ∧ gS g_107 = 517 := by unfold gC gS; rw [s_107]; exact ⟨rfl, rfl⟩
def g_108 : GG := aO g_107 (1, 7)
theorem f_108 : Fr g_108 := f_107.aO _
theorem s_108 : g_108.1 = [(1, 0), (1, 0), (0, 8), (0, 6), (3, 6), (2, 4), (0, 1), (0, 1), (0, 1), (0, 1), (0, 1), (0, 1), (0, 0), (0, 0), (0, 0), (0, 0), (0, 3), (1, 6), (1, 4), (0, 4), (1, 6), (1, 4), (0, 2), (1, 8), (1, 8), (1, 8), (0, 7), (7, 4), (0, 5), (1, 60), (0, 5), (1, 60), (0, 5), (1, 60), (0, 5), (1, 60), (0, 9), (1, 6), (1, 6), (1, 6), (1, 6), (1, 6), (1, 4), (1, 4), (1, 4), (1, 4), (1, 6), (1, 6), (1, 6), (1, 6), (1, 6), (1, 4), (1, 4), (1, 4), (1, 6), (1, 4), (1, 7)] := by show g_107.1 ++ _ = _; rw [s_107]; rfl
theorem n_108 : gC g_108 = 57 ∧ gS g_108 = 524 := by unfold gC gS; rw [s_108]; exact ⟨rfl, rfl⟩
def g_109 : GG := sR g_108 36 25 56
theorem f_109 : Fr g_109 := f_108.sR (by rw [s_108]; exact Nat.le_of_ble_eq_true rfl)
theorem s_109 : g_109.1 = [(1, 0), (1, 0), (0, 8), (0, 6), (3, 6), (2, 4), (0, 1), (0, 1), (0, 1), (0, 1), (0, 1), (0, 1), (0, 0), (0, 0), (0, 0), (0, 0), (0, 3), (1, 6), (1, 4), (0, 4), (1, 6), (1, 4), (0, 2), (1, 8), (1, 8), (1, 8), (0, 7), (7, 4), (0, 5), (1, 60), (0, 5), (1, 60), (0, 5), (1, 60), (0, 5), (1, 60), (0, 9), (1, 6), (1, 6), (1, 6), (1, 6), (1, 6), (1, 4), (1, 4), (1, 4), (1, 4), (1, 6), (1, 6), (1, 6), (1, 6), (1, 6), (1, 4), (1, 4), (1, 4), (1, 6), (1, 4), (1, 7)] := by show g_108.1 = _; exact s_108
theorem n_109 : gC g_109 = 57 ∧ gS g_109 = 524 := by unfold gC gS; rw [s_109]; exact ⟨rfl, rfl⟩
def g_110 : GG := aO g_109 (1, 8)
theorem f_110 : Fr g_110 := f_109.aO _
theorem s_110 : g_110.1 = [(1, 0), (1, 0), (0, 8), (0, 6), (3, 6), (2, 4), (0, 1), (0, 1), (0, 1), (0, 1), (0, 1), (0, 1), (0, 0), (0, 0), (0, 0), (0, 0), (0, 3), (1, 6), (1, 4), (0, 4), (1, 6), (1, 4), (0, 2), (1, 8), (1, 8), (1, 8), (0, 7), (7, 4), (0, 5), (1, 60), (0, 5), (1, 60), (0, 5), (1, 60), (0, 5), (1, 60), (0, 9), (1, 6), (1, 6), (1, 6), (1, 6), (1, 6), (1, 4), (1, 4), (1, 4), (1, 4), (1, 6), (1, 6), (1, 6), (1, 6), (1, 6), (1, 4), (1, 4), (1, 4), (1, 6), (1, 4), (1, 7), (1, 8)] := by show g_109.1 ++ _ = _; rw [s_109]; rfl
theorem n_110 : gC g_110 = 58 ∧ gS g_110 = 532 := by unfold gC gS; rw [s_110]; exact ⟨rfl, rfl⟩
def g_111 : GG := sR g_110 36 28 57
theorem f_111 : Fr g_111 := f_110.sR (by rw [s_110]; exact Nat.le_of_ble_eq_true rfl)
theorem s_111 : g_111.1 = [(1, 0), (1, 0), (0, 8), (0, 6), (3, 6), (2, 4), (0, 1), (0, 1), (0, 1), (0, 1), (0, 1), (0, 1), (0, 0), (0, 0), (0, 0), (0, 0), (0, 3), (1, 6), (1, 4), (0, 4), (1, 6), (1, 4), (0, 2), (1, 8), (1, 8), (1, 8), (0, 7), (7, 4), (0, 5), (1, 60), (0, 5), (1, 60), (0, 5), (1, 60), (0, 5), (1, 60), (0, 9), (1, 6), (1, 6), (1, 6), (1, 6), (1, 6), (1, 4), (1, 4), (1, 4), (1, 4), (1, 6), (1, 6), (1, 6), (1, 6), (1, 6), (1, 4), (1, 4), (1, 4), (1, 6), (1, 4), (1, 7), (1, 8)] := by show g_110.1 = _; exact s_110
theorem n_111 : gC g_111 = 58 ∧ gS g_111 = 532 := by unfold gC gS; rw [s_111]; exact ⟨rfl, rfl⟩
def g_112 : GG := aO g_111 (1, 8)
theorem f_112 : Fr g_112 := f_111.aO _
theorem s_112 : g_112.1 = [(1, 0), (1, 0), (0, 8), (0, 6), (3, 6), (2, 4), (0, 1), (0, 1), (0, 1), (0, 1), (0, 1), (0, 1), (0, 0), (0, 0), (0, 0), (0, 0), (0, 3), (1, 6), (1, 4), (0, 4), (1, 6), (1, 4), (0, 2), (1, 8), (1, 8), (1, 8), (0, 7), (7, 4), (0, 5), (1, 60), (0, 5), (1, 60), (0, 5), (1, 60), (0, 5), (1, 60), (0, 9), (1, 6), (1, 6), (1, 6), (1, 6), (1, 6), (1, 4), (1, 4), (1, 4), (1, 4), (1, 6), (1, 6), (1, 6), (1, 6), (1, 6), (1, 4), (1, 4), (1, 4), (1, 6), (1, 4), (1, 7), (1, 8), (1, 8)] := by show g_111.1 ++ _ = _; rw [s_111]; rfl
theorem n_112 : gC g_112 = 59 ∧ gS g_112 = 540 := by unfold gC gS; rw [s_112]; exact ⟨rfl, rfl⟩
def g_113 : GG := sR g_112 36 29 58
theorem f_113 : Fr g_113 := f_112.sR (by rw [s_112]; exact Nat.le_of_ble_eq_true rfl)
theorem s_113 : g_113.1 = [(1, 0), (1, 0), (0, 8), (0, 6), (3, 6), (2, 4), (0, 1), (0, 1), (0, 1), (0, 1), (0, 1), (0, 1), (0, 0), (0, 0), (0, 0), (0, 0), (0, 3), (1, 6), (1, 4), (0, 4), (1, 6), (1, 4), (0, 2), (1, 8), (1, 8), (1, 8), (0, 7), (7, 4), (0, 5), (1, 60), (0, 5), (1, 60), (0, 5), (1, 60), (0, 5), (1, 60), (0, 9), (1, 6), (1, 6), (1, 6), (1, 6), (1, 6), (1, 4), (1, 4), (1, 4), (1, 4), (1, 6), (1, 6), (1, 6), (1, 6), (1, 6), (1, 4), (1, 4), (1, 4), (1, 6), (1, 4), (1, 7), (1, 8), (1, 8)] := by show g_112.1 = _; exact s_112
theorem n_113 : gC g_113 = 59 ∧ gS g_113 = 540 := by unfold gC gS; rw [s_113]; exact ⟨rfl, rfl⟩
def g_114 : GG := aO g_113 (1, 8)
theorem f_114 : Fr g_114 := f_113.aO _
theorem s_114 : g_114.1 = [(1, 0), (1, 0), (0, 8), (0, 6), (3, 6), (2, 4), (0, 1), (0, 1), (0, 1), (0, 1), (0, 1), (0, 1), (0, 0), (0, 0), (0, 0), (0, 0), (0, 3), (1, 6), (1, 4), (0, 4), (1, 6), (1, 4), (0, 2), (1, 8), (1, 8), (1, 8), (0, 7), (7, 4), (0, 5), (1, 60), (0, 5), (1, 60), (0, 5), (1, 60), (0, 5), (1, 60), (0, 9), (1, 6), (1, 6), (1, 6), (1, 6), (1, 6), (1, 4), (1, 4), (1, 4), (1, 4), (1, 6), (1, 6), (1, 6), (1, 6), (1, 6), (1, 4), (1, 4), (1, 4), (1, 6), (1, 4), (1, 7), (1, 8), (1, 8), (1, 8)] := by show g_113.1 ++ _ = _; rw [s_113]; rfl
theorem n_114 : gC g_114 = 60 ∧ gS g_114 = 548 := by unfold gC gS; rw [s_114]; exact ⟨rfl, rfl⟩
def g_115 : GG := sR g_114 36 30 59
theorem f_115 : Fr g_115 := f_114.sR (by rw [s_114]; exact Nat.le_of_ble_eq_true rfl)
theorem s_115 : g_115.1 = [(1, 0), (1, 0), (0, 8), (0, 6), (3, 6), (2, 4), (0, 1), (0, 1), (0, 1), (0, 1), (0, 1), (0, 1), (0, 0), (0, 0), (0, 0), (0, 0), (0, 3), (1, 6), (1, 4), (0, 4), (1, 6), (1, 4), (0, 2), (1, 8), (1, 8), (1, 8), (0, 7), (7, 4), (0, 5), (1, 60), (0, 5), (1, 60), (0, 5), (1, 60), (0, 5), (1, 60), (0, 9), (1, 6), (1, 6), (1, 6), (1, 6), (1, 6), (1, 4), (1, 4), (1, 4), (1, 4), (1, 6), (1, 6), (1, 6), (1, 6), (1, 6), (1, 4), (1, 4), (1, 4), (1, 6), (1, 4), (1, 7), (1, 8), (1, 8), (1, 8)] := by show g_114.1 = _; exact s_114
theorem n_115 : gC g_115 = 60 ∧ gS g_115 = 548 := by unfold gC gS; rw [s_115]; exact ⟨rfl, rfl⟩
def g_116 : GG := aO g_115 (1, 4)
theorem f_116 : Fr g_116 := f_115.aO _
theorem s_116 : g_116.1 = [(1, 0), (1, 0), (0, 8), (0, 6), (3, 6), (2, 4), (0, 1), (0, 1), (0, 1), (0, 1), (0, 1), (0, 1), (0, 0), (0, 0), (0, 0), (0, 0), (0, 3), (1, 6), (1, 4), (0, 4), (1, 6), (1, 4), (0, 2), (1, 8), (1, 8), (1, 8), (0, 7), (7, 4), (0, 5), (1, 60), (0, 5), (1, 60), (0, 5), (1, 60), (0, 5), (1, 60), (0, 9), (1, 6), (1, 6), (1, 6), (1, 6), (1, 6), (1, 4), (1, 4), (1, 4), (1, 4), (1, 6), (1, 6), (1, 6), (1, 6), (1, 6), (1, 4), (1, 4), (1, 4), (1, 6), (1, 4), (1, 7), (1, 8), (1, 8), (1, 8), (1, 4)] := by show g_115.1 ++ _ = _; rw [s_115]; rfl
theorem n_116 : gC g_116 = 61 ∧ gS g_116 = 552 := by unfold gC gS; rw [s_116]; exact ⟨rfl, rfl⟩
def g_117 : GG := sR g_116 36 31 60
theorem f_117 : Fr g_117 := f_116.sR (by rw [s_116]; exact Nat.le_of_ble_eq_true rfl)
theorem s_117 : g_117.1 = [(1, 0), (1, 0), (0, 8), (0, 6), (3, 6), (2, 4), (0, 1), (0, 1), (0, 1), (0, 1), (0, 1), (0, 1), (0, 0), (0, 0), (0, 0), (0, 0), (0, 3), (1, 6), (1, 4), (0, 4), (1, 6), (1, 4), (0, 2), (1, 8), (1, 8), (1, 8), (0, 7), (7, 4), (0, 5), (1, 60), (0, 5), (1, 60), (0, 5), (1, 60), (0, 5), (1, 60), (0, 9), (1, 6), (1, 6), (1, 6), (1, 6), (1, 6), (1, 4), (1, 4), (1, 4), (1, 4), (1, 6), (1, 6), (1, 6), (1, 6), (1, 6), (1, 4), (1, 4), (1, 4), (1, 6), (1, 4), (1, 7), (1, 8), (1, 8), (1, 8), (1, 4)] := by show g_116.1 = _; exact s_116
theorem n_117 : gC g_117 = 61 ∧ gS g_117 = 552 := by unfold gC gS; rw [s_117]; exact ⟨rfl, rfl⟩
def g_118 : GG := aO g_117 (1, 4)
theorem f_118 : Fr g_118 := f_117.aO _
theorem s_118 : g_118.1 = [(1, 0), (1, 0), (0, 8), (0, 6), (3, 6), (2, 4), (0, 1), (0, 1), (0, 1), (0, 1), (0, 1), (0, 1), (0, 0), (0, 0), (0, 0), (0, 0), (0, 3), (1, 6), (1, 4), (0, 4), (1, 6), (1, 4), (0, 2), (1, 8), (1, 8), (1, 8), (0, 7), (7, 4), (0, 5), (1, 60), (0, 5), (1, 60), (0, 5), (1, 60), (0, 5), (1, 60), (0, 9), (1, 6), (1, 6), (1, 6), (1, 6), (1, 6), (1, 4), (1, 4), (1, 4), (1, 4), (1, 6), (1, 6), (1, 6), (1, 6), (1, 6), (1, 4), (1, 4), (1, 4), (1, 6), (1, 4), (1, 7), (1, 8), (1, 8), (1, 8), (1, 4), (1, 4)] := by show g_117.1 ++ _ = _; rw [s_117]; rfl
theorem n_118 : gC g_118 = 62 ∧ gS g_118 = 556 := by unfold gC gS; rw [s_118]; exact ⟨rfl, rfl⟩
def g_119 : GG := sR g_118 36 32 61
theorem f_119 : Fr g_119 := f_118.sR (by rw [s_118]; exact Nat.le_of_ble_eq_true rfl)
theorem s_119 : g_119.1 = [(1, 0), (1, 0), (0, 8), (0, 6), (3, 6), (2, 4), (0, 1), (0, 1), (0, 1), (0, 1), (0, 1), (0, 1), (0, 0), (0, 0), (0, 0), (0, 0), (0, 3), (1, 6), (1, 4), (0, 4), (1, 6), (1, 4), (0, 2), (1, 8), (1, 8), (1, 8), (0, 7), (7, 4), (0, 5), (1, 60), (0, 5), (1, 60), (0, 5), (1, 60), (0, 5), (1, 60), (0, 9), (1, 6), (1, 6), (1, 6), (1, 6), (1, 6), (1, 4), (1, 4), (1, 4), (1, 4), (1, 6), (1, 6), (1, 6), (1, 6), (1, 6), (1, 4), (1, 4), (1, 4), (1, 6), (1, 4), (1, 7), (1, 8), (1, 8), (1, 8), (1, 4), (1, 4)] := by show g_118.1 = _; exact s_118
theorem n_119 : gC g_119 = 62 ∧ gS g_119 = 556 := by unfold gC gS; rw [s_119]; exact ⟨rfl, rfl⟩
def g_120 : GG := aO g_119 (1, 240)
theorem f_120 : Fr g_120 := f_119.aO _
theorem s_120 : g_120.1 = [(1, 0), (1, 0), (0, 8), (0, 6), (3, 6), (2, 4), (0, 1), (0, 1), (0, 1), (0, 1), (0, 1), (0, 1), (0, 0), (0, 0), (0, 0), (0, 0), (0, 3), (1, 6), (1, 4), (0, 4), (1, 6), (1, 4), (0, 2), (1, 8), (1, 8), (1, 8), (0, 7), (7, 4), (0, 5), (1, 60), (0, 5), (1, 60), (0, 5), (1, 60), (0, 5), (1, 60), (0, 9), (1, 6), (1, 6), (1, 6), (1, 6), (1, 6), (1, 4), (1, 4), (1, 4), (1, 4), (1, 6), (1, 6), (1, 6), (1, 6), (1, 6), (1, 4), (1, 4), (1, 4), (1, 6), (1, 4), (1, 7), (1, 8), (1, 8), (1, 8), (1, 4), (1, 4), (1, 240)] := by show g_119.1 ++ _ = _; rw [s_119]; rfl
theorem n_120 : gC g_120 = 63 ∧ gS g_120 = 796 := by unfold gC gS; rw [s_120]; exact ⟨rfl, rfl⟩
def g_121 : GG := sR g_120 36 33 62
theorem f_121 : Fr g_121 := f_120.sR (by rw [s_120]; exact Nat.le_of_ble_eq_true rfl)
theorem s_121 : g_121.1 = [(1, 0), (1, 0), (0, 8), (0, 6), (3, 6), (2, 4), (0, 1), (0, 1), (0, 1), (0, 1), (0, 1), (0, 1), (0, 0), (0, 0), (0, 0), (0, 0), (0, 3), (1, 6), (1, 4), (0, 4), (1, 6), (1, 4), (0, 2), (1, 8), (1, 8), (1, 8), (0, 7), (7, 4), (0, 5), (1, 60), (0, 5), (1, 60), (0, 5), (1, 60), (0, 5), (1, 60), (0, 9), (1, 6), (1, 6), (1, 6), (1, 6), (1, 6), (1, 4), (1, 4), (1, 4), (1, 4), (1, 6), (1, 6), (1, 6), (1, 6), (1, 6), (1, 4), (1, 4), (1, 4), (1, 6), (1, 4), (1, 7), (1, 8), (1, 8), (1, 8), (1, 4), (1, 4), (1, 240)] := by show g_120.1 = _; exact s_120
theorem n_121 : gC g_121 = 63 ∧ gS g_121 = 796 := by unfold gC gS; rw [s_121]; exact ⟨rfl, rfl⟩
def g_122 : GG := aO g_121 (1, 60)
theorem f_122 : Fr g_122 := f_121.aO _
theorem s_122 : g_122.1 = [(1, 0), (1, 0), (0, 8), (0, 6), (3, 6), (2, 4), (0, 1), (0, 1), (0, 1), (0, 1), (0, 1), (0, 1), (0, 0), (0, 0), (0, 0), (0, 0), (0, 3), (1, 6), (1, 4), (0, 4), (1, 6), (1, 4), (0, 2), (1, 8), (1, 8), (1, 8), (0, 7), (7, 4), (0, 5), (1, 60), (0, 5), (1, 60), (0, 5), (1, 60), (0, 5), (1, 60), (0, 9), (1, 6), (1, 6), (1, 6), (1, 6), (1, 6), (1, 4), (1, 4), (1, 4), (1, 4), (1, 6), (1, 6), (1, 6), (1, 6), (1, 6), (1, 4), (1, 4), (1, 4), (1, 6), (1, 4), (1, 7), (1, 8), (1, 8), (1, 8), (1, 4), (1, 4), (1, 240), (1, 60)] := by show g_121.1 ++ _ = _; rw [s_121]; rfl
theorem n_122 : gC g_122 = 64 ∧ gS g_122 = 856 := by unfold gC gS; rw [s_122]; exact ⟨rfl, rfl⟩
def g_123 : GG := sR g_122 36 34 63
theorem f_123 : Fr g_123 := f_122.sR (by rw [s_122]; exact Nat.le_of_ble_eq_true rfl)
theorem s_123 : g_123.1 = [(1, 0), (1, 0), (0, 8), (0, 6), (3, 6), (2, 4), (0, 1), (0, 1), (0, 1), (0, 1), (0, 1), (0, 1), (0, 0), (0, 0), (0, 0), (0, 0), (0, 3), (1, 6), (1, 4), (0, 4), (1, 6), (1, 4), (0, 2), (1, 8), (1, 8), (1, 8), (0, 7), (7, 4), (0, 5), (1, 60), (0, 5), (1, 60), (0, 5), (1, 60), (0, 5), (1, 60), (0, 9), (1, 6), (1, 6), (1, 6), (1, 6), (1, 6), (1, 4), (1, 4), (1, 4), (1, 4), (1, 6), (1, 6), (1, 6), (1, 6), (1, 6), (1, 4), (1, 4), (1, 4), (1, 6), (1, 4), (1, 7), (1, 8), (1, 8), (1, 8), (1, 4), (1, 4), (1, 240), (1, 60)] := by show g_122.1 = _; exact s_122
theorem n_123 : gC g_123 = 64 ∧ gS g_123 = 856 := by unfold gC gS; rw [s_123]; exact ⟨rfl, rfl⟩
def g_124 : GG := sI g_123 60 0 (-1)
theorem f_124 : Fr g_124 := f_123.sI (by rw [s_123]; exact Nat.le_of_ble_eq_true rfl)
theorem s_124 : g_124.1 = [(1, 0), (1, 0), (0, 8), (0, 6), (3, 6), (2, 4), (0, 1), (0, 1), (0, 1), (0, 1), (0, 1), (0, 1), (0, 0), (0, 0), (0, 0), (0, 0), (0, 3), (1, 6), (1, 4), (0, 4), (1, 6), (1, 4), (0, 2), (1, 8), (1, 8), (1, 8), (0, 7), (7, 4), (0, 5), (1, 60), (0, 5), (1, 60), (0, 5), (1, 60), (0, 5), (1, 60), (0, 9), (1, 6), (1, 6), (1, 6), (1, 6), (1, 6), (1, 4), (1, 4), (1, 4), (1, 4), (1, 6), (1, 6), (1, 6), (1, 6), (1, 6), (1, 4), (1, 4), (1, 4), (1, 6), (1, 4), (1, 7), (1, 8), (1, 8), (1, 8), (1, 4), (1, 4), (1, 240), (1, 60)] := by show g_123.1 = _; exact s_123
theorem n_124 : gC g_124 = 64 ∧ gS g_124 = 856 := by unfold gC gS; rw [s_124]; exact ⟨rfl, rfl⟩
def g_125 : GG := sI g_124 60 1 (-1)
theorem f_125 : Fr g_125 := f_124.sI (by rw [s_124]; exact Nat.le_of_ble_eq_true rfl)
theorem s_125 : g_125.1 = [(1, 0), (1, 0), (0, 8), (0, 6), (3, 6), (2, 4), (0, 1), (0, 1), (0, 1), (0, 1), (0, 1), (0, 1), (0, 0), (0, 0), (0, 0), (0, 0), (0, 3), (1, 6), (1, 4), (0, 4), (1, 6), (1, 4), (0, 2), (1, 8), (1, 8), (1, 8), (0, 7), (7, 4), (0, 5), (1, 60), (0, 5), (1, 60), (0, 5), (1, 60), (0, 5), (1, 60), (0, 9), (1, 6), (1, 6), (1, 6), (1, 6), (1, 6), (1, 4), (1, 4), (1, 4), (1, 4), (1, 6), (1, 6), (1, 6), (1, 6), (1, 6), (1, 4), (1, 4), (1, 4), (1, 6), (1, 4), (1, 7), (1, 8), (1, 8), (1, 8), (1, 4), (1, 4), (1, 240), (1, 60)] := by show g_124.1 = _; exact s_124
theorem n_125 : gC g_125 = 64 ∧ gS g_125 = 856 := by unfold gC gS; rw [s_125]; exact ⟨rfl, rfl⟩
def g_126 : GG := sI g_125 60 2 (-1)
theorem f_126 : Fr g_126 := f_125.sI (by rw [s_125]; exact Nat.le_of_ble_eq_true rfl)
theorem s_126 : g_126.1 = [(1, 0), (1, 0), (0, 8), (0, 6), (3, 6), (2, 4), (0, 1), (0, 1), (0, 1), (0, 1), (0, 1), (0, 1), (0, 0), (0, 0), (0, 0), (0, 0), (0, 3), (1, 6), (1, 4), (0, 4), (1, 6), (1, 4), (0, 2), (1, 8), (1, 8), (1, 8), (0, 7), (7, 4), (0, 5), (1, 60), (0, 5), (1, 60), (0, 5), (1, 60), (0, 5), (1, 60), (0, 9), (1, 6), (1, 6), (1, 6), (1, 6), (1, 6), (1, 4), (1, 4), (1, 4), (1, 4), (1, 6), (1, 6), (1, 6), (1, 6), (1, 6), (1, 4), (1, 4), (1, 4), (1, 6), (1, 4), (1, 7), (1, 8), (1, 8), (1, 8), (1, 4), (1, 4), (1, 240), (1, 60)] := by show g_125.1 = _; exact s_125
theorem n_126 : gC g_126 = 64 ∧ gS g_126 = 856 := by unfold gC gS; rw [s_126]; exact ⟨rfl, rfl⟩
def g_127 : GG := sI g_126 60 3 (-1)
theorem f_127 : Fr g_127 := f_126.sI (by rw [s_126]; exact Nat.le_of_ble_eq_true rfl)
theorem s_127 : g_127.1 = [(1, 0), (1, 0), (0, 8), (0, 6), (3, 6), (2, 4), (0, 1), (0, 1), (0, 1), (0, 1), (0, 1), (0, 1), (0, 0), (0, 0), (0, 0), (0, 0), (0, 3), (1, 6), (1, 4), (0, 4), (1, 6), (1, 4), (0, 2), (1, 8), (1, 8), (1, 8), (0, 7), (7, 4), (0, 5), (1, 60), (0, 5), (1, 60), (0, 5), (1, 60), (0, 5), (1, 60), (0, 9), (1, 6), (1, 6), (1, 6), (1, 6), (1, 6), (1, 4), (1, 4), (1, 4), (1, 4), (1, 6), (1, 6), (1, 6), (1, 6), (1, 6), (1, 4), (1, 4), (1, 4), (1, 6), (1, 4), (1, 7), (1, 8), (1, 8), (1, 8), (1, 4), (1, 4), (1, 240), (1, 60)] := by show g_126.1 = _; exact s_126
theorem n_127 : gC g_127 = 64 ∧ gS g_127 = 856 := by unfold gC gS; rw [s_127]; exact ⟨rfl, rfl⟩
set_option maxRecDepth 4000 in
theorem C_Mo_init_1 : AMet y_Mo_init c_Mo_init 2 none 1 27 437 [vR 36] g_69 (fun o G' => o = none ∧ G' = g_127) := by
  refine AMet.of k_Mo_init (lo := [some (vR 36), none]) rfl (Nat.le_of_ble_eq_true rfl) (fun X hX hR hI0 => ?_)
  have hI := hI0 rfl
  refine v_aload_n (pc := 0) hX rfl d_Mo_init_0 ?_
  refine v_objInit (pc := 1) hX ml_Mo_1 rfl ⟨Nat.le_of_ble_eq_true rfl, Nat.le_of_ble_eq_true rfl⟩ (by decide) d_Mo_init_1 ?_
  refine v_aload_n (pc := 4) hX rfl d_Mo_init_4 ?_
  refine v_bipush (pc := 5) (v := 6) hX (by decide) d_Mo_init_5 ?_
  refine w_newarr (pc := 7) (r := 37) (N := 6) (G' := g_70) hX f_69 (by decide) (by decide) (by decide) (by rw [s_69]; rfl) ⟨by rw [n_69.1]; exact Nat.le_of_ble_eq_true rfl, by rw [n_69.2]; exact Nat.le_of_ble_eq_true rfl⟩ rfl d_Mo_init_7 ?_
  refine w_putF (pc := 9) (G' := g_71) hX hI fl_Mo_7 rfl (finF rfl rfl rfl) (by decide) (by rw [s_70]; rfl) (by decide) (fun _ => rfl) (fun _ => rfl) rfl d_Mo_init_9 ?_
  refine v_aload_n (pc := 12) hX rfl d_Mo_init_12 ?_
  refine v_bipush (pc := 13) (v := 6) hX (by decide) d_Mo_init_13 ?_
  refine w_newarr (pc := 15) (r := 38) (N := 6) (G' := g_72) hX f_71 (by decide) (by decide) (by decide) (by rw [s_71]; rfl) ⟨by rw [n_71.1]; exact Nat.le_of_ble_eq_true rfl, by rw [n_71.2]; exact Nat.le_of_ble_eq_true rfl⟩ rfl d_Mo_init_15 ?_
  refine w_putF (pc := 17) (G' := g_73) hX hI fl_Mo_13 rfl (finF rfl rfl rfl) (by decide) (by rw [s_72]; rfl) (by decide) (fun _ => rfl) (fun _ => rfl) rfl d_Mo_init_17 ?_
  refine v_aload_n (pc := 20) hX rfl d_Mo_init_20 ?_
  refine v_bipush (pc := 21) (v := 6) hX (by decide) d_Mo_init_21 ?_
  refine w_newarr (pc := 23) (r := 39) (N := 6) (G' := g_74) hX f_73 (by decide) (by decide) (by decide) (by rw [s_73]; rfl) ⟨by rw [n_73.1]; exact Nat.le_of_ble_eq_true rfl, by rw [n_73.2]; exact Nat.le_of_ble_eq_true rfl⟩ rfl d_Mo_init_23 ?_
  refine w_putF (pc := 25) (G' := g_75) hX hI fl_Mo_16 rfl (finF rfl rfl rfl) (by decide) (by rw [s_74]; rfl) (by decide) (fun _ => rfl) (fun _ => rfl) rfl d_Mo_init_25 ?_
  refine v_aload_n (pc := 28) hX rfl d_Mo_init_28 ?_
  refine v_bipush (pc := 29) (v := 6) hX (by decide) d_Mo_init_29 ?_
  refine w_newarr (pc := 31) (r := 40) (N := 6) (G' := g_76) hX f_75 (by decide) (by decide) (by decide) (by rw [s_75]; rfl) ⟨by rw [n_75.1]; exact Nat.le_of_ble_eq_true rfl, by rw [n_75.2]; exact Nat.le_of_ble_eq_true rfl⟩ rfl d_Mo_init_31 ?_
  refine w_putF (pc := 33) (G' := g_77) hX hI fl_Mo_19 rfl (finF rfl rfl rfl) (by decide) (by rw [s_76]; rfl) (by decide) (fun _ => rfl) (fun _ => rfl) rfl d_Mo_init_33 ?_
  refine v_aload_n (pc := 36) hX rfl d_Mo_init_36 ?_
  refine v_bipush (pc := 37) (v := 6) hX (by decide) d_Mo_init_37 ?_
  refine w_newarr (pc := 39) (r := 41) (N := 6) (G' := g_78) hX f_77 (by decide) (by decide) (by decide) (by rw [s_77]; rfl) ⟨by rw [n_77.1]; exact Nat.le_of_ble_eq_true rfl, by rw [n_77.2]; exact Nat.le_of_ble_eq_true rfl⟩ rfl d_Mo_init_39 ?_
  refine w_putF (pc := 41) (G' := g_79) hX hI fl_Mo_22 rfl (finF rfl rfl rfl) (by decide) (by rw [s_78]; rfl) (by decide) (fun _ => rfl) (fun _ => rfl) rfl d_Mo_init_41 ?_
  refine v_aload_n (pc := 44) hX rfl d_Mo_init_44 ?_
  refine v_iconst (pc := 45) (v := 4) hX (by decide) d_Mo_init_45 ?_
  refine w_newarr (pc := 46) (r := 42) (N := 4) (G' := g_80) hX f_79 (by decide) (by decide) (by decide) (by rw [s_79]; rfl) ⟨by rw [n_79.1]; exact Nat.le_of_ble_eq_true rfl, by rw [n_79.2]; exact Nat.le_of_ble_eq_true rfl⟩ rfl d_Mo_init_46 ?_
  refine w_putF (pc := 48) (G' := g_81) hX hI fl_Mo_25 rfl (finF rfl rfl rfl) (by decide) (by rw [s_80]; rfl) (by decide) (fun _ => rfl) (fun _ => rfl) rfl d_Mo_init_48 ?_
  refine v_aload_n (pc := 51) hX rfl d_Mo_init_51 ?_
  refine v_iconst (pc := 52) (v := 4) hX (by decide) d_Mo_init_52 ?_
  refine w_newarr (pc := 53) (r := 43) (N := 4) (G' := g_82) hX f_81 (by decide) (by decide) (by decide) (by rw [s_81]; rfl) ⟨by rw [n_81.1]; exact Nat.le_of_ble_eq_true rfl, by rw [n_81.2]; exact Nat.le_of_ble_eq_true rfl⟩ rfl d_Mo_init_53 ?_
  refine w_putF (pc := 55) (G' := g_83) hX hI fl_Mo_28 rfl (finF rfl rfl rfl) (by decide) (by rw [s_82]; rfl) (by decide) (fun _ => rfl) (fun _ => rfl) rfl d_Mo_init_55 ?_
  refine v_aload_n (pc := 58) hX rfl d_Mo_init_58 ?_
  refine v_iconst (pc := 59) (v := 4) hX (by decide) d_Mo_init_59 ?_
  refine w_newarr (pc := 60) (r := 44) (N := 4) (G' := g_84) hX f_83 (by decide) (by decide) (by decide) (by rw [s_83]; rfl) ⟨by rw [n_83.1]; exact Nat.le_of_ble_eq_true rfl, by rw [n_83.2]; exact Nat.le_of_ble_eq_true rfl⟩ rfl d_Mo_init_60 ?_
  refine w_putF (pc := 62) (G' := g_85) hX hI fl_Mo_31 rfl (finF rfl rfl rfl) (by decide) (by rw [s_84]; rfl) (by decide) (fun _ => rfl) (fun _ => rfl) rfl d_Mo_init_62 ?_
  refine v_aload_n (pc := 65) hX rfl d_Mo_init_65 ?_
  refine v_iconst (pc := 66) (v := 4) hX (by decide) d_Mo_init_66 ?_
  refine w_newarr (pc := 67) (r := 45) (N := 4) (G' := g_86) hX f_85 (by decide) (by decide) (by decide) (by rw [s_85]; rfl) ⟨by rw [n_85.1]; exact Nat.le_of_ble_eq_true rfl, by rw [n_85.2]; exact Nat.le_of_ble_eq_true rfl⟩ rfl d_Mo_init_67 ?_
  refine w_putF (pc := 69) (G' := g_87) hX hI fl_Mo_34 rfl (finF rfl rfl rfl) (by decide) (by rw [s_86]; rfl) (by decide) (fun _ => rfl) (fun _ => rfl) rfl d_Mo_init_69 ?_
  refine v_aload_n (pc := 72) hX rfl d_Mo_init_72 ?_
  refine v_bipush (pc := 73) (v := 6) hX (by decide) d_Mo_init_73 ?_
  refine w_newarr (pc := 75) (r := 46) (N := 6) (G' := g_88) hX f_87 (by decide) (by decide) (by decide) (by rw [s_87]; rfl) ⟨by rw [n_87.1]; exact Nat.le_of_ble_eq_true rfl, by rw [n_87.2]; exact Nat.le_of_ble_eq_true rfl⟩ rfl d_Mo_init_75 ?_
  refine w_putF (pc := 77) (G' := g_89) hX hI fl_Mo_37 rfl (finF rfl rfl rfl) (by decide) (by rw [s_88]; rfl) (by decide) (fun _ => rfl) (fun _ => rfl) rfl d_Mo_init_77 ?_
  refine v_aload_n (pc := 80) hX rfl d_Mo_init_80 ?_
  refine v_bipush (pc := 81) (v := 6) hX (by decide) d_Mo_init_81 ?_
  refine w_newarr (pc := 83) (r := 47) (N := 6) (G' := g_90) hX f_89 (by decide) (by decide) (by decide) (by rw [s_89]; rfl) ⟨by rw [n_89.1]; exact Nat.le_of_ble_eq_true rfl, by rw [n_89.2]; exact Nat.le_of_ble_eq_true rfl⟩ rfl d_Mo_init_83 ?_
  refine w_putF (pc := 85) (G' := g_91) hX hI fl_Mo_40 rfl (finF rfl rfl rfl) (by decide) (by rw [s_90]; rfl) (by decide) (fun _ => rfl) (fun _ => rfl) rfl d_Mo_init_85 ?_
  refine v_aload_n (pc := 88) hX rfl d_Mo_init_88 ?_
  refine v_bipush (pc := 89) (v := 6) hX (by decide) d_Mo_init_89 ?_
  refine w_newarr (pc := 91) (r := 48) (N := 6) (G' := g_92) hX f_91 (by decide) (by decide) (by decide) (by rw [s_91]; rfl) ⟨by rw [n_91.1]; exact Nat.le_of_ble_eq_true rfl, by rw [n_91.2]; exact Nat.le_of_ble_eq_true rfl⟩ rfl d_Mo_init_91 ?_
  refine w_putF (pc := 93) (G' := g_93) hX hI fl_Mo_43 rfl (finF rfl rfl rfl) (by decide) (by rw [s_92]; rfl) (by decide) (fun _ => rfl) (fun _ => rfl) rfl d_Mo_init_93 ?_
  refine v_aload_n (pc := 96) hX rfl d_Mo_init_96 ?_
  refine v_bipush (pc := 97) (v := 6) hX (by decide) d_Mo_init_97 ?_
  refine w_newarr (pc := 99) (r := 49) (N := 6) (G' := g_94) hX f_93 (by decide) (by decide) (by decide) (by rw [s_93]; rfl) ⟨by rw [n_93.1]; exact Nat.le_of_ble_eq_true rfl, by rw [n_93.2]; exact Nat.le_of_ble_eq_true rfl⟩ rfl d_Mo_init_99 ?_
  refine w_putF (pc := 101) (G' := g_95) hX hI fl_Mo_46 rfl (finF rfl rfl rfl) (by decide) (by rw [s_94]; rfl) (by decide) (fun _ => rfl) (fun _ => rfl) rfl d_Mo_init_101 ?_
  refine v_aload_n (pc := 104) hX rfl d_Mo_init_104 ?_
  refine v_bipush (pc := 105) (v := 6) hX (by decide) d_Mo_init_105 ?_
  refine w_newarr (pc := 107) (r := 50) (N := 6) (G' := g_96) hX f_95 (by decide) (by decide) (by decide) (by rw [s_95]; rfl) ⟨by rw [n_95.1]; exact Nat.le_of_ble_eq_true rfl, by rw [n_95.2]; exact Nat.le_of_ble_eq_true rfl⟩ rfl d_Mo_init_107 ?_
  refine w_putF (pc := 109) (G' := g_97) hX hI fl_Mo_49 rfl (finF rfl rfl rfl) (by decide) (by rw [s_96]; rfl) (by decide) (fun _ => rfl) (fun _ => rfl) rfl d_Mo_init_109 ?_
  refine v_aload_n (pc := 112) hX rfl d_Mo_init_112 ?_
  refine v_iconst (pc := 113) (v := 4) hX (by decide) d_Mo_init_113 ?_
  refine w_newarr (pc := 114) (r := 51) (N := 4) (G' := g_98) hX f_97 (by decide) (by decide) (by decide) (by rw [s_97]; rfl) ⟨by rw [n_97.1]; exact Nat.le_of_ble_eq_true rfl, by rw [n_97.2]; exact Nat.le_of_ble_eq_true rfl⟩ rfl d_Mo_init_114 ?_
  refine w_putF (pc := 116) (G' := g_99) hX hI fl_Mo_52 rfl (finF rfl rfl rfl) (by decide) (by rw [s_98]; rfl) (by decide) (fun _ => rfl) (fun _ => rfl) rfl d_Mo_init_116 ?_
  refine v_aload_n (pc := 119) hX rfl d_Mo_init_119 ?_
  refine v_iconst (pc := 120) (v := 4) hX (by decide) d_Mo_init_120 ?_
  refine w_newarr (pc := 121) (r := 52) (N := 4) (G' := g_100) hX f_99 (by decide) (by decide) (by decide) (by rw [s_99]; rfl) ⟨by rw [n_99.1]; exact Nat.le_of_ble_eq_true rfl, by rw [n_99.2]; exact Nat.le_of_ble_eq_true rfl⟩ rfl d_Mo_init_121 ?_
  refine w_putF (pc := 123) (G' := g_101) hX hI fl_Mo_55 rfl (finF rfl rfl rfl) (by decide) (by rw [s_100]; rfl) (by decide) (fun _ => rfl) (fun _ => rfl) rfl d_Mo_init_123 ?_
  refine v_aload_n (pc := 126) hX rfl d_Mo_init_126 ?_
  refine v_iconst (pc := 127) (v := 4) hX (by decide) d_Mo_init_127 ?_
  refine w_newarr (pc := 128) (r := 53) (N := 4) (G' := g_102) hX f_101 (by decide) (by decide) (by decide) (by rw [s_101]; rfl) ⟨by rw [n_101.1]; exact Nat.le_of_ble_eq_true rfl, by rw [n_101.2]; exact Nat.le_of_ble_eq_true rfl⟩ rfl d_Mo_init_128 ?_
  refine w_putF (pc := 130) (G' := g_103) hX hI fl_Mo_58 rfl (finF rfl rfl rfl) (by decide) (by rw [s_102]; rfl) (by decide) (fun _ => rfl) (fun _ => rfl) rfl d_Mo_init_130 ?_
  refine v_aload_n (pc := 133) hX rfl d_Mo_init_133 ?_
  refine v_bipush (pc := 134) (v := 6) hX (by decide) d_Mo_init_134 ?_
  refine w_newarr (pc := 136) (r := 54) (N := 6) (G' := g_104) hX f_103 (by decide) (by decide) (by decide) (by rw [s_103]; rfl) ⟨by rw [n_103.1]; exact Nat.le_of_ble_eq_true rfl, by rw [n_103.2]; exact Nat.le_of_ble_eq_true rfl⟩ rfl d_Mo_init_136 ?_
  refine w_putF (pc := 138) (G' := g_105) hX hI fl_Mo_61 rfl (finF rfl rfl rfl) (by decide) (by rw [s_104]; rfl) (by decide) (fun _ => rfl) (fun _ => rfl) rfl d_Mo_init_138 ?_
  refine v_aload_n (pc := 141) hX rfl d_Mo_init_141 ?_
  refine v_iconst (pc := 142) (v := 4) hX (by decide) d_Mo_init_142 ?_
  refine w_newarr (pc := 143) (r := 55) (N := 4) (G' := g_106) hX f_105 (by decide) (by decide) (by decide) (by rw [s_105]; rfl) ⟨by rw [n_105.1]; exact Nat.le_of_ble_eq_true rfl, by rw [n_105.2]; exact Nat.le_of_ble_eq_true rfl⟩ rfl d_Mo_init_143 ?_
  refine w_putF (pc := 145) (G' := g_107) hX hI fl_Mo_64 rfl (finF rfl rfl rfl) (by decide) (by rw [s_106]; rfl) (by decide) (fun _ => rfl) (fun _ => rfl) rfl d_Mo_init_145 ?_
  refine v_aload_n (pc := 148) hX rfl d_Mo_init_148 ?_
  refine v_bipush (pc := 149) (v := 7) hX (by decide) d_Mo_init_149 ?_
  refine w_newarr (pc := 151) (r := 56) (N := 7) (G' := g_108) hX f_107 (by decide) (by decide) (by decide) (by rw [s_107]; rfl) ⟨by rw [n_107.1]; exact Nat.le_of_ble_eq_true rfl, by rw [n_107.2]; exact Nat.le_of_ble_eq_true rfl⟩ rfl d_Mo_init_151 ?_
  refine w_putF (pc := 153) (G' := g_109) hX hI fl_Mo_67 rfl (finF rfl rfl rfl) (by decide) (by rw [s_108]; rfl) (by decide) (fun _ => rfl) (fun _ => rfl) rfl d_Mo_init_153 ?_
  refine v_aload_n (pc := 156) hX rfl d_Mo_init_156 ?_
  refine v_bipush (pc := 157) (v := 8) hX (by decide) d_Mo_init_157 ?_
  refine w_newarr (pc := 159) (r := 57) (N := 8) (G' := g_110) hX f_109 (by decide) (by decide) (by decide) (by rw [s_109]; rfl) ⟨by rw [n_109.1]; exact Nat.le_of_ble_eq_true rfl, by rw [n_109.2]; exact Nat.le_of_ble_eq_true rfl⟩ rfl d_Mo_init_159 ?_
  refine w_putF (pc := 161) (G' := g_111) hX hI fl_Mo_70 rfl (finF rfl rfl rfl) (by decide) (by rw [s_110]; rfl) (by decide) (fun _ => rfl) (fun _ => rfl) rfl d_Mo_init_161 ?_
  refine v_aload_n (pc := 164) hX rfl d_Mo_init_164 ?_
  refine v_bipush (pc := 165) (v := 8) hX (by decide) d_Mo_init_165 ?_
  refine w_newarr (pc := 167) (r := 58) (N := 8) (G' := g_112) hX f_111 (by decide) (by decide) (by decide) (by rw [s_111]; rfl) ⟨by rw [n_111.1]; exact Nat.le_of_ble_eq_true rfl, by rw [n_111.2]; exact Nat.le_of_ble_eq_true rfl⟩ rfl d_Mo_init_167 ?_
  refine w_putF (pc := 169) (G' := g_113) hX hI fl_Mo_73 rfl (finF rfl rfl rfl) (by decide) (by rw [s_112]; rfl) (by decide) (fun _ => rfl) (fun _ => rfl) rfl d_Mo_init_169 ?_
  refine v_aload_n (pc := 172) hX rfl d_Mo_init_172 ?_
  refine v_bipush (pc := 173) (v := 8) hX (by decide) d_Mo_init_173 ?_
  refine w_newarr (pc := 175) (r := 59) (N := 8) (G' := g_114) hX f_113 (by decide) (by decide) (by decide) (by rw [s_113]; rfl) ⟨by rw [n_113.1]; exact Nat.le_of_ble_eq_true rfl, by rw [n_113.2]; exact Nat.le_of_ble_eq_true rfl⟩ rfl d_Mo_init_175 ?_
  refine w_putF (pc := 177) (G' := g_115) hX hI fl_Mo_76 rfl (finF rfl rfl rfl) (by decide) (by rw [s_114]; rfl) (by decide) (fun _ => rfl) (fun _ => rfl) rfl d_Mo_init_177 ?_
  refine v_aload_n (pc := 180) hX rfl d_Mo_init_180 ?_
  refine v_iconst (pc := 181) (v := 4) hX (by decide) d_Mo_init_181 ?_
  refine w_newarr (pc := 182) (r := 60) (N := 4) (G' := g_116) hX f_115 (by decide) (by decide) (by decide) (by rw [s_115]; rfl) ⟨by rw [n_115.1]; exact Nat.le_of_ble_eq_true rfl, by rw [n_115.2]; exact Nat.le_of_ble_eq_true rfl⟩ rfl d_Mo_init_182 ?_
  refine w_putF (pc := 184) (G' := g_117) hX hI fl_Mo_79 rfl (finF rfl rfl rfl) (by decide) (by rw [s_116]; rfl) (by decide) (fun _ => rfl) (fun _ => rfl) rfl d_Mo_init_184 ?_
  refine v_aload_n (pc := 187) hX rfl d_Mo_init_187 ?_
  refine v_iconst (pc := 188) (v := 4) hX (by decide) d_Mo_init_188 ?_
  refine w_newarr (pc := 189) (r := 61) (N := 4) (G' := g_118) hX f_117 (by decide) (by decide) (by decide) (by rw [s_117]; rfl) ⟨by rw [n_117.1]; exact Nat.le_of_ble_eq_true rfl, by rw [n_117.2]; exact Nat.le_of_ble_eq_true rfl⟩ rfl d_Mo_init_189 ?_
  refine w_putF (pc := 191) (G' := g_119) hX hI fl_Mo_82 rfl (finF rfl rfl rfl) (by decide) (by rw [s_118]; rfl) (by decide) (fun _ => rfl) (fun _ => rfl) rfl d_Mo_init_191 ?_
  refine v_aload_n (pc := 194) hX rfl d_Mo_init_194 ?_
  refine v_sipush (pc := 195) (v := 240) hX (by decide) d_Mo_init_195 ?_
  refine w_newarr (pc := 198) (r := 62) (N := 240) (G' := g_120) hX f_119 (by decide) (by decide) (by decide) (by rw [s_119]; rfl) ⟨by rw [n_119.1]; exact Nat.le_of_ble_eq_true rfl, by rw [n_119.2]; exact Nat.le_of_ble_eq_true rfl⟩ rfl d_Mo_init_198 ?_
  refine w_putF (pc := 200) (G' := g_121) hX hI fl_Mo_85 rfl (finF rfl rfl rfl) (by decide) (by rw [s_120]; rfl) (by decide) (fun _ => rfl) (fun _ => rfl) rfl d_Mo_init_200 ?_
  refine v_aload_n (pc := 203) hX rfl d_Mo_init_203 ?_
  refine v_bipush (pc := 204) (v := 60) hX (by decide) d_Mo_init_204 ?_
  refine w_newarr (pc := 206) (r := 63) (N := 60) (G' := g_122) hX f_121 (by decide) (by decide) (by decide) (by rw [s_121]; rfl) ⟨by rw [n_121.1]; exact Nat.le_of_ble_eq_true rfl, by rw [n_121.2]; exact Nat.le_of_ble_eq_true rfl⟩ rfl d_Mo_init_206 ?_
  refine w_putF (pc := 208) (G' := g_123) hX hI fl_Mo_88 rfl (finF rfl rfl rfl) (by decide) (by rw [s_122]; rfl) (by decide) (fun _ => rfl) (fun _ => rfl) rfl d_Mo_init_208 ?_
  refine v_iconst (pc := 211) (v := 0) hX (by decide) d_Mo_init_211 ?_
  refine v_istore_n (pc := 212) (lo' := [some (vR 36), some (vI (0))]) hX (by decide) rfl d_Mo_init_212 ?_
  refine v_iload_n (pc := 213) hX rfl d_Mo_init_213 ?_
  refine v_iconst (pc := 214) (v := 4) hX (by decide) d_Mo_init_214 ?_
  refine v_icmp_ge (pc := 215) (tgt := 231) hX d_Mo_init_215 rfl (fun hc => absurd hc (by decide)) (fun _ => ?_)
  refine v_aload_n (pc := 218) hX rfl d_Mo_init_218 ?_
  refine w_getR (pc := 219) (v := 60) hX fl_Mo_79 rfl (by decide) (by rw [s_123]; rfl) rfl d_Mo_init_219 ?_
  refine v_iload_n (pc := 222) hX rfl d_Mo_init_222 ?_
  refine v_iconst (pc := 223) (v := -1) hX (by decide) d_Mo_init_223 ?_
  refine w_iast (pc := 224) (n := 4) (j := 0) (G' := g_124) hX (by decide) (by rw [s_123]; rfl) (by unfold vp_in; decide) (by decide) rfl d_Mo_init_224 ?_
  refine v_iinc (pc := 225) (lo' := [some (vR 36), some (vI (1))]) hX rfl rfl d_Mo_init_225 ?_
  refine v_goto (pc := 228) (tgt := 213) hX d_Mo_init_228 rfl ?_
  refine v_iload_n (pc := 213) hX rfl d_Mo_init_213 ?_
  refine v_iconst (pc := 214) (v := 4) hX (by decide) d_Mo_init_214 ?_
  refine v_icmp_ge (pc := 215) (tgt := 231) hX d_Mo_init_215 rfl (fun hc => absurd hc (by decide)) (fun _ => ?_)
  refine v_aload_n (pc := 218) hX rfl d_Mo_init_218 ?_
  refine w_getR (pc := 219) (v := 60) hX fl_Mo_79 rfl (by decide) (by rw [s_124]; rfl) rfl d_Mo_init_219 ?_
  refine v_iload_n (pc := 222) hX rfl d_Mo_init_222 ?_
  refine v_iconst (pc := 223) (v := -1) hX (by decide) d_Mo_init_223 ?_
  refine w_iast (pc := 224) (n := 4) (j := 1) (G' := g_125) hX (by decide) (by rw [s_124]; rfl) (by unfold vp_in; decide) (by decide) rfl d_Mo_init_224 ?_
  refine v_iinc (pc := 225) (lo' := [some (vR 36), some (vI (2))]) hX rfl rfl d_Mo_init_225 ?_
  refine v_goto (pc := 228) (tgt := 213) hX d_Mo_init_228 rfl ?_
  refine v_iload_n (pc := 213) hX rfl d_Mo_init_213 ?_
  refine v_iconst (pc := 214) (v := 4) hX (by decide) d_Mo_init_214 ?_
  refine v_icmp_ge (pc := 215) (tgt := 231) hX d_Mo_init_215 rfl (fun hc => absurd hc (by decide)) (fun _ => ?_)
  refine v_aload_n (pc := 218) hX rfl d_Mo_init_218 ?_
  refine w_getR (pc := 219) (v := 60) hX fl_Mo_79 rfl (by decide) (by rw [s_125]; rfl) rfl d_Mo_init_219 ?_
  refine v_iload_n (pc := 222) hX rfl d_Mo_init_222 ?_
  refine v_iconst (pc := 223) (v := -1) hX (by decide) d_Mo_init_223 ?_
  refine w_iast (pc := 224) (n := 4) (j := 2) (G' := g_126) hX (by decide) (by rw [s_125]; rfl) (by unfold vp_in; decide) (by decide) rfl d_Mo_init_224 ?_
  refine v_iinc (pc := 225) (lo' := [some (vR 36), some (vI (3))]) hX rfl rfl d_Mo_init_225 ?_
  refine v_goto (pc := 228) (tgt := 213) hX d_Mo_init_228 rfl ?_
  refine v_iload_n (pc := 213) hX rfl d_Mo_init_213 ?_
  refine v_iconst (pc := 214) (v := 4) hX (by decide) d_Mo_init_214 ?_
  refine v_icmp_ge (pc := 215) (tgt := 231) hX d_Mo_init_215 rfl (fun hc => absurd hc (by decide)) (fun _ => ?_)
  refine v_aload_n (pc := 218) hX rfl d_Mo_init_218 ?_
  refine w_getR (pc := 219) (v := 60) hX fl_Mo_79 rfl (by decide) (by rw [s_126]; rfl) rfl d_Mo_init_219 ?_
  refine v_iload_n (pc := 222) hX rfl d_Mo_init_222 ?_
  refine v_iconst (pc := 223) (v := -1) hX (by decide) d_Mo_init_223 ?_
  refine w_iast (pc := 224) (n := 4) (j := 3) (G' := g_127) hX (by decide) (by rw [s_126]; rfl) (by unfold vp_in; decide) (by decide) rfl d_Mo_init_224 ?_
  refine v_iinc (pc := 225) (lo' := [some (vR 36), some (vI (4))]) hX rfl rfl d_Mo_init_225 ?_
  refine v_goto (pc := 228) (tgt := 213) hX d_Mo_init_228 rfl ?_
  refine v_iload_n (pc := 213) hX rfl d_Mo_init_213 ?_
  refine v_iconst (pc := 214) (v := 4) hX (by decide) d_Mo_init_214 ?_
  refine v_icmp_ge (pc := 215) (tgt := 231) hX d_Mo_init_215 rfl (fun _ => ?_) (fun hc => absurd (by decide) hc)
  exact v_vret (pc := 231) hX hR (by rw [n_127.1, n_69.1]) (by rw [n_127.2, n_69.2]) ⟨rfl, rfl⟩ d_Mo_init_231
-- the heap behind both constructors
def SH : List (Nat × Nat) := [(1, 0), (1, 0), (0, 8), (0, 6), (3, 6), (2, 4), (0, 1), (0, 1), (0, 1), (0, 1), (0, 1), (0, 1), (0, 0), (0, 0), (0, 0), (0, 0), (0, 3), (1, 6), (1, 4), (0, 4), (1, 6), (1, 4), (0, 2), (1, 8), (1, 8), (1, 8), (0, 7), (7, 4), (0, 5), (1, 60), (0, 5), (1, 60), (0, 5), (1, 60), (0, 5), (1, 60), (0, 9), (1, 6), (1, 6), (1, 6), (1, 6), (1, 6), (1, 4), (1, 4), (1, 4), (1, 4), (1, 6), (1, 6), (1, 6), (1, 6), (1, 6), (1, 4), (1, 4), (1, 4), (1, 6), (1, 4), (1, 7), (1, 8), (1, 8), (1, 8), (1, 4), (1, 4), (1, 240), (1, 60)]
def NF : NN := g_127.2.1
def M0 : MM := g_127.2.2
abbrev gM (M : MM) : GG := (SH, NF, M)
theorem g_end : g_127 = gM M0 := by rw [show g_127 = (g_127.1, g_127.2.1, g_127.2.2) from rfl, s_127]; rfl
theorem nf_2_0 : NF 2 0 = 3 := by decide +kernel
theorem nf_2_1 : NF 2 1 = 16 := by decide +kernel
theorem nf_2_2 : NF 2 2 = 19 := by decide +kernel
theorem nf_2_3 : NF 2 3 = 22 := by decide +kernel
theorem nf_2_4 : NF 2 4 = 26 := by decide +kernel
theorem nf_2_5 : NF 2 5 = 27 := by decide +kernel
theorem nf_3_0 : NF 3 0 = 4 := by decide +kernel
theorem nf_3_1 : NF 3 1 = 5 := by decide +kernel
theorem nf_4_0 : NF 4 0 = 6 := by decide +kernel
theorem nf_4_1 : NF 4 1 = 7 := by decide +kernel
theorem nf_4_2 : NF 4 2 = 8 := by decide +kernel
theorem nf_4_3 : NF 4 3 = 9 := by decide +kernel
theorem nf_4_4 : NF 4 4 = 10 := by decide +kernel
theorem nf_4_5 : NF 4 5 = 11 := by decide +kernel
theorem nf_5_0 : NF 5 0 = 12 := by decide +kernel
theorem nf_5_1 : NF 5 1 = 13 := by decide +kernel
theorem nf_5_2 : NF 5 2 = 14 := by decide +kernel
theorem nf_5_3 : NF 5 3 = 15 := by decide +kernel
theorem nf_16_0 : NF 16 0 = 17 := by decide +kernel
theorem nf_16_1 : NF 16 1 = 18 := by decide +kernel
theorem nf_19_0 : NF 19 0 = 20 := by decide +kernel
theorem nf_19_1 : NF 19 1 = 21 := by decide +kernel
theorem nf_22_0 : NF 22 0 = 23 := by decide +kernel
theorem nf_22_1 : NF 22 1 = 24 := by decide +kernel
theorem nf_22_2 : NF 22 2 = 25 := by decide +kernel
theorem nf_27_0 : NF 27 0 = 28 := by decide +kernel
theorem nf_27_1 : NF 27 1 = 30 := by decide +kernel
theorem nf_27_2 : NF 27 2 = 32 := by decide +kernel
theorem nf_27_3 : NF 27 3 = 34 := by decide +kernel
theorem nf_28_0 : NF 28 0 = 29 := by decide +kernel
theorem nf_30_0 : NF 30 0 = 31 := by decide +kernel
theorem nf_32_0 : NF 32 0 = 33 := by decide +kernel
theorem nf_34_0 : NF 34 0 = 35 := by decide +kernel
theorem nf_36_2 : NF 36 2 = 37 := by decide +kernel
theorem nf_36_3 : NF 36 3 = 38 := by decide +kernel
theorem nf_36_4 : NF 36 4 = 39 := by decide +kernel
theorem nf_36_5 : NF 36 5 = 40 := by decide +kernel
theorem nf_36_6 : NF 36 6 = 41 := by decide +kernel
theorem nf_36_8 : NF 36 8 = 42 := by decide +kernel
theorem nf_36_9 : NF 36 9 = 43 := by decide +kernel
theorem nf_36_10 : NF 36 10 = 44 := by decide +kernel
theorem nf_36_11 : NF 36 11 = 45 := by decide +kernel
theorem nf_36_15 : NF 36 15 = 46 := by decide +kernel
theorem nf_36_16 : NF 36 16 = 47 := by decide +kernel
theorem nf_36_17 : NF 36 17 = 48 := by decide +kernel
theorem nf_36_18 : NF 36 18 = 49 := by decide +kernel
theorem nf_36_19 : NF 36 19 = 50 := by decide +kernel
theorem nf_36_20 : NF 36 20 = 51 := by decide +kernel
theorem nf_36_21 : NF 36 21 = 52 := by decide +kernel
theorem nf_36_22 : NF 36 22 = 53 := by decide +kernel
theorem nf_36_23 : NF 36 23 = 54 := by decide +kernel
theorem nf_36_24 : NF 36 24 = 55 := by decide +kernel
theorem nf_36_25 : NF 36 25 = 56 := by decide +kernel
theorem nf_36_28 : NF 36 28 = 57 := by decide +kernel
theorem nf_36_29 : NF 36 29 = 58 := by decide +kernel
theorem nf_36_30 : NF 36 30 = 59 := by decide +kernel
theorem nf_36_31 : NF 36 31 = 60 := by decide +kernel
theorem nf_36_32 : NF 36 32 = 61 := by decide +kernel
theorem nf_36_33 : NF 36 33 = 62 := by decide +kernel
theorem nf_36_34 : NF 36 34 = 63 := by decide +kernel
