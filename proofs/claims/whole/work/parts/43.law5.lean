/-! The law: from its entry. -/
theorem L_first {X : CX} {L : Nat} {xs : Nat → Int32} (hX : CLw X) (hS : SX X L xs) (hL : L ≤ 384) (hend : ∀ t M, VW X 1352 (loL t) [vI 1] (gM M)) : VW X 0 [some (vR 1), none, none, none] [] g_0 := by
  refine w_new (pc := 0) (r := 2) (G' := g_1) hX f_0 cl_La_7 io_LJ ii_LJ rfl (by rw [s_0]; rfl) ⟨by rw [n_0.1]; exact (Nat.le_of_ble_eq_true rfl), by rw [n_0.2]; exact (Nat.le_of_ble_eq_true rfl)⟩ rfl d_La_law_0 ?_
  refine v_dup (pc := 3) hX rfl d_La_law_3 ?_
  refine v_callI (pc := 4) (as := []) hX k_LJ_init rfl ki_LJ_init ml_La_9 C_LJ_init_1 (by decide) rfl rfl rfl ⟨(Nat.le_of_ble_eq_true rfl), (Nat.le_of_ble_eq_true rfl), (Nat.le_of_ble_eq_true rfl), by rw [n_1.1]; exact (Nat.le_of_ble_eq_true rfl), by rw [n_1.2]; exact (Nat.le_of_ble_eq_true rfl)⟩ (fun r G' h => by rw [h.2, n_68.1, n_68.2, n_1.1, n_1.2]; exact ⟨rfl, rfl⟩) d_La_law_4 (fun r G' h => ?_)
  obtain ⟨rfl, rfl⟩ := h
  refine VW.cast (lo' := [some (vR 1), none, none, none]) (st' := [vR 2]) (G' := g_68) rfl rfl rfl ?_
  refine v_astore_n (pc := 7) (lo' := [some (vR 1), some (vR 2), none, none]) hX (Nat.le_of_ble_eq_true rfl) rfl d_La_law_7 ?_
  refine w_new (pc := 8) (r := 36) (G' := g_69) hX f_68 cl_La_10 io_Mo ii_Mo rfl (by rw [s_68]; rfl) ⟨by rw [n_68.1]; exact (Nat.le_of_ble_eq_true rfl), by rw [n_68.2]; exact (Nat.le_of_ble_eq_true rfl)⟩ rfl d_La_law_8 ?_
  refine v_dup (pc := 11) hX rfl d_La_law_11 ?_
  refine v_callI (pc := 12) (as := []) hX k_Mo_init rfl ki_Mo_init ml_La_12 C_Mo_init_1 (by decide) rfl rfl rfl ⟨(Nat.le_of_ble_eq_true rfl), (Nat.le_of_ble_eq_true rfl), (Nat.le_of_ble_eq_true rfl), by rw [n_69.1]; exact (Nat.le_of_ble_eq_true rfl), by rw [n_69.2]; exact (Nat.le_of_ble_eq_true rfl)⟩ (fun r G' h => by rw [h.2, n_127.1, n_127.2, n_69.1, n_69.2]; exact ⟨rfl, rfl⟩) d_La_law_12 (fun r G' h => ?_)
  obtain ⟨rfl, rfl⟩ := h
  refine VW.cast (lo' := [some (vR 1), some (vR 2), none, none]) (st' := [vR 36]) (G' := g_127) rfl rfl rfl ?_
  refine v_astore_n (pc := 15) (lo' := [some (vR 1), some (vR 2), some (vR 36), none]) hX (Nat.le_of_ble_eq_true rfl) rfl d_La_law_15 ?_
  refine v_iconst (pc := 16) (v := 0) hX (by decide) d_La_law_16 ?_
  refine v_istore_n (pc := 17) (lo' := [some (vR 1), some (vR 2), some (vR 36), some (vI 0)]) hX (Nat.le_of_ble_eq_true rfl) rfl d_La_law_17 ?_
  refine VW.cast (lo' := loL 0) (st' := []) (G' := gM M0) rfl rfl g_end.symm ?_
  exact L_loop hX hS hL hend L 0 (by omega) (by omega) M0 INV_0
