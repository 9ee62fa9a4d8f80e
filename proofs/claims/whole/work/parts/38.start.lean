/-! The start. -/
theorem m0_3_2 : M0 3 2 = 0 := by decide +kernel
theorem m0_3_3 : M0 3 3 = 0 := by decide +kernel
theorem m0_22_3 : M0 22 3 = 0 := by decide +kernel
theorem m0_26_0 : M0 26 0 = 0 := by decide +kernel
theorem m0_2_6 : M0 2 6 = 0 := by decide +kernel
theorem m0_36_1 : M0 36 1 = 0 := by decide +kernel
theorem m0_36_7 : M0 36 7 = 0 := by decide +kernel
theorem m0_36_27 : M0 36 27 = 0 := by decide +kernel
theorem m0_36_35 : M0 36 35 = 0 := by decide +kernel
theorem m0_36_0 : M0 36 0 = 0 := by decide +kernel
theorem m0_sh : ∀ k, k < 4 → M0 (28 + 2 * k) 1 = 0 := by decide +kernel
theorem m0_sz : ∀ k, k < 4 → M0 60 k = -1 := by decide +kernel
theorem INV_0 : INV M0 := by
  refine ⟨0, 0, fun _ _ => 0, fun _ _ => 0, fun _ => 0, fun _ => 0, fun _ _ => 0, 0, fun _ => 0, fun _ _ => 0, 0, 0, ⟨⟨by omega, m0_3_2, fun j hj => by omega⟩, ⟨by omega, m0_3_3, fun j hj => by omega⟩, fun k hk => ⟨Nat.zero_le _, fun _ => m0_sh k hk, fun w => absurd rfl w⟩, ⟨by omega, m0_22_3, fun x hx => by omega⟩, m0_26_0, m0_2_6⟩, ⟨⟨by omega, m0_36_1, fun j hj => by omega, fun j hj => by omega⟩, ⟨by omega, m0_36_7, fun j hj => by omega, fun j hj => by omega⟩, fun k hk => ⟨Nat.zero_le _, m0_sz k hk, fun w => absurd rfl w⟩, ⟨by omega, m0_36_27, fun x hx => by omega, fun x hx => by omega⟩, m0_36_35, m0_36_0⟩, ⟨⟨fun _ => 0, fun j hj => by omega⟩, fun j hj => by omega, fun j hj => by omega, fun k hk w => absurd rfl w⟩⟩
