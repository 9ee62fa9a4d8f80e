/-! The start: what the tables' words say of classes and rows. -/
theorem ar_int {s : State} {args : Array Value} (h : (Cond.arrayClass .int).before args s = true) : ∃ cA : ClassId, ArrOfT s cA .int ∧ va_RA s cA .int := by
  obtain ⟨c, k, comp, h1, h2, h3⟩ := Cond.arrayClass_spec h
  exact ⟨c, fun n z => ⟨fun k h => (by cases h), k, h2, comp, h3⟩, h1⟩
theorem ar_obj {s : State} {args : Array Value} {C : String} (h : (Cond.arrayOver (.object C)).before args s = true) : ∃ cA : ClassId, ArrOfT s cA (.object C) ∧ va_RA s cA (.object C) ∧ va_AO C s := by
  obtain ⟨comp, c, k, h1, h2, h3, h4, h5⟩ := Cond.arrayOver_spec h
  exact ⟨c, fun n z => ⟨fun k h => (by cases h), k, h3, comp, h4⟩, ⟨k, comp, h3, h4, h1, h5⟩, va_AO.of h⟩
theorem kn_of {s : State} {args : Array Value} (hg : ∀ w ∈ GW, w.before args s = true) (k : Nat) : ∃ r : ClassId × (Nat → Nat), ∀ q : vw_C, CL[k]? = some q → u_Kn s q.1 q.2.1 q.2.2 r.1 r.2 := by
  match k with
  | 0 => obtain ⟨c, i, h⟩ := u_known hg in_De (hg _ io_De); exact ⟨(c, i), fun q hq => by cases hq; exact h⟩
  | 1 => obtain ⟨c, i, h⟩ := u_known hg in_Ja (hg _ io_Ja); exact ⟨(c, i), fun q hq => by cases hq; exact h⟩
  | 2 => obtain ⟨c, i, h⟩ := u_known hg in_Re (hg _ io_Re); exact ⟨(c, i), fun q hq => by cases hq; exact h⟩
  | 3 => obtain ⟨c, i, h⟩ := u_known hg in_Sa (hg _ io_Sa); exact ⟨(c, i), fun q hq => by cases hq; exact h⟩
  | 4 => obtain ⟨c, i, h⟩ := u_known hg in_Se (hg _ io_Se); exact ⟨(c, i), fun q hq => by cases hq; exact h⟩
  | 5 => obtain ⟨c, i, h⟩ := u_known hg in_Sh (hg _ io_Sh); exact ⟨(c, i), fun q hq => by cases hq; exact h⟩
  | 6 => obtain ⟨c, i, h⟩ := u_known hg in_Sp (hg _ io_Sp); exact ⟨(c, i), fun q hq => by cases hq; exact h⟩
  | 7 => obtain ⟨c, i, h⟩ := u_known hg in_Te (hg _ io_Te); exact ⟨(c, i), fun q hq => by cases hq; exact h⟩
  | 8 => obtain ⟨c, i, h⟩ := u_known hg in_LJ (hg _ io_LJ); exact ⟨(c, i), fun q hq => by cases hq; exact h⟩
  | 9 => obtain ⟨c, i, h⟩ := u_known hg in_Mo (hg _ io_Mo); exact ⟨(c, i), fun q hq => by cases hq; exact h⟩
  | n + 10 => obtain ⟨c, i, h⟩ := u_known hg in_De (hg _ io_De); exact ⟨(c, i), fun q hq => by simp [CL] at hq⟩
theorem KK_of {s : State} {args : Array Value} (hts : ∀ w ∈ lw_tbl, w.before args s = true) : ∃ (D : va_G) (cy : Nat → ClassId), KK D cy s := by
  have hg : ∀ w ∈ GW, w.before args s = true := fun w hw => hts w (GW_sub w hw)
  obtain ⟨f, hf⟩ : ∃ f : Nat → ClassId × (Nat → Nat), ∀ (k : Nat) (q : vw_C), CL[k]? = some q → u_Kn s q.1 q.2.1 q.2.2 (f k).1 (f k).2 := ⟨fun k => Classical.choose (kn_of hg k), fun k => Classical.choose_spec (kn_of hg k)⟩
  obtain ⟨aI, i1, i2⟩ := ar_int (hg _ ac_int)
  obtain ⟨aD, d1⟩ := ar_obj (hts _ ao_De)
  obtain ⟨aJ, j1⟩ := ar_obj (hts _ ao_Ja)
  obtain ⟨aS, s1⟩ := ar_obj (hts _ ao_Sh)
  refine ⟨(fun k => (f k).1, fun k => (f k).2), fun k => match k with | 0 => aI | 1 => aD | 2 => aJ | _ => aS, ⟨fun c q hq => hf c q hq, fun k q h => by simp at h⟩, i1, i2, ?_, ?_⟩
  · intro c hc
    rcases hc with rfl | rfl | rfl
    · exact d1
    · exact j1
    · exact s1
  · exact List.forall_mem_cons.mpr ⟨va_Nw.of rfl (hts _ mn_Sh_36), List.forall_mem_cons.mpr ⟨va_Nw.of rfl (hts _ mn_Tx_28), List.forall_mem_cons.mpr ⟨va_Nw.of rfl (hts _ mn_Sp_29), List.forall_mem_cons.mpr ⟨va_Nw.of rfl (hts _ mn_Sa_18), List.forall_mem_cons.mpr ⟨va_Nw.of rfl (hts _ mn_Se_32), fun _ h => absurd h List.not_mem_nil⟩⟩⟩⟩⟩
theorem gm_C (M : MM) : gC (gM M) = 64 := (congrArg gC g_end.symm).trans n_127.1
theorem gm_S (M : MM) : gS (gM M) = 856 := (congrArg gS g_end.symm).trans n_127.2
