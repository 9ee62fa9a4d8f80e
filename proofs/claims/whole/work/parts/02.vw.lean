/-! The abstract frame: ints, longs and numbered cells; a walk over them (VW) that stands over the machine's (W). -/
abbrev AV : Type := Int32 ⊕ (Int64 ⊕ Nat)
abbrev vI (x : Int32) : AV := .inl x
abbrev vL (x : Int64) : AV := .inr (.inl x)
abbrev vR (r : Nat) : AV := .inr (.inr r)
abbrev MM : Type := Nat → Nat → Int32
abbrev NN : Type := Nat → Nat → Nat
abbrev GG : Type := List (Nat × Nat) × NN × MM
def cvR (z b r : Nat) : Value := if r = 0 then .null else if r = 1 then .ref b else .ref (z + (r - 2))
def cv (z b : Nat) (v : AV) : Value := match v with
  | .inl x => .int x
  | .inr (.inl x) => .long x
  | .inr (.inr r) => cvR z b r
def catA (v : AV) : Nat := match v with
  | .inr (.inl _) => 2
  | _ => 1
theorem cvR_or (z b r : Nat) : cvR z b r = .null ∨ ∃ a, cvR z b r = .ref a := by
  unfold cvR
  split
  · exact Or.inl rfl
  · split
    · exact Or.inr ⟨_, rfl⟩
    · exact Or.inr ⟨_, rfl⟩
theorem cvR_cat (z b r : Nat) : (cvR z b r).category = 1 := by
  rcases cvR_or z b r with h | ⟨a, h⟩ <;> rw [h] <;> rfl
theorem cv_cat (z b : Nat) (v : AV) : (cv z b v).category = catA v := by
  rcases v with x | x | r
  · rfl
  · rfl
  · exact cvR_cat z b r
theorem cvR_2 {z b r : Nat} (h : 2 ≤ r) : cvR z b r = .ref (z + (r - 2)) := by
  unfold cvR
  rw [if_neg (by omega), if_neg (by omega)]
theorem cvR_ne {z b r : Nat} (h : ¬ r = 0) : ∃ a, cvR z b r = .ref a := by
  unfold cvR
  rw [if_neg h]
  split
  · exact ⟨_, rfl⟩
  · exact ⟨_, rfl⟩
-- cells
def cN (ci : Nat) : Nat := match CL[ci]? with
  | some q => q.2.2
  | none => 0
def rsT (ci k : Nat) : Bool := (tyF ci k).isReference
def shS (s : Nat × Nat) : Nat := if s.1 = 0 then cN s.2 else s.2
def gC (G : GG) : Nat := G.1.length
def gS (G : GG) : Nat := (G.1.map shS).sum
def upM {α : Type} (M : Nat → Nat → α) (r k : Nat) (x : α) : Nat → Nat → α := fun a i => if a = r ∧ i = k then x else M a i
def sI (G : GG) (r k : Nat) (x : Int32) : GG := (G.1, G.2.1, upM G.2.2 r k x)
def sR (G : GG) (r k : Nat) (x : Nat) : GG := (G.1, upM G.2.1 r k x, G.2.2)
def pO (G : GG) (s : Nat × Nat) : GG := (G.1 ++ [s], (fun a i => if a = G.1.length then 0 else G.2.1 a i), fun a i => if a = G.1.length then 0 else G.2.2 a i)
def sV (z b : Nat) (G : GG) (ci r k : Nat) : Value := if rsT ci k = true then cvR z b (G.2.1 r k) else .int (G.2.2 r k)
def cA (z b : Nat) (D : va_G) (cy : Nat → ClassId) (G : GG) (r : Nat) (s : Nat × Nat) (H : Heap) : Prop :=
  (s.1 = 0 → ∃ q : vw_C, CL[s.2]? = some q ∧ t_OB (z + (r - 2)) (D.1 s.2) q.2.2 (D.2 s.2) H (sV z b G s.2 r)) ∧
  (s.1 = 1 → H[z + (r - 2)]? = some (arrV (cy 0) s.2 (fun j => .int (G.2.2 r j)))) ∧
  (2 ≤ s.1 → H[z + (r - 2)]? = some (arrV (cy (s.1 - 1)) s.2 (fun j => cvR z b (G.2.1 r j))))
def IH (z b : Nat) (D : va_G) (cy : Nat → ClassId) (G : GG) (H : Heap) : Prop :=
  H.size + 2 = z + G.1.length ∧ 2 ≤ G.1.length ∧ ∀ (r : Nat) (s : Nat × Nat), 2 ≤ r → G.1[r]? = some s → cA z b D cy G r s H
def NWs : List (String × Nat) := [("LastJars$Sheet", 36), ("LastJars$Text", 28), ("LastJars$Shop", 29), ("LastJars$Sales", 18), ("LastJars$Service", 32)]
def cNm (c : Nat) : String := match CL[c]? with
  | some q => q.1
  | none => ""
def KK (D : va_G) (cy : Nat → ClassId) (U : State) : Prop :=
  va_K D CL [] U ∧ ArrOfT U (cy 0) .int ∧ va_RA U (cy 0) .int ∧
  (∀ c, (c = 0 ∨ c = 1 ∨ c = 5) → ArrOfT U (cy (c + 1)) (.object (cNm c)) ∧ va_RA U (cy (c + 1)) (.object (cNm c)) ∧ va_AO (cNm c) U) ∧
  (∀ q ∈ NWs, va_Nw (.methodLinkNest q.1 q.2 y_LJ_isBelow "LastJars") U)
theorem KK.warm {D : va_G} {cy : Nat → ClassId} {s U : State} (h : KK D cy s) (hW : s.WarmedH U.vm) : KK D cy U :=
  ⟨h.1.moved hW.alike, arrOfT_moved hW.alike h.2.1, h.2.2.1.moved hW.alike, fun c hc => ⟨arrOfT_moved hW.alike (h.2.2.2.1 c hc).1, (h.2.2.2.1 c hc).2.1.moved hW.alike, (h.2.2.2.1 c hc).2.2.moved hW.alike⟩, fun q hq => va_Nw.warmM hW (h.2.2.2.2 q hq)⟩
theorem KK.same {D : va_G} {cy : Nat → ClassId} {s U : State} (h : KK D cy s) (e : s.vm = U.vm) : KK D cy U := by
  have ha : s.vm.Alike U.vm := by rw [e]; exact Vm.Alike.refl _
  exact ⟨h.1.moved ha, arrOfT_moved ha h.2.1, h.2.2.1.moved ha, fun c hc => ⟨arrOfT_moved ha (h.2.2.2.1 c hc).1, (h.2.2.2.1 c hc).2.1.moved ha, (h.2.2.2.1 c hc).2.2.moved ha⟩, fun q hq => va_Nw.same rfl e (h.2.2.2.2 q hq)⟩
-- locals
def asc (z b : Nat) : Nat → List (Option AV) → List (Nat × Value)
  | _, [] => []
  | i, none :: t => asc z b (i + 1) t
  | i, some v :: t => (i, cv z b v) :: asc z b (i + 1) t
theorem asc_mem {z b : Nat} : ∀ (lo : List (Option AV)) (i : Nat) (q : Nat × Value), q ∈ asc z b i lo ↔ ∃ k v, lo[k]? = some (some v) ∧ q = (i + k, cv z b v)
  | [], i, q => by simp [asc]
  | none :: t, i, q => by
    show q ∈ asc z b (i + 1) t ↔ _
    rw [asc_mem t (i + 1) q]
    constructor
    · rintro ⟨k, v, h1, h2⟩
      exact ⟨k + 1, v, by simpa using h1, by rw [h2]; congr 1; omega⟩
    · rintro ⟨k, v, h1, h2⟩
      cases k with
      | zero => simp at h1
      | succ k => exact ⟨k, v, by simpa using h1, by rw [h2]; congr 1; omega⟩
  | some w :: t, i, q => by
    show q ∈ (i, cv z b w) :: asc z b (i + 1) t ↔ _
    rw [List.mem_cons, asc_mem t (i + 1) q]
    constructor
    · rintro (h | ⟨k, v, h1, h2⟩)
      · exact ⟨0, w, by simp, by rw [h]; rfl⟩
      · exact ⟨k + 1, v, by simpa using h1, by rw [h2]; congr 1; omega⟩
    · rintro ⟨k, v, h1, h2⟩
      cases k with
      | zero =>
        simp at h1
        subst h1
        exact Or.inl h2
      | succ k => exact Or.inr ⟨k, v, by simpa using h1, by rw [h2]; congr 1; omega⟩
theorem lvh_mono {ls : Array Slot} {n : Nat} {l l' : List (Nat × Value)} (h : lv_has ls n l) (hs : ∀ q ∈ l', q ∈ l) : lv_has ls n l' := ⟨h.1, h.2.1, fun q hq => h.2.2 q (hs q hq)⟩
def LR (z b : Nat) (ls : Array Slot) (lo : List (Option AV)) : Prop := lv_has ls lo.length (asc z b 0 lo)
theorem LR.at {z b : Nat} {ls : Array Slot} {lo : List (Option AV)} (h : LR z b ls lo) {i : Nat} {v : AV} (hi : lo[i]? = some (some v)) : ls[i]? = some (.val (cv z b v)) :=
  h.2.2 (i, cv z b v) ((asc_mem lo 0 _).mpr ⟨i, v, hi, by simp⟩)
def kl (lo : List (Option AV)) (i : Nat) : List (Option AV) := match i with
  | 0 => lo
  | j + 1 => match lo[j]? with
    | some (some (.inr (.inl _))) => lo.set j none
    | _ => lo
def sto1 (lo : List (Option AV)) (i : Nat) (v : AV) : List (Option AV) := (kl lo i).set i (some v)
def sto2 (lo : List (Option AV)) (i : Nat) (v : AV) : List (Option AV) := ((kl lo i).set i (some v)).set (i + 1) none
theorem kl_len (lo : List (Option AV)) (i : Nat) : (kl lo i).length = lo.length := by
  unfold kl
  split
  · rfl
  · split <;> simp
theorem kl_at {lo : List (Option AV)} {i k : Nat} {v : AV} (h : (kl lo i)[k]? = some (some v)) : lo[k]? = some (some v) ∧ ¬ (k + 1 = i ∧ catA v = 2) := by
  unfold kl at h
  split at h
  · exact ⟨h, fun q => by omega⟩
  · rename_i j
    split at h
    · rename_i x hx
      by_cases hk : k = j
      · subst hk
        have hl := (List.getElem?_eq_some_iff.mp hx).1
        rw [List.getElem?_set_self hl] at h
        cases h
      · rw [List.getElem?_set_ne (Ne.symm hk)] at h
        exact ⟨h, fun q => by omega⟩
    · rename_i hx
      refine ⟨h, fun q => ?_⟩
      have hk : k = j := by omega
      subst hk
      rcases v with x | x | r
      · exact absurd q.2 (by simp [catA])
      · exact hx x h
      · exact absurd q.2 (by simp [catA])
theorem sto1_at {lo : List (Option AV)} {i k : Nat} {v w : AV} (hi : i < lo.length) (h : (sto1 lo i v)[k]? = some (some w)) : (k = i ∧ w = v) ∨ (k ≠ i ∧ lo[k]? = some (some w) ∧ ¬ (k + 1 = i ∧ catA w = 2)) := by
  unfold sto1 at h
  by_cases hk : k = i
  · subst hk
    rw [List.getElem?_set_self (by rw [kl_len]; exact hi)] at h
    cases h
    exact Or.inl ⟨rfl, rfl⟩
  · rw [List.getElem?_set_ne (Ne.symm hk)] at h
    exact Or.inr ⟨hk, kl_at h⟩
theorem sto2_at {lo : List (Option AV)} {i k : Nat} {v w : AV} (hi : i + 1 < lo.length) (h : (sto2 lo i v)[k]? = some (some w)) : (k = i ∧ w = v) ∨ (k ≠ i ∧ k ≠ i + 1 ∧ lo[k]? = some (some w) ∧ ¬ (k + 1 = i ∧ catA w = 2)) := by
  unfold sto2 at h
  by_cases hk : k = i + 1
  · subst hk
    rw [List.getElem?_set_self (by simp [kl_len]; exact hi)] at h
    cases h
  · rw [List.getElem?_set_ne (Ne.symm hk)] at h
    rcases sto1_at (v := v) (by omega) h with h | ⟨h1, h2⟩
    · exact Or.inl h
    · exact Or.inr ⟨h1, hk, h2⟩
theorem sto1_len (lo : List (Option AV)) (i : Nat) (v : AV) : (sto1 lo i v).length = lo.length := by simp [sto1, kl_len]
theorem sto2_len (lo : List (Option AV)) (i : Nat) (v : AV) : (sto2 lo i v).length = lo.length := by simp [sto2, kl_len]
theorem LR.sto1 {z b : Nat} {ls : Array Slot} {lo : List (Option AV)} {i : Nat} {v : AV} {x : Value} (hi : i < lo.length) (hx : cv z b v = x) (h : lv_has ls lo.length ((i, x) :: (asc z b 0 lo).filter (fun q => !(q.1 == i) && !(q.1 + 1 == i && q.2.category == 2)))) : LR z b ls (sto1 lo i v) := by
  unfold LR
  rw [sto1_len]
  refine lvh_mono h fun q hq => ?_
  obtain ⟨k, w, h1, h2⟩ := (asc_mem _ 0 q).mp hq
  rcases sto1_at hi h1 with ⟨e1, e2⟩ | ⟨e1, e2, e3⟩
  · subst e1; subst e2; subst hx
    exact List.mem_cons.mpr (Or.inl (by rw [h2]; simp))
  · refine List.mem_cons.mpr (Or.inr (List.mem_filter.mpr ⟨(asc_mem lo 0 q).mpr ⟨k, w, e2, h2⟩, ?_⟩))
    rw [h2]
    simp only [Nat.zero_add, cv_cat, Bool.and_eq_true, Bool.not_eq_true', beq_eq_false_iff_ne, ne_eq, Bool.and_eq_false_iff]
    refine ⟨e1, ?_⟩
    by_cases hk : k + 1 = i
    · exact Or.inr fun hc => e3 ⟨hk, hc⟩
    · exact Or.inl hk
theorem LR.sto2 {z b : Nat} {ls : Array Slot} {lo : List (Option AV)} {i : Nat} {v : AV} {x : Value} (hi : i + 1 < lo.length) (hx : cv z b v = x) (h : lv_has ls lo.length ((i, x) :: (asc z b 0 lo).filter (fun q => !(q.1 == i) && (!(q.1 == i + 1) && !(q.1 + 1 == i && q.2.category == 2))))) : LR z b ls (sto2 lo i v) := by
  unfold LR
  rw [sto2_len]
  refine lvh_mono h fun q hq => ?_
  obtain ⟨k, w, h1, h2⟩ := (asc_mem _ 0 q).mp hq
  rcases sto2_at hi h1 with ⟨e1, e2⟩ | ⟨e1, e1', e2, e3⟩
  · subst e1; subst e2; subst hx
    exact List.mem_cons.mpr (Or.inl (by rw [h2]; simp))
  · refine List.mem_cons.mpr (Or.inr (List.mem_filter.mpr ⟨(asc_mem lo 0 q).mpr ⟨k, w, e2, h2⟩, ?_⟩))
    rw [h2]
    simp only [Nat.zero_add, cv_cat, Bool.and_eq_true, Bool.not_eq_true', beq_eq_false_iff_ne, ne_eq, Bool.and_eq_false_iff]
    refine ⟨e1, e1', ?_⟩
    by_cases hk : k + 1 = i
    · exact Or.inr fun hc => e3 ⟨hk, hc⟩
    · exact Or.inl hk
/-- fewer locals known -/
theorem LR.less {z b : Nat} {ls : Array Slot} {lo lo' : List (Option AV)} (h : LR z b ls lo) (hl : lo'.length = lo.length) (hs : ∀ (k : Nat) (v : AV), lo'[k]? = some (some v) → lo[k]? = some (some v)) : LR z b ls lo' := by
  unfold LR
  rw [hl]
  refine lvh_mono h fun q hq => ?_
  obtain ⟨k, w, h1, h2⟩ := (asc_mem _ 0 q).mp hq
  exact (asc_mem lo 0 q).mpr ⟨k, w, hs k w h1, h2⟩
