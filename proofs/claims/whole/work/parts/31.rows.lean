/-! The rows of whom to serve. -/
def dg (n row m : Nat) : Nat := row / (n + 1) ^ m % (n + 1)
def TK (n row : Nat) : Nat → Nat → Nat
  | 0, _ => 0
  | m + 1, x => TK n row m x + (if dg n row m = x then 1 else 0)
def CN (J B : JT) (n nd row : Nat) : Nat → Nat
  | 0 => 0
  | m + 1 => CN J B n nd row m + (if dg n row m < n ∧ dkB J B (dg n row m) (nd - (m + 1)) = true then 1 else 0)
def OKr (J B : JT) (n nd : Nat) (hv : Nat → Nat) (row : Nat) : Nat → Bool
  | 0 => true
  | m + 1 => OKr J B n nd hv row m && (decide (¬ dg n row m < n) || (decide (J (dg n row m) 4 ≤ B (nd - (m + 1)) 2) && decide (TK n row (m + 1) (dg n row m) ≤ hv (dg n row m))))
def FE (J B : JT) (n nd row : Nat) (l : Nat → Nat) (m : Nat) : Prop := (∀ i, i < m → dg n row i < n → J (dg n row i) 4 ≤ B (nd - (i + 1)) 2) ∧ ∀ j, j < n → TK n row m j ≤ l j
theorem dg_le (n row m : Nat) : dg n row m ≤ n := by
  have : dg n row m < n + 1 := Nat.mod_lt _ (Nat.succ_pos n)
  omega
theorem TK_s (n row m x : Nat) : TK n row (m + 1) x = TK n row m x + (if dg n row m = x then 1 else 0) := rfl
theorem TK_le (n row x : Nat) : ∀ m, TK n row m x ≤ m
  | 0 => Nat.le_refl _
  | m + 1 => by
    have := TK_le n row x m
    rw [TK_s]; split <;> omega
theorem CN_le (J B : JT) (n nd row : Nat) : ∀ m, CN J B n nd row m ≤ m
  | 0 => Nat.le_refl _
  | m + 1 => by
    have := CN_le J B n nd row m
    unfold CN; split <;> omega
theorem OK_FE {J B : JT} {n nd row : Nat} {hv : Nat → Nat} : ∀ m, OKr J B n nd hv row m = true ↔ FE J B n nd row hv m := by
  intro m
  induction m with
  | zero => exact ⟨fun _ => ⟨fun i hi => by omega, fun j _ => Nat.zero_le _⟩, fun _ => rfl⟩
  | succ m ih =>
    unfold OKr
    rw [Bool.and_eq_true, Bool.or_eq_true, Bool.and_eq_true, decide_eq_true_eq, decide_eq_true_eq, decide_eq_true_eq, ih]
    constructor
    · rintro ⟨⟨h1, h2⟩, h3⟩
      refine ⟨fun i hi hd => ?_, fun j hj => ?_⟩
      · by_cases e : i = m
        · subst e
          rcases h3 with w | w
          · exact absurd hd w
          · exact w.1
        · exact h1 i (by omega) hd
      · by_cases e : dg n row m = j
        · rcases h3 with w | w
          · omega
          · rw [← e]; exact w.2
        · rw [TK_s, if_neg e]; exact h2 j hj
    · rintro ⟨h1, h2⟩
      refine ⟨⟨fun i hi hd => h1 i (by omega) hd, fun j hj => ?_⟩, ?_⟩
      · have := h2 j hj; rw [TK_s] at this; omega
      · by_cases e : dg n row m < n
        · exact Or.inr ⟨h1 m (by omega) e, h2 _ e⟩
        · exact Or.inl e
theorem FE_lt {J B : JT} {n nd row m : Nat} {l : Nat → Nat} (h : dg n row m < n) : FE J B n nd row l (m + 1) ↔ (J (dg n row m) 4 ≤ B (nd - (m + 1)) 2 ∧ 0 < l (dg n row m) ∧ FE J B n nd row (dcr l (dg n row m)) m) := by
  constructor
  · rintro ⟨h1, h2⟩
    have h0 := h2 _ h
    rw [TK_s, if_pos rfl] at h0
    refine ⟨h1 m (by omega) h, by omega, fun i hi hd => h1 i (by omega) hd, fun j hj => ?_⟩
    have := h2 j hj
    rw [TK_s] at this
    unfold dcr
    by_cases e : dg n row m = j
    · rw [if_pos e] at this; rw [if_pos e.symm]; omega
    · rw [if_neg e] at this; rw [if_neg (fun w => e w.symm)]; omega
  · rintro ⟨h1, h2, h3, h4⟩
    refine ⟨fun i hi hd => ?_, fun j hj => ?_⟩
    · by_cases e : i = m
      · subst e; exact h1
      · exact h3 i (by omega) hd
    · have := h4 j hj
      unfold dcr at this
      rw [TK_s]
      by_cases e : dg n row m = j
      · rw [if_pos e.symm] at this; rw [if_pos e]; rw [e] at h2; omega
      · rw [if_neg (fun w => e w.symm)] at this; rw [if_neg e]; omega
theorem FE_n {J B : JT} {n nd row m : Nat} {l : Nat → Nat} (h : ¬ dg n row m < n) : FE J B n nd row l (m + 1) ↔ FE J B n nd row l m := by
  constructor
  · rintro ⟨h1, h2⟩
    refine ⟨fun i hi hd => h1 i (by omega) hd, fun j hj => ?_⟩
    have := h2 j hj; rw [TK_s] at this; omega
  · rintro ⟨h1, h2⟩
    refine ⟨fun i hi hd => ?_, fun j hj => ?_⟩
    · by_cases e : i = m
      · subst e; exact absurd hd h
      · exact h1 i (by omega) hd
    · have := h2 j hj; rw [TK_s, if_neg (by omega)]; exact this
theorem mo1 {ok : Nat → Nat → Bool} {n nd m : Nat} {l : Nat → Nat} : mostN ok n nd m l ≤ mostN ok n nd (m + 1) l := bsN_mono (k := 0) (Nat.zero_le n)
theorem mo2 {ok : Nat → Nat → Bool} {n nd m j : Nat} {l : Nat → Nat} (hj : j < n) (hl : 0 < l j) (ho : ok j (nd - (m + 1)) = true) : 1 + mostN ok n nd m (dcr l j) ≤ mostN ok n nd (m + 1) l := by
  refine Nat.le_trans ?_ (bsN_mono (k := j + 1) hj)
  have e : (if 0 < l j ∧ ok j (nd - (m + 1)) = true then 1 + mostN ok n nd m (dcr l j) else 0) = 1 + mostN ok n nd m (dcr l j) := if_pos ⟨hl, ho⟩
  show _ ≤ (if _ < (if 0 < l j ∧ ok j (nd - (m + 1)) = true then 1 + mostN ok n nd m (dcr l j) else 0) then (if 0 < l j ∧ ok j (nd - (m + 1)) = true then 1 + mostN ok n nd m (dcr l j) else 0) else _)
  rw [e]
  split <;> omega
theorem bsN_at {f : Nat → Nat} {b0 : Nat} : ∀ k, bsN f b0 k = b0 ∨ ∃ j, j < k ∧ bsN f b0 k = f j ∧ 0 < f j
  | 0 => Or.inl rfl
  | k + 1 => by
    unfold bsN
    by_cases h : bsN f b0 k < f k
    · rw [if_pos h]; exact Or.inr ⟨k, by omega, rfl, by omega⟩
    · rw [if_neg h]
      rcases bsN_at (f := f) (b0 := b0) k with w | ⟨j, hj, w⟩
      · exact Or.inl w
      · exact Or.inr ⟨j, by omega, w⟩
theorem mo3 (ok : Nat → Nat → Bool) (n nd m : Nat) (l : Nat → Nat) : mostN ok n nd (m + 1) l = mostN ok n nd m l ∨ ∃ j, j < n ∧ 0 < l j ∧ ok j (nd - (m + 1)) = true ∧ mostN ok n nd (m + 1) l = 1 + mostN ok n nd m (dcr l j) := by
  rcases bsN_at (f := fun j => if 0 < l j ∧ ok j (nd - (m + 1)) = true then 1 + mostN ok n nd m (dcr l j) else 0) (b0 := mostN ok n nd m l) n with w | ⟨j, hj, w, hp⟩
  · exact Or.inl w
  · have hp' : 0 < (if 0 < l j ∧ ok j (nd - (m + 1)) = true then 1 + mostN ok n nd m (dcr l j) else 0) := hp
    by_cases e : 0 < l j ∧ ok j (nd - (m + 1)) = true
    · have w' : mostN ok n nd (m + 1) l = (if 0 < l j ∧ ok j (nd - (m + 1)) = true then 1 + mostN ok n nd m (dcr l j) else 0) := w
      rw [if_pos e] at w'
      exact Or.inr ⟨j, hj, e.1, e.2, w'⟩
    · rw [if_neg e] at hp'; omega
theorem mo_mono (ok : Nat → Nat → Bool) (n nd : Nat) : ∀ m l l', (∀ j, l j ≤ l' j) → mostN ok n nd m l ≤ mostN ok n nd m l'
  | 0, _, _, _ => Nat.le_refl _
  | m + 1, l, l', h => by
    rcases mo3 ok n nd m l with w | ⟨j, hj, h1, h2, w⟩
    · rw [w]; exact Nat.le_trans (mo_mono ok n nd m l l' h) mo1
    · rw [w]
      have := mo_mono ok n nd m (dcr l j) (dcr l' j) (fun i => by have := h i; unfold dcr; split <;> omega)
      have := mo2 (ok := ok) (nd := nd) (m := m) (l := l') hj (by have := h j; omega) h2
      omega
theorem mo_dcr {ok : Nat → Nat → Bool} {n nd m j : Nat} {l : Nat → Nat} : mostN ok n nd m (dcr l j) ≤ mostN ok n nd (m + 1) l :=
  Nat.le_trans (mo_mono ok n nd m _ _ (fun i => by unfold dcr; split <;> omega)) mo1
def dkn (J B : JT) (j b : Nat) : Nat := if dkB J B j b = true then 1 else 0
theorem okB_dk {J B : JT} {j b : Nat} : okB J B j b = true ↔ (J j 4 ≤ B b 2 ∧ dkB J B j b = true) := by
  unfold okB dkB
  rw [Bool.and_eq_true, decide_eq_true_eq]
theorem CN_lt {J B : JT} {n nd row m : Nat} (h : dg n row m < n) : CN J B n nd row (m + 1) = dkn J B (dg n row m) (nd - (m + 1)) + CN J B n nd row m := by
  unfold dkn
  show CN J B n nd row m + _ = _
  by_cases e : dkB J B (dg n row m) (nd - (m + 1)) = true
  · rw [if_pos ⟨h, e⟩, if_pos e]; omega
  · rw [if_neg (fun w => e w.2), if_neg e]; omega
theorem CN_n {J B : JT} {n nd row m : Nat} (h : ¬ dg n row m < n) : CN J B n nd row (m + 1) = CN J B n nd row m := by
  show CN J B n nd row m + _ = _
  rw [if_neg (fun w => h w.1)]; rfl
theorem mo4 {J B : JT} {n nd m j : Nat} {l : Nat → Nat} (hj : j < n) (hl : 0 < l j) (hp : J j 4 ≤ B (nd - (m + 1)) 2) : dkn J B j (nd - (m + 1)) + mostN (okB J B) n nd m (dcr l j) ≤ mostN (okB J B) n nd (m + 1) l := by
  unfold dkn
  by_cases e : dkB J B j (nd - (m + 1)) = true
  · rw [if_pos e]; exact mo2 hj hl (okB_dk.mpr ⟨hp, e⟩)
  · rw [if_neg e, Nat.zero_add]; exact mo_dcr
theorem CN_most {J B : JT} {n nd row : Nat} : ∀ m l, FE J B n nd row l m → CN J B n nd row m ≤ mostN (okB J B) n nd m l
  | 0, _, _ => Nat.le_refl _
  | m + 1, l, h => by
    by_cases e : dg n row m < n
    · obtain ⟨h1, h2, h3⟩ := (FE_lt e).mp h
      have := CN_most m _ h3
      have := mo4 e h2 h1
      rw [CN_lt e]; omega
    · rw [CN_n e]; exact Nat.le_trans (CN_most m _ ((FE_n e).mp h)) mo1
def cM (J B : JT) (n nd m : Nat) (l : Nat → Nat) : Nat := chs (fcP J B n nd (nd - (m + 1)) (mostN (okB J B) n nd (m + 1) l) l) n
def lM (J B : JT) (n nd m : Nat) (l : Nat → Nat) : Nat → Nat := if cM J B n nd m l < n then dcr l (cM J B n nd m l) else l
def bR (J B : JT) (n nd : Nat) : Nat → (Nat → Nat) → Nat
  | 0, _ => 0
  | m + 1, l => (n + 1) ^ m * cM J B n nd m l + bR J B n nd m (lM J B n nd m l)
theorem fcP_at {J B : JT} {n nd m j : Nat} {l : Nat → Nat} (hm : m + 1 ≤ nd) : fcP J B n nd (nd - (m + 1)) (mostN (okB J B) n nd (m + 1) l) l j = true ↔ (0 < l j ∧ J j 4 ≤ B (nd - (m + 1)) 2 ∧ dkn J B j (nd - (m + 1)) + mostN (okB J B) n nd m (dcr l j) = mostN (okB J B) n nd (m + 1) l) := by
  unfold fcP dkn
  rw [show nd - (nd - (m + 1) + 1) = m by omega, Bool.and_eq_true, Bool.and_eq_true, decide_eq_true_eq, decide_eq_true_eq, decide_eq_true_eq]
theorem cM_lt {J B : JT} {n nd m : Nat} {l : Nat → Nat} (hm : m + 1 ≤ nd) (h : cM J B n nd m l < n) : 0 < l (cM J B n nd m l) ∧ J (cM J B n nd m l) 4 ≤ B (nd - (m + 1)) 2 ∧ dkn J B (cM J B n nd m l) (nd - (m + 1)) + mostN (okB J B) n nd m (dcr l (cM J B n nd m l)) = mostN (okB J B) n nd (m + 1) l := (fcP_at hm).mp (chs_P h)
theorem cM_no {J B : JT} {n nd m j : Nat} {l : Nat → Nat} (hm : m + 1 ≤ nd) (hj : j < cM J B n nd m l) : ¬ (0 < l j ∧ J j 4 ≤ B (nd - (m + 1)) 2 ∧ dkn J B j (nd - (m + 1)) + mostN (okB J B) n nd m (dcr l j) = mostN (okB J B) n nd (m + 1) l) := fun w => by
  have h1 := chs_lt j hj
  rw [(fcP_at hm).mpr w] at h1; cases h1
theorem cM_n {J B : JT} {n nd m : Nat} {l : Nat → Nat} (hm : m + 1 ≤ nd) (h : ¬ cM J B n nd m l < n) : mostN (okB J B) n nd (m + 1) l = mostN (okB J B) n nd m l := by
  rcases mo3 (okB J B) n nd m l with w | ⟨j, hj, h1, h2, w⟩
  · exact w
  · have h3 := okB_dk.mp h2
    exact absurd ⟨h1, h3.1, by unfold dkn; rw [if_pos h3.2, w]⟩ (cM_no (n := n) (l := l) hm (j := j) (by omega))
theorem cM_le {J B : JT} {n nd m : Nat} {l : Nat → Nat} : cM J B n nd m l ≤ n := chs_le _ n
theorem pow_s' (n m : Nat) : (n + 1) ^ (m + 1) = (n + 1) ^ m * n + (n + 1) ^ m := by rw [Nat.pow_succ, Nat.mul_add, Nat.mul_one]
theorem pow_p (n m : Nat) : 0 < (n + 1) ^ m := Nat.pow_pos (Nat.succ_pos n)
theorem bR_lt {J B : JT} {n nd : Nat} : ∀ m l, bR J B n nd m l < (n + 1) ^ m
  | 0, _ => Nat.le_refl _
  | m + 1, l => by
    have h1 := bR_lt (J := J) (B := B) (n := n) (nd := nd) m (lM J B n nd m l)
    have h2 : (n + 1) ^ m * cM J B n nd m l ≤ (n + 1) ^ m * n := Nat.mul_le_mul_left _ cM_le
    rw [pow_s']
    show (n + 1) ^ m * cM J B n nd m l + _ < _
    omega
theorem md_s (n row m : Nat) : row % (n + 1) ^ (m + 1) = row % (n + 1) ^ m + (n + 1) ^ m * dg n row m := Nat.mod_pow_succ
theorem dm_u {p a d c r : Nat} (ha : a < p) (hr : r < p) (h : a + p * d = p * c + r) : d = c ∧ a = r := by
  have e1 : (a + p * d) % p = a := by rw [Nat.add_mul_mod_self_left, Nat.mod_eq_of_lt ha]
  have e2 : (p * c + r) % p = r := by rw [Nat.add_comm, Nat.add_mul_mod_self_left, Nat.mod_eq_of_lt hr]
  have e : a = r := by rw [← e1, h, e2]
  refine ⟨?_, e⟩
  exact Nat.eq_of_mul_eq_mul_left (show 0 < p by omega) (by omega)
theorem bR_dg {J B : JT} {n nd m row : Nat} {l : Nat → Nat} (h : row % (n + 1) ^ (m + 1) = bR J B n nd (m + 1) l) : dg n row m = cM J B n nd m l ∧ row % (n + 1) ^ m = bR J B n nd m (lM J B n nd m l) := by
  rw [md_s] at h
  exact dm_u (Nat.mod_lt _ (pow_p n m)) (bR_lt m _) h
theorem bR_is {J B : JT} {n nd row : Nat} : ∀ m l, m ≤ nd → row % (n + 1) ^ m = bR J B n nd m l → FE J B n nd row l m ∧ CN J B n nd row m = mostN (okB J B) n nd m l
  | 0, l, _, _ => ⟨⟨fun i hi => by omega, fun j _ => Nat.zero_le _⟩, rfl⟩
  | m + 1, l, hm, h => by
    obtain ⟨h1, h2⟩ := bR_dg h
    obtain ⟨i1, i2⟩ := bR_is m _ (by omega) h2
    unfold lM at i1 i2
    by_cases e : cM J B n nd m l < n
    · rw [if_pos e] at i1 i2
      obtain ⟨c1, c2, c3⟩ := cM_lt hm e
      have e' : dg n row m < n := by rw [h1]; exact e
      refine ⟨(FE_lt e').mpr ?_, ?_⟩
      · rw [h1]; exact ⟨c2, c1, i1⟩
      · rw [CN_lt e', h1, i2, c3]
    · rw [if_neg e] at i1 i2
      have e' : ¬ dg n row m < n := by rw [h1]; exact e
      exact ⟨(FE_n e').mpr i1, by rw [CN_n e', i2, cM_n hm e]⟩
theorem dm_l {p a d c r : Nat} (hr : r < p) (h : a + p * d < p * c + r) : d < c ∨ (d = c ∧ a < r) := by
  rcases Nat.lt_trichotomy d c with w | w | w
  · exact Or.inl w
  · subst w; exact Or.inr ⟨rfl, by omega⟩
  · have : p * (c + 1) ≤ p * d := Nat.mul_le_mul_left p w
    rw [Nat.mul_add, Nat.mul_one] at this
    omega
theorem bR_first {J B : JT} {n nd row : Nat} : ∀ m l, m ≤ nd → row % (n + 1) ^ m < bR J B n nd m l → FE J B n nd row l m → CN J B n nd row m ≠ mostN (okB J B) n nd m l
  | 0, l, _, h, _ => absurd h (Nat.not_lt_zero _)
  | m + 1, l, hm, h, hF => fun hc => by
    rw [md_s] at h
    rcases dm_l (bR_lt m _) h with w | ⟨w, hr⟩
    · have e : dg n row m < n := by have := cM_le (J := J) (B := B) (n := n) (nd := nd) (m := m) (l := l); omega
      obtain ⟨f1, f2, f3⟩ := (FE_lt e).mp hF
      have c1 := CN_most m _ f3
      have c2 := mo4 e f2 f1
      rw [CN_lt e] at hc
      exact cM_no hm w ⟨f2, f1, by omega⟩
    · have ih := bR_first m _ (by omega) hr
      unfold lM at ih
      by_cases e : cM J B n nd m l < n
      · rw [if_pos e] at ih
        have e' : dg n row m < n := by rw [w]; exact e
        obtain ⟨f1, f2, f3⟩ := (FE_lt e').mp hF
        rw [w] at f3
        refine ih f3 ?_
        obtain ⟨c1, c2, c3⟩ := cM_lt hm e
        rw [CN_lt e', w] at hc
        omega
      · rw [if_neg e] at ih
        have e' : ¬ dg n row m < n := by rw [w]; exact e
        refine ih ((FE_n e').mp hF) ?_
        rw [CN_n e', cM_n hm e] at hc
        exact hc
theorem stt_is {J B : JT} {n nd : Nat} {hv : Nat → Nat} : ∀ b, b ≤ nd → (stt J B n nd hv b).2 = mostN (okB J B) n nd (nd - b) (stt J B n nd hv b).1 ∧ bR J B n nd nd hv % (n + 1) ^ (nd - b) = bR J B n nd (nd - b) (stt J B n nd hv b).1
  | 0, _ => ⟨rfl, Nat.mod_eq_of_lt (bR_lt nd hv)⟩
  | b + 1, hb => by
    obtain ⟨h1, h2⟩ := stt_is (J := J) (B := B) (n := n) (nd := nd) (hv := hv) b (by omega)
    generalize hm : nd - (b + 1) = m
    have hbm : b = nd - (m + 1) := by omega
    have hm1 : m + 1 ≤ nd := by omega
    rw [show nd - b = m + 1 by omega] at h1 h2
    obtain ⟨h3, h4⟩ := bR_dg h2
    have hc : cho J B n nd hv b = cM J B n nd m (stt J B n nd hv b).1 := by
      unfold cho cM
      rw [h1, ← hbm]
    rw [stt_1, stt_2, hc, h4]
    unfold lM
    by_cases e : cM J B n nd m (stt J B n nd hv b).1 < n
    · rw [if_pos e]
      refine ⟨?_, rfl⟩
      obtain ⟨c1, c2, c3⟩ := cM_lt hm1 e
      unfold dkn at c3
      rw [← hbm] at c3
      rw [h1, ← c3]
      by_cases d : dkB J B (cM J B n nd m (stt J B n nd hv b).1) b = true
      · rw [if_pos d, if_pos ⟨e, d⟩]; omega
      · rw [if_neg d, if_neg (fun w => d w.2)]; omega
    · rw [if_neg e, if_neg (fun w => e w.1), h1, cM_n hm1 e]
      exact ⟨rfl, rfl⟩
theorem cho_dg {J B : JT} {n nd b : Nat} {hv : Nat → Nat} (hb : b < nd) : dg n (bR J B n nd nd hv) (nd - (b + 1)) = cho J B n nd hv b := by
  obtain ⟨h1, h2⟩ := stt_is (J := J) (B := B) (n := n) (nd := nd) (hv := hv) b (by omega)
  generalize hm : nd - (b + 1) = m
  have hbm : b = nd - (m + 1) := by omega
  rw [show nd - b = m + 1 by omega] at h1 h2
  rw [(bR_dg h2).1]
  unfold cho cM
  rw [h1, ← hbm]
-- the first of the greatest
def mx (f : Nat → Nat) : Nat → Nat × Nat
  | 0 => (0, 0)
  | k + 1 => if (mx f k).1 < f k then (f k, k) else mx f k
theorem mx_is {f : Nat → Nat} {W s : Nat} (hs : f s = W) (hW : 0 < W) (hl : ∀ r, f r ≤ W) (hf : ∀ r, r < s → f r ≠ W) : ∀ k, (k ≤ s → (mx f k).1 < W) ∧ (s < k → mx f k = (W, s))
  | 0 => ⟨fun _ => hW, fun h => by omega⟩
  | k + 1 => by
    obtain ⟨h1, h2⟩ := mx_is hs hW hl hf k
    refine ⟨fun h => ?_, fun h => ?_⟩
    · have a := h1 (by omega)
      have b := hf k (by omega)
      have c := hl k
      unfold mx
      split
      · show f k < W; omega
      · exact a
    · unfold mx
      by_cases e : k = s
      · subst e
        have a := h1 (Nat.le_refl _)
        rw [if_pos (by omega), hs]
      · have a := h2 (by omega)
        have c := hl k
        rw [a, if_neg (by show ¬ W < f k; omega)]
def vR1 (J B : JT) (n nd : Nat) (hv : Nat → Nat) (row : Nat) : Nat := if OKr J B n nd hv row nd = true then CN J B n nd row nd + 1 else 0
theorem mx_row (J B : JT) (n nd : Nat) (hv : Nat → Nat) : mx (vR1 J B n nd hv) ((n + 1) ^ nd) = (mostN (okB J B) n nd nd hv + 1, bR J B n nd nd hv) := by
  have hb := bR_lt (J := J) (B := B) (n := n) (nd := nd) nd hv
  refine (mx_is ?_ (Nat.succ_pos _) (fun r => ?_) (fun r hr => ?_) _).2 hb
  · obtain ⟨h1, h2⟩ := bR_is (J := J) (B := B) (n := n) (nd := nd) (row := bR J B n nd nd hv) nd hv (Nat.le_refl _) (Nat.mod_eq_of_lt hb)
    unfold vR1
    rw [if_pos ((OK_FE nd).mpr h1), h2]
  · unfold vR1
    by_cases e : OKr J B n nd hv r nd = true
    · rw [if_pos e]; exact Nat.succ_le_succ (CN_most nd hv ((OK_FE nd).mp e))
    · rw [if_neg e]; exact Nat.zero_le _
  · unfold vR1
    by_cases e : OKr J B n nd hv r nd = true
    · rw [if_pos e]
      intro w
      exact bR_first nd hv (Nat.le_refl _) (by rw [Nat.mod_eq_of_lt (by omega)]; exact hr) ((OK_FE nd).mp e) (by omega)
    · rw [if_neg e]; omega
