/-! ===== a storm: how many can be let down, who goes first ===== -/
def cE (m : Nat) (ρ : Nat → Nat) (P : Nat → Bool) (h : Nat) : Nat := fa_cnt (fun b => P b && decide (ρ b = h)) m
def cG (m : Nat) (ρ : Nat → Nat) (P : Nat → Bool) (h : Nat) : Nat := fa_cnt (fun b => P b && decide (h < ρ b)) m
def sv (m : Nat) (ρ : Nat → Nat) (P : Nat → Bool) (g : Nat) : Nat → Nat
  | 0 => 0
  | k + 1 => min (sv m ρ P g k + cE m ρ P (g + 1 + k)) (k + 1)
def sg (m : Nat) (ρ : Nat → Nat) (P : Nat → Bool) (g : Nat) : Nat := sv m ρ P g (9 - g)
def rm (P : Nat → Bool) (b : Nat) : Nat → Bool := fun c => P c && !decide (c = b)
section SC
variable {m : Nat} {ρ : Nat → Nat} {P : Nat → Bool} {g b h : Nat}
theorem cG_s : cG m ρ P h = cE m ρ P (h + 1) + cG m ρ P (h + 1) := by
  unfold cG cE
  rw [Nat.add_comm]
  refine cnt_or (fun k _ => ⟨?_, fun z => ?_⟩)
  · simp only [Bool.and_eq_true, decide_eq_true_iff]
    constructor
    · rintro ⟨z1, z2⟩
      by_cases e : ρ k = h + 1
      · exact Or.inr ⟨z1, e⟩
      · exact Or.inl ⟨z1, by omega⟩
    · rintro (⟨z1, z2⟩ | ⟨z1, z2⟩)
      · exact ⟨z1, by omega⟩
      · exact ⟨z1, by omega⟩
  · simp only [Bool.and_eq_true, decide_eq_true_iff] at z
    rw [show (decide (h + 1 < ρ k)) = false from decide_eq_false (by omega), Bool.and_false]
theorem sv_U : ∀ k i, i ≤ k → sv m ρ P g k + cG m ρ P (g + k) ≤ i + cG m ρ P (g + i)
  | 0, i, hi => by
    have : i = 0 := by omega
    subst this
    simp [sv]
  | k + 1, i, hi => by
    have e := cG_s (m := m) (ρ := ρ) (P := P) (h := g + k)
    rw [sv]
    by_cases hik : i = k + 1
    · subst hik
      have := Nat.min_le_right (sv m ρ P g k + cE m ρ P (g + 1 + k)) (k + 1)
      omega
    · have ih := sv_U k i (by omega)
      have := Nat.min_le_left (sv m ρ P g k + cE m ρ P (g + 1 + k)) (k + 1)
      rw [show g + 1 + k = g + k + 1 by omega] at this ⊢
      rw [show g + (k + 1) = g + k + 1 by omega]
      omega
theorem sv_L : ∀ k, ∃ i, i ≤ k ∧ sv m ρ P g k + cG m ρ P (g + k) = i + cG m ρ P (g + i)
  | 0 => ⟨0, Nat.le_refl _, by simp [sv]⟩
  | k + 1 => by
    have e := cG_s (m := m) (ρ := ρ) (P := P) (h := g + k)
    obtain ⟨i, hi, ih⟩ := sv_L k
    rw [sv, show g + 1 + k = g + k + 1 by omega, show g + (k + 1) = g + k + 1 by omega]
    by_cases hm : sv m ρ P g k + cE m ρ P (g + k + 1) ≤ k + 1
    · rw [Nat.min_eq_left hm]
      exact ⟨i, by omega, by omega⟩
    · rw [Nat.min_eq_right (by omega)]
      exact ⟨k + 1, Nat.le_refl _, by rw [show g + (k + 1) = g + k + 1 by omega]⟩
theorem cG_mono {h' : Nat} (hh : h ≤ h') : cG m ρ P h' ≤ cG m ρ P h := by
  obtain ⟨d, rfl⟩ : ∃ d, h' = h + d := ⟨h' - h, by omega⟩
  clear hh
  induction d with
  | zero => exact Nat.le_refl _
  | succ d ih =>
    have := cG_s (m := m) (ρ := ρ) (P := P) (h := h + d)
    rw [← Nat.add_assoc]
    omega
theorem cG_9 (hρ : ∀ c, c < m → ρ c ≤ 9) : cG m ρ P 9 = 0 := by
  unfold cG
  have e : ∀ n, n ≤ m → fa_cnt (fun b => P b && decide (9 < ρ b)) n = 0 := by
    intro n
    induction n with
    | zero => intro _; rfl
    | succ n ih =>
      intro hn
      rw [fa_cnt, ih (by omega), decide_eq_false (by have := hρ n (by omega); omega), Bool.and_false]
      rfl
  exact e m (Nat.le_refl _)
theorem sg_U (hρ : ∀ c, c < m → ρ c ≤ 9) {i : Nat} (hg : g ≤ 9) (hi' : i ≤ 9 - g) : sg m ρ P g ≤ i + cG m ρ P (g + i) := by
  have := sv_U (m := m) (ρ := ρ) (P := P) (g := g) (9 - g) i hi'
  rw [show g + (9 - g) = 9 by omega, cG_9 hρ] at this
  exact this
theorem sg_L (hρ : ∀ c, c < m → ρ c ≤ 9) (hg : g ≤ 9) : ∃ i, i ≤ 9 - g ∧ sg m ρ P g = i + cG m ρ P (g + i) := by
  obtain ⟨i, hi, h⟩ := sv_L (m := m) (ρ := ρ) (P := P) (g := g) (9 - g)
  rw [show g + (9 - g) = 9 by omega, cG_9 hρ] at h
  exact ⟨i, hi, h⟩
theorem cG_rm (hb : b < m) (hP : P b = true) : cG m ρ P h = cG m ρ (rm P b) h + if h < ρ b then 1 else 0 := by
  unfold cG rm
  by_cases hh : h < ρ b
  · rw [if_pos hh]
    have e := cnt_set (p := fun c => (P c && !decide (c = b)) && decide (h < ρ c)) (b := b) (by simp) m
    rw [if_pos hb] at e
    rw [← e]
    refine fa_cnt_cong (fun k hk => ?_)
    unfold pset
    by_cases e2 : k = b
    · subst e2
      simp [hP, hh]
    · simp [e2]
  · rw [if_neg hh, Nat.add_zero]
    refine fa_cnt_cong (fun k hk => ?_)
    by_cases e2 : k = b
    · subst e2
      simp [hh]
    · simp [e2]
theorem sg_a (hρ : ∀ c, c < m → ρ c ≤ 9) (hb : b < m) (hP : P b = true) (hg : g < ρ b) : 1 + sg m ρ (rm P b) (g + 1) ≤ sg m ρ P g := by
  have h9 := hρ b hb
  obtain ⟨i, hi, e⟩ := sg_L (P := P) (g := g) hρ (by omega)
  rw [e]
  cases i with
  | zero =>
    have e1 := cG_rm (ρ := ρ) (h := g) hb hP
    rw [if_pos hg] at e1
    have e2 := cG_mono (m := m) (ρ := ρ) (P := rm P b) (show g ≤ g + 1 by omega)
    have e3 := sg_U (P := rm P b) (g := g + 1) (i := 0) hρ (by omega) (by omega)
    simp only [Nat.add_zero] at e3 ⊢
    omega
  | succ i =>
    have e1 := cG_rm (ρ := ρ) (h := g + (i + 1)) hb hP
    have e3 := sg_U (P := rm P b) (g := g + 1) (i := i) hρ (by omega) (by omega)
    rw [show g + 1 + i = g + (i + 1) by omega] at e3
    omega
theorem sg_b (hρ : ∀ c, c < m → ρ c ≤ 9) (hb : b < m) (hP : P b = true) (hg : g < ρ b) (hmin : ∀ c, c < m → P c = true → g < ρ c → ρ b ≤ ρ c) : sg m ρ P g ≤ 1 + sg m ρ (rm P b) (g + 1) := by
  have h9 := hρ b hb
  obtain ⟨i, hi, e⟩ := sg_L (P := rm P b) (g := g + 1) hρ (by omega)
  rw [e]
  have e1 := cG_rm (ρ := ρ) (h := g + 1 + i) hb hP
  by_cases hr : g + 1 + i < ρ b
  · rw [if_pos hr] at e1
    have e2 : cG m ρ P (g + 1 + i) = cG m ρ P g := by
      unfold cG
      refine fa_cnt_cong (fun k hk => ?_)
      by_cases hk2 : P k = true
      · rw [hk2, Bool.true_and, Bool.true_and]
        refine decide_eq_decide.mpr ⟨fun z => by omega, fun z => ?_⟩
        have := hmin k hk hk2 z
        omega
      · rw [Bool.eq_false_iff.mpr hk2, Bool.false_and, Bool.false_and]
    have e3 := sg_U (P := P) (g := g) (i := 0) hρ (by omega) (by omega)
    rw [Nat.add_zero] at e3
    omega
  · rw [if_neg hr] at e1
    have e3 := sg_U (P := P) (g := g) (i := i + 1) hρ (by omega) (by omega)
    rw [show g + (i + 1) = g + 1 + i by omega] at e3
    omega
theorem cG_0 (h0 : ∀ c, c < m → P c = true → ¬ h < ρ c) : cG m ρ P h = 0 := by
  unfold cG
  have e : ∀ n, n ≤ m → fa_cnt (fun b => P b && decide (h < ρ b)) n = 0 := by
    intro n
    induction n with
    | zero => intro _; rfl
    | succ n ih =>
      intro hn
      rw [fa_cnt, ih (by omega)]
      by_cases hk2 : P n = true
      · rw [decide_eq_false (h0 n (by omega) hk2), Bool.and_false]; rfl
      · rw [Bool.eq_false_iff.mpr hk2, Bool.false_and]; rfl
  exact e m (Nat.le_refl _)
def okb (m : Nat) (ρ : Nat → Nat) (P : Nat → Bool) (g b : Nat) : Prop := b < m ∧ P b = true ∧ g < ρ b ∧ 1 + sg m ρ (rm P b) (g + 1) = sg m ρ P g
theorem ok_ex (hρ : ∀ c, c < m → ρ c ≤ 9) (h : ∃ c, c < m ∧ P c = true ∧ g < ρ c) : ∃ b, okb m ρ P g b ∧ ∀ c, c < b → ¬ okb m ρ P g c := by
  obtain ⟨c, c1, c2, c3⟩ := h
  obtain ⟨r, -, ⟨b, b1, b2, b3, b4⟩, hmin⟩ := least_ex (P := fun r => ∃ b, b < m ∧ P b = true ∧ g < ρ b ∧ ρ b = r) (ρ c) ⟨c, c1, c2, c3, rfl⟩
  have hok : okb m ρ P g b := ⟨b1, b2, b3, Nat.le_antisymm (sg_a hρ b1 b2 b3) (sg_b hρ b1 b2 b3 (fun d d1 d2 d3 => by
    rcases Nat.lt_or_ge (ρ d) (ρ b) with z | z
    · exact absurd ⟨d, d1, d2, d3, rfl⟩ (hmin (ρ d) (by omega))
    · exact z))⟩
  obtain ⟨k, -, k1, k2⟩ := least_ex (P := okb m ρ P g) b hok
  exact ⟨k, k1, k2⟩
theorem sg_0 (hρ : ∀ c, c < m → ρ c ≤ 9) (hg : g ≤ 9) : sg m ρ P g = 0 ↔ ∀ c, c < m → P c = true → ¬ g < ρ c := by
  constructor
  · intro h c c1 c2 c3
    have := sg_a hρ c1 c2 c3
    omega
  · intro h
    have := sg_U (P := P) (g := g) (i := 0) hρ hg (by omega)
    rw [Nat.add_zero, cG_0 h] at this
    omega
def GR (m : Nat) (ρ : Nat → Nat) : List Nat → (Nat → Bool) → Nat → Prop
  | [], P, g => sg m ρ P g = 0
  | b :: L, P, g => okb m ρ P g b ∧ (∀ c, c < b → ¬ okb m ρ P g c) ∧ GR m ρ L (rm P b) (g + 1)
theorem GR_len : ∀ (L : List Nat) (P : Nat → Bool) (g : Nat), GR m ρ L P g → L.length = sg m ρ P g
  | [], _, _, h => h.symm
  | b :: L, P, g, h => by
    have := GR_len L _ _ h.2.2
    rw [List.length_cons, this, ← h.1.2.2.2, Nat.add_comm]
theorem cnt_rm (hb : b < m) (hP : P b = true) : fa_cnt P m = fa_cnt (rm P b) m + 1 := by
  have e := cnt_set (p := rm P b) (b := b) (by simp [rm]) m
  rw [if_pos hb] at e
  rw [← e]
  refine fa_cnt_cong (fun k hk => ?_)
  unfold pset rm
  by_cases e2 : k = b
  · subst e2
    simp [hP]
  · simp [e2]
theorem GR_ex (hρ : ∀ c, c < m → ρ c ≤ 9) : ∀ (n : Nat) (P : Nat → Bool) (g : Nat), g + n ≤ 9 → fa_cnt P m ≤ n → ∃ L, GR m ρ L P g
  | n, P, g, hg, hn => by
    by_cases h : ∃ c, c < m ∧ P c = true ∧ g < ρ c
    · obtain ⟨b, b1, b2⟩ := ok_ex hρ h
      have e := cnt_rm b1.1 b1.2.1
      cases n with
      | zero => omega
      | succ n =>
        obtain ⟨L, hL⟩ := GR_ex hρ n (rm P b) (g + 1) (by omega) (by omega)
        exact ⟨b :: L, b1, b2, hL⟩
    · refine ⟨[], (sg_0 hρ (by omega)).mpr (fun c c1 c2 c3 => h ⟨c, c1, c2, c3⟩)⟩
theorem sg_cnt (hρ : ∀ c, c < m → ρ c ≤ 9) (hg : g ≤ 9) : sg m ρ P g ≤ fa_cnt P m := by
  have := sg_U (P := P) (g := g) (i := 0) hρ hg (by omega)
  rw [Nat.add_zero, Nat.zero_add] at this
  refine Nat.le_trans this ?_
  unfold cG
  have e : ∀ n, fa_cnt (fun b => P b && decide (g < ρ b)) n ≤ fa_cnt P n := by
    intro n
    induction n with
    | zero => exact Nat.le_refl _
    | succ n ih =>
      rw [fa_cnt, fa_cnt]
      by_cases hk2 : P n = true
      · rw [hk2, Bool.true_and, if_pos rfl]
        split <;> omega
      · rw [Bool.eq_false_iff.mpr hk2, Bool.false_and]
        simp
        exact ih
  exact e m
end SC
