/-! ===== THE RULE: what a row of codes comes to ===== -/
def jX (ch : Nat) (a b : Int32) : Int32 := if ch = 42 then a * b else if ch = 43 then a + b else if ch = 45 then a - b else if ch = 60 then (if a < b then 1 else 0) else if ch = 61 then (if a = b then 1 else 0) else if ch = 62 then (if b < a then 1 else 0) else if b = 0 then 0 else a / b
def mch (k : Nat) : Nat := if k = 0 then 60 else if k = 1 then 62 else if k = 2 then 61 else if k = 3 then 43 else if k = 4 then 45 else if k = 5 then 42 else 47
def stp (o : Nat → Nat) (g : Nat → Int32) (c : Nat) (s : Nat × (Nat → Int32)) : Option (Nat × (Nat → Int32)) :=
  if c < 1000 then some (s.1 + 1, upd s.2 s.1 (nI c))
  else if c < 1008 then some (s.1 + 1, upd s.2 s.1 (g (c - 1000)))
  else if c = 3000 then (if 1 ≤ s.1 then some (s.1, upd s.2 (s.1 - 1) (-(s.2 (s.1 - 1)))) else none)
  else if 2000 ≤ c ∧ c < 2128 ∧ 2 ≤ s.1 then some (s.1 - 1, upd s.2 (s.1 - 2) (jX (o (c - 2000)) (s.2 (s.1 - 2)) (s.2 (s.1 - 1)))) else none
def rnc (o : Nat → Nat) (g : Nat → Int32) : List Nat → Nat × (Nat → Int32) → Option (Nat × (Nat → Int32))
  | [], s => some s
  | c :: C, s => match stp o g c s with
    | none => none
    | some s' => rnc o g C s'
theorem rnc_app {o : Nat → Nat} {g : Nat → Int32} {D : List Nat} : ∀ (C : List Nat) (s s' : Nat × (Nat → Int32)), rnc o g C s = some s' → rnc o g (C ++ D) s = rnc o g D s'
  | [], s, s', h => by
    cases h
    rfl
  | c :: C, s, s', h => by
    unfold rnc at h
    show (match stp o g c s with | none => none | some s' => rnc o g (C ++ D) s') = _
    cases hs : stp o g c s with
    | none => rw [hs] at h; cases h
    | some s1 =>
      rw [hs] at h
      exact rnc_app C s1 s' h
def EV (o : Nat → Nat) (C : List Nat) (e : (Nat → Int32) → Int32) : Prop := ∀ (g : Nat → Int32) (d : Nat) (f : Nat → Int32), ∃ f', rnc o g C (d, f) = some (d + 1, f') ∧ f' d = e g ∧ ∀ k, k < d → f' k = f k
section EVS
variable {o : Nat → Nat} {C D : List Nat} {e e' : (Nat → Int32) → Int32}
theorem EV_num {k : Nat} (h : k < 1000) : EV o [k] (fun _ => nI k) := fun g d f => ⟨upd f d (nI k), by simp only [rnc, stp, h, if_true], by rw [upd_ap, if_pos rfl], fun j hj => by rw [upd_ap, if_neg (by omega)]⟩
theorem EV_let {i : Nat} (h : i < 8) : EV o [1000 + i] (fun g => g i) := fun g d f => ⟨upd f d (g i), by
  have h1 : ¬ 1000 + i < 1000 := by omega
  have h2 : 1000 + i < 1008 := by omega
  have h3 : 1000 + i - 1000 = i := by omega
  simp only [rnc, stp, h1, h2, h3, if_true, if_false], by rw [upd_ap, if_pos rfl], fun j hj => by rw [upd_ap, if_neg (by omega)]⟩
theorem EV_neg (h : EV o C e) : EV o (C ++ [3000]) (fun g => -(e g)) := fun g d f => by
  obtain ⟨f1, h1, h2, h3⟩ := h g d f
  refine ⟨upd f1 d (-(e g)), ?_, by rw [upd_ap, if_pos rfl], fun j hj => by rw [upd_ap, if_neg (by omega)]; exact h3 j hj⟩
  have a : 1 ≤ d + 1 := by omega
  rw [rnc_app C _ _ h1]
  simp only [rnc, stp, a, if_true, Nat.add_sub_cancel, h2, Nat.reduceLT, if_false]
theorem EV_op {ch : Nat} (hc : ch < 128) (h : EV o C e) (h' : EV o D e') : EV o (C ++ (D ++ [2000 + ch])) (fun g => jX (o ch) (e g) (e' g)) := fun g d f => by
  obtain ⟨f1, h1, h2, h3⟩ := h g d f
  obtain ⟨f2, g1, g2, g3⟩ := h' g (d + 1) f1
  refine ⟨upd f2 d (jX (o ch) (e g) (e' g)), ?_, by rw [upd_ap, if_pos rfl], fun j hj => by rw [upd_ap, if_neg (by omega), g3 j (by omega)]; exact h3 j hj⟩
  have a1 : ¬ 2000 + ch < 1000 := by omega
  have a2 : ¬ 2000 + ch < 1008 := by omega
  have a3 : ¬ 2000 + ch = 3000 := by omega
  have a4 : 2000 ≤ 2000 + ch ∧ 2000 + ch < 2128 ∧ 2 ≤ d + 1 + 1 := by omega
  have a5 : 2000 + ch - 2000 = ch := by omega
  have a6 : d + 1 + 1 - 2 = d := by omega
  have a7 : d + 1 + 1 - 1 = d + 1 := by omega
  rw [rnc_app C _ _ h1, rnc_app D _ _ g1]
  simp only [rnc, stp, a1, a2, a3, a4, a5, a6, a7, if_true, if_false, g2, g3 d (by omega), h2, and_self]
theorem EV_c (h : EV o C e) (he : ∀ g, e g = e' g) : EV o C e' := fun g d f => by
  rw [← he g]
  exact h g d f
end EVS
/-! the class's machine -/
theorem cd_k : ∀ i, i < 8 → nI (1000 + i) - 1000 - (nI (1000 + i) - 1000) / 8 * 8 = nI i := by decide +kernel
theorem nI_p1 {k : Nat} : nI (k + 1) + -1 = nI k := by
  rw [show nI (k + 1) + -1 = nI (k + 1) - 1 from (Int32.sub_eq_add_neg _ _).symm]
  exact nI_pred k
theorem sub2000 {k : Nat} : nI (2000 + k) - 2000 = nI k := by
  rw [Nat.add_comm, ← nI_add]
  exact Int32.add_sub_cancel _ _
theorem sub1000 {k : Nat} : nI (1000 + k) - 1000 = nI k := by
  rw [Nat.add_comm, ← nI_add]
  exact Int32.add_sub_cancel _ _
theorem q_joined {ch : Nat} {a b : Int32} {S : zS} {Q : Int32 → zS → Prop} (hc : ch < 128) : zq (p_X7_joined (nI ch) a b) S Q = Q (jX ch a b) S := by
  have w : ∀ k, k < 128 → (nI ch = nI k) = (ch = k) := fun k hk => nI_eqP (by omega) (by omega)
  have w42 : (nI ch = 42) = (ch = 42) := w 42 (by omega)
  have w43 : (nI ch = 43) = (ch = 43) := w 43 (by omega)
  have w45 : (nI ch = 45) = (ch = 45) := w 45 (by omega)
  have w60 : (nI ch = 60) = (ch = 60) := w 60 (by omega)
  have w61 : (nI ch = 61) = (ch = 61) := w 61 (by omega)
  have w62 : (nI ch = 62) = (ch = 62) := w 62 (by omega)
  unfold p_X7_joined jX
  simp only [q_eq, w42, w43, w45, w60, w61, w62, q_ret, q_le, nle_i]
  by_cases h1 : ch = 42
  · simp [h1]
  by_cases h2 : ch = 43
  · simp [h2]
  by_cases h3 : ch = 45
  · simp [h3]
  by_cases h4 : ch = 60
  · by_cases g : a < b <;> simp [h4, g]
  by_cases h5 : ch = 61
  · by_cases g : a = b <;> simp [h5, g]
  by_cases h6 : ch = 62
  · by_cases g : b < a <;> simp [h6, g]
  by_cases g : b = 0
  · simp [h1, h2, h3, h4, h5, h6, g]
  · rw [q_nz g, q_ret]
    simp [h1, h2, h3, h4, h5, h6, g]
theorem q_worked {k : Nat} {a b : Int32} {T : zS} {Q : Int32 → zS → Prop} (hc : k < 128) : zq (p_X12_worked (nI k) a b) T Q = Q (jX (mch k) a b) T := by
  have w : ∀ j, j < 128 → (nI k = nI j) = (k = j) := fun j hj => nI_eqP (by omega) (by omega)
  have w0 : (nI k = 0) = (k = 0) := w 0 (by omega)
  have w1 : (nI k = 1) = (k = 1) := w 1 (by omega)
  have w2 : (nI k = 2) = (k = 2) := w 2 (by omega)
  have w3 : (nI k = 3) = (k = 3) := w 3 (by omega)
  have w4 : (nI k = 4) = (k = 4) := w 4 (by omega)
  have w5 : (nI k = 5) = (k = 5) := w 5 (by omega)
  unfold p_X12_worked p_X12_flag jX mch
  simp only [q_eq, w0, w1, w2, w3, w4, w5, q_ret, q_le, q_j, q_b, nle_i]
  by_cases h1 : k = 0
  · by_cases g : a < b <;> simp [h1, g]
  by_cases h2 : k = 1
  · by_cases g : b < a <;> simp [h2, g]
  by_cases h3 : k = 2
  · by_cases g : a = b <;> simp [h3, g]
  by_cases h4 : k = 3
  · simp [h4]
  by_cases h5 : k = 4
  · simp [h5]
  by_cases h6 : k = 5
  · simp [h6]
  by_cases g : b = 0
  · simp [h1, h2, h3, h4, h5, h6, g]
  · rw [q_nz g, q_ret]
    simp [h1, h2, h3, h4, h5, h6, g]
def seg (f : Nat → Int32) (a : Nat) (C : List Nat) : Prop := ∀ i, i < C.length → f (a + i) = nI (C.getD i 0)
theorem rnc_step {o : Nat → Nat} {g : Nat → Int32} {C : List Nat} {i : Nat} {s r : Nat × (Nat → Int32)} (hi' : i < C.length) (h : rnc o g (C.drop i) s = some r) : ∃ s', stp o g (C.getD i 0) s = some s' ∧ rnc o g (C.drop (i + 1)) s' = some r := by
  rw [List.drop_eq_getElem_cons hi'] at h
  have e : C.getD i 0 = C[i] := by
    rw [List.getD_eq_getElem?_getD, List.getElem?_eq_getElem hi']
    rfl
  unfold rnc at h
  rw [e]
  cases hs : stp o g C[i] s with
  | none => rw [hs] at h; cases h
  | some s1 =>
    rw [hs] at h
    exact ⟨s1, rfl, h⟩
theorem stp_cases {o : Nat → Nat} {g : Nat → Int32} {c : Nat} {s s' : Nat × (Nat → Int32)} (h : stp o g c s = some s') : (c < 1000 ∧ s' = (s.1 + 1, upd s.2 s.1 (nI c))) ∨ (∃ i, i < 8 ∧ c = 1000 + i ∧ s' = (s.1 + 1, upd s.2 s.1 (g i))) ∨ (c = 3000 ∧ ∃ d, s.1 = d + 1 ∧ s' = (d + 1, upd s.2 d (-(s.2 d)))) ∨ (∃ k, k < 128 ∧ c = 2000 + k ∧ ∃ d, s.1 = d + 2 ∧ s' = (d + 1, upd s.2 d (jX (o k) (s.2 d) (s.2 (d + 1))))) := by
  unfold stp at h
  by_cases h1 : c < 1000
  · rw [if_pos h1] at h
    exact Or.inl ⟨h1, (Option.some.inj h).symm⟩
  rw [if_neg h1] at h
  by_cases h2 : c < 1008
  · rw [if_pos h2] at h
    exact Or.inr (Or.inl ⟨c - 1000, by omega, by omega, (Option.some.inj h).symm⟩)
  rw [if_neg h2] at h
  by_cases h3 : c = 3000
  · rw [if_pos h3] at h
    by_cases h4 : 1 ≤ s.1
    · rw [if_pos h4] at h
      refine Or.inr (Or.inr (Or.inl ⟨h3, s.1 - 1, by omega, ?_⟩))
      rw [← Option.some.inj h, show s.1 - 1 + 1 = s.1 by omega]
    · rw [if_neg h4] at h; cases h
  rw [if_neg h3] at h
  by_cases h4 : 2000 ≤ c ∧ c < 2128 ∧ 2 ≤ s.1
  · rw [if_pos h4] at h
    refine Or.inr (Or.inr (Or.inr ⟨c - 2000, by omega, by omega, s.1 - 2, by omega, ?_⟩))
    rw [← Option.some.inj h, show s.1 - 2 + 1 = s.1 - 1 by omega]
  · rw [if_neg h4] at h; cases h
theorem x_value {C : List Nat} {e : (Nat → Int32) → Int32} {S : zS} {r : Nat} (h : EV id C e) (n1 : 1 ≤ C.length) (n2 : C.length ≤ 40) (e3 : S.1 16 3 = nI C.length) (hs : seg (S.1 17) 0 C) (r1 : r ≠ 16) (r2 : r ≠ 17) (r3 : r ≠ 19) : ∃ f, p_X7_valueBy r 8 S = some (e (S.1 r), zpr S 19 f) := by
  obtain ⟨ff, h1, h2, -⟩ := h (S.1 r) 0 (S.1 19)
  have key : zq (p_X7_valueBy r 8) S (fun x S' => x = e (S.1 r) ∧ ∃ f, S' = zpr S 19 f) := by
    have l8 : ((8 : Int32) ≤ Int32.ofNat 8) = True := eq_true (by decide)
    have ne : (nI C.length = 0) = False := eq_false (by rw [show (0 : Int32) = nI 0 from rfl, nI_eqP (by omega) (by omega)]; omega)
    unfold p_X7_valueBy
    simp only [q_le, l8, i_T, i_F, not_true_eq_false, and_true, q_gi, e3, q_eq, ne, true_and, not_false_eq_true]
    refine q_for (A := Nat) (fun t i => (nI t, nI i)) C.length (fun t i S' => ∃ f, S' = zpr S 19 f ∧ t ≤ i ∧ rnc id (S.1 r) (C.drop i) (t, f) = some (1, ff)) (by omega) ?_ ?_ 0 0 S (Nat.zero_le _) ⟨S.1 19, zpr_id.symm, by omega, h1⟩
    · rintro t i S' hi' ⟨f, rfl, ht, hr⟩ rc next
      obtain ⟨⟨t', f'⟩, s1, s2⟩ := rnc_step hi' hr
      have hi40 : i < 40 := by omega
      have ht40 : t < 40 := by omega
      have sc := hs i hi'
      rw [Nat.zero_add] at sc
      unfold p_X7_valueBy_b40
      simp only [q_gi, zpr_1]
      rcases stp_cases s1 with ⟨c1, c2⟩ | ⟨k, k8, c1, c2⟩ | ⟨c1, d, c2, c3⟩ | ⟨k, k8, c1, d, c2, c3⟩
      · cases c2
        have a1 : ((2000 : Int32) ≤ nI (C.getD i 0)) = False := eq_false (by rw [show (2000 : Int32) = nI 2000 from rfl, nI_leP (by omega) (by omega)]; omega)
        have a2 : ((1000 : Int32) ≤ nI (C.getD i 0)) = False := eq_false (by rw [show (1000 : Int32) = nI 1000 from rfl, nI_leP (by omega) (by omega)]; omega)
        have a3 : ((40 : Int32) ≤ nI t) = False := eq_false (by rw [show (40 : Int32) = nI 40 from rfl, nI_leP (by omega) (by omega)]; omega)
        simp (disch := first | assumption | omega | rfl | (simp only [zpi_d, zpl_d, zpr_1, zpr_2, zpq_1, zpq_2, zpr_o, zpq_o, Nat.reduceAdd, Nat.reduceEqDiff, Nat.reduceMul, reduceIte, ite_true, ite_false, if_true, if_false, reduceCtorEq, eq_self, iff_self, i_T, i_F, implies_true, false_and, and_false, ne_m5_m4, ne_m5_m3, ne_m5_m2, ne_m5_m1, ne_m5_0, ne_m5_1, ne_m5_2, ne_m5_3, ne_m4_m5, ne_m4_m3, ne_m4_m2, ne_m4_m1, ne_m4_0, ne_m4_1, ne_m4_2, ne_m4_3, ne_m3_m5, ne_m3_m4, ne_m3_m2, ne_m3_m1, ne_m3_0, ne_m3_1, ne_m3_2, ne_m3_3, ne_m2_m5, ne_m2_m4, ne_m2_m3, ne_m2_m1, ne_m2_0, ne_m2_1, ne_m2_2, ne_m2_3, ne_m1_m5, ne_m1_m4, ne_m1_m3, ne_m1_m2, ne_m1_0, ne_m1_1, ne_m1_2, ne_m1_3, ne_0_m5, ne_0_m4, ne_0_m3, ne_0_m2, ne_0_m1, ne_0_1, ne_0_2, ne_0_3, ne_1_m5, ne_1_m4, ne_1_m3, ne_1_m2, ne_1_m1, ne_1_0, ne_1_2, ne_1_3, ne_2_m5, ne_2_m4, ne_2_m3, ne_2_m2, ne_2_m1, ne_2_0, ne_2_1, ne_2_3, ne_3_m5, ne_3_m4, ne_3_m3, ne_3_m2, ne_3_m1, ne_3_0, ne_3_1, ne_3_2, le0_m5, lt0_m5, le0_m4, lt0_m4, le0_m3, lt0_m3, le0_m2, lt0_m2, le0_m1, lt0_m1, le0_0, lt0_0, le0_1, lt0_1, le0_2, lt0_2, le0_3, lt0_3, Nat.reduceLT, Nat.reduceLeDiff, ne_eq, not_true_eq_false, not_false_eq_true, true_and, and_true, Nat.succ_ne_self, upd_ap] <;> assumption) | fail) only [q_ret, q_gi, q_gl, q_si, q_sl, q_j, q_b, q_eq, q_lt, q_le, q_nz2, q_nz8, q_nz10, q_nz16, q_nz24, q_rz0, q_rz1, q_rzb, i_T, i_F, not_true_eq_false, not_false_eq_true, true_and, and_true, implies_true, q_al_0, q_al_1, q_al_2, q_al_3, q_al_4, q_al_5, q_al_6, q_al_7, q_as_0, q_as_1, q_as_2, q_as_3, q_as_4, q_as_5, q_as_6, q_as_7, q_a42, q_s42, q_alN, q_asN, q_allN, q_aslN, q_am_0, q_am_1, q_am_2, q_am_3, q_am_4, q_am_5, q_am_6, q_ms_0, q_ms_1, q_ms_2, q_ms_3, q_ms_4, q_ms_5, q_ms_6, zpi_d, zpl_d, zpr_1, zpr_2, zpq_1, zpq_2, zpr_o, zpq_o, Nat.reduceAdd, Nat.reduceEqDiff, Nat.reduceMul, reduceIte, ite_true, ite_false, if_true, if_false, reduceCtorEq, eq_self, iff_self, i_T, i_F, implies_true, false_and, and_false, ne_m5_m4, ne_m5_m3, ne_m5_m2, ne_m5_m1, ne_m5_0, ne_m5_1, ne_m5_2, ne_m5_3, ne_m4_m5, ne_m4_m3, ne_m4_m2, ne_m4_m1, ne_m4_0, ne_m4_1, ne_m4_2, ne_m4_3, ne_m3_m5, ne_m3_m4, ne_m3_m2, ne_m3_m1, ne_m3_0, ne_m3_1, ne_m3_2, ne_m3_3, ne_m2_m5, ne_m2_m4, ne_m2_m3, ne_m2_m1, ne_m2_0, ne_m2_1, ne_m2_2, ne_m2_3, ne_m1_m5, ne_m1_m4, ne_m1_m3, ne_m1_m2, ne_m1_0, ne_m1_1, ne_m1_2, ne_m1_3, ne_0_m5, ne_0_m4, ne_0_m3, ne_0_m2, ne_0_m1, ne_0_1, ne_0_2, ne_0_3, ne_1_m5, ne_1_m4, ne_1_m3, ne_1_m2, ne_1_m1, ne_1_0, ne_1_2, ne_1_3, ne_2_m5, ne_2_m4, ne_2_m3, ne_2_m2, ne_2_m1, ne_2_0, ne_2_1, ne_2_3, ne_3_m5, ne_3_m4, ne_3_m3, ne_3_m2, ne_3_m1, ne_3_0, ne_3_1, ne_3_2, le0_m5, lt0_m5, le0_m4, lt0_m4, le0_m3, lt0_m3, le0_m2, lt0_m2, le0_m1, lt0_m1, le0_0, lt0_0, le0_1, lt0_1, le0_2, lt0_2, le0_3, lt0_3, Nat.reduceLT, Nat.reduceLeDiff, ne_eq, not_true_eq_false, not_false_eq_true, true_and, and_true, Nat.succ_ne_self, bI_0, bI_1, Classical.not_not, and_self, or_self, or_true, true_or, false_or, or_false, and_false, false_and, e3, nI_leP, le_F, sc, a1, a2, a3, nI_1]
        exact next (t + 1) _ ⟨_, rfl, by omega, s2⟩
      · cases c2
        rw [c1] at sc
        have a1 : ((2000 : Int32) ≤ nI (1000 + k)) = False := eq_false (by rw [show (2000 : Int32) = nI 2000 from rfl, nI_leP (by omega) (by omega)]; omega)
        have a2 : ((1000 : Int32) ≤ nI (1000 + k)) = True := eq_true (by rw [show (1000 : Int32) = nI 1000 from rfl, nI_leP (by omega) (by omega)]; omega)
        have a3 : ((40 : Int32) ≤ nI t) = False := eq_false (by rw [show (40 : Int32) = nI 40 from rfl, nI_leP (by omega) (by omega)]; omega)
        have r3' : (r = 19) = False := eq_false r3
        simp (disch := first | assumption | omega | rfl | (simp only [zpi_d, zpl_d, zpr_1, zpr_2, zpq_1, zpq_2, zpr_o, zpq_o, Nat.reduceAdd, Nat.reduceEqDiff, Nat.reduceMul, reduceIte, ite_true, ite_false, if_true, if_false, reduceCtorEq, eq_self, iff_self, i_T, i_F, implies_true, false_and, and_false, ne_m5_m4, ne_m5_m3, ne_m5_m2, ne_m5_m1, ne_m5_0, ne_m5_1, ne_m5_2, ne_m5_3, ne_m4_m5, ne_m4_m3, ne_m4_m2, ne_m4_m1, ne_m4_0, ne_m4_1, ne_m4_2, ne_m4_3, ne_m3_m5, ne_m3_m4, ne_m3_m2, ne_m3_m1, ne_m3_0, ne_m3_1, ne_m3_2, ne_m3_3, ne_m2_m5, ne_m2_m4, ne_m2_m3, ne_m2_m1, ne_m2_0, ne_m2_1, ne_m2_2, ne_m2_3, ne_m1_m5, ne_m1_m4, ne_m1_m3, ne_m1_m2, ne_m1_0, ne_m1_1, ne_m1_2, ne_m1_3, ne_0_m5, ne_0_m4, ne_0_m3, ne_0_m2, ne_0_m1, ne_0_1, ne_0_2, ne_0_3, ne_1_m5, ne_1_m4, ne_1_m3, ne_1_m2, ne_1_m1, ne_1_0, ne_1_2, ne_1_3, ne_2_m5, ne_2_m4, ne_2_m3, ne_2_m2, ne_2_m1, ne_2_0, ne_2_1, ne_2_3, ne_3_m5, ne_3_m4, ne_3_m3, ne_3_m2, ne_3_m1, ne_3_0, ne_3_1, ne_3_2, le0_m5, lt0_m5, le0_m4, lt0_m4, le0_m3, lt0_m3, le0_m2, lt0_m2, le0_m1, lt0_m1, le0_0, lt0_0, le0_1, lt0_1, le0_2, lt0_2, le0_3, lt0_3, Nat.reduceLT, Nat.reduceLeDiff, ne_eq, not_true_eq_false, not_false_eq_true, true_and, and_true, Nat.succ_ne_self, upd_ap] <;> assumption) | fail) only [q_ret, q_gi, q_gl, q_si, q_sl, q_j, q_b, q_eq, q_lt, q_le, q_nz2, q_nz8, q_nz10, q_nz16, q_nz24, q_rz0, q_rz1, q_rzb, i_T, i_F, not_true_eq_false, not_false_eq_true, true_and, and_true, implies_true, q_al_0, q_al_1, q_al_2, q_al_3, q_al_4, q_al_5, q_al_6, q_al_7, q_as_0, q_as_1, q_as_2, q_as_3, q_as_4, q_as_5, q_as_6, q_as_7, q_a42, q_s42, q_alN, q_asN, q_allN, q_aslN, q_am_0, q_am_1, q_am_2, q_am_3, q_am_4, q_am_5, q_am_6, q_ms_0, q_ms_1, q_ms_2, q_ms_3, q_ms_4, q_ms_5, q_ms_6, zpi_d, zpl_d, zpr_1, zpr_2, zpq_1, zpq_2, zpr_o, zpq_o, Nat.reduceAdd, Nat.reduceEqDiff, Nat.reduceMul, reduceIte, ite_true, ite_false, if_true, if_false, reduceCtorEq, eq_self, iff_self, i_T, i_F, implies_true, false_and, and_false, ne_m5_m4, ne_m5_m3, ne_m5_m2, ne_m5_m1, ne_m5_0, ne_m5_1, ne_m5_2, ne_m5_3, ne_m4_m5, ne_m4_m3, ne_m4_m2, ne_m4_m1, ne_m4_0, ne_m4_1, ne_m4_2, ne_m4_3, ne_m3_m5, ne_m3_m4, ne_m3_m2, ne_m3_m1, ne_m3_0, ne_m3_1, ne_m3_2, ne_m3_3, ne_m2_m5, ne_m2_m4, ne_m2_m3, ne_m2_m1, ne_m2_0, ne_m2_1, ne_m2_2, ne_m2_3, ne_m1_m5, ne_m1_m4, ne_m1_m3, ne_m1_m2, ne_m1_0, ne_m1_1, ne_m1_2, ne_m1_3, ne_0_m5, ne_0_m4, ne_0_m3, ne_0_m2, ne_0_m1, ne_0_1, ne_0_2, ne_0_3, ne_1_m5, ne_1_m4, ne_1_m3, ne_1_m2, ne_1_m1, ne_1_0, ne_1_2, ne_1_3, ne_2_m5, ne_2_m4, ne_2_m3, ne_2_m2, ne_2_m1, ne_2_0, ne_2_1, ne_2_3, ne_3_m5, ne_3_m4, ne_3_m3, ne_3_m2, ne_3_m1, ne_3_0, ne_3_1, ne_3_2, le0_m5, lt0_m5, le0_m4, lt0_m4, le0_m3, lt0_m3, le0_m2, lt0_m2, le0_m1, lt0_m1, le0_0, lt0_0, le0_1, lt0_1, le0_2, lt0_2, le0_3, lt0_3, Nat.reduceLT, Nat.reduceLeDiff, ne_eq, not_true_eq_false, not_false_eq_true, true_and, and_true, Nat.succ_ne_self, bI_0, bI_1, Classical.not_not, and_self, or_self, or_true, true_or, false_or, or_false, and_false, false_and, e3, nI_leP, le_F, sc, a1, a2, a3, cd_k k k8, r3', nI_1]
        exact next (t + 1) _ ⟨_, rfl, by omega, s2⟩
      · cases c3
        have c2 : t = d + 1 := c2
        subst c2
        rw [c1] at sc
        have a1 : ((2000 : Int32) ≤ nI 3000) = True := eq_true (by decide)
        have a2 : (nI 3000 = 3000) = True := eq_true rfl
        have a3 : (nI (d + 1) < 1) = False := eq_false (by rw [show (1 : Int32) = nI 1 from rfl, nI_ltP (by omega) (by omega)]; omega)
        have hd : d < 40 := by omega
        simp (disch := first | assumption | omega | rfl | (simp only [zpi_d, zpl_d, zpr_1, zpr_2, zpq_1, zpq_2, zpr_o, zpq_o, Nat.reduceAdd, Nat.reduceEqDiff, Nat.reduceMul, reduceIte, ite_true, ite_false, if_true, if_false, reduceCtorEq, eq_self, iff_self, i_T, i_F, implies_true, false_and, and_false, ne_m5_m4, ne_m5_m3, ne_m5_m2, ne_m5_m1, ne_m5_0, ne_m5_1, ne_m5_2, ne_m5_3, ne_m4_m5, ne_m4_m3, ne_m4_m2, ne_m4_m1, ne_m4_0, ne_m4_1, ne_m4_2, ne_m4_3, ne_m3_m5, ne_m3_m4, ne_m3_m2, ne_m3_m1, ne_m3_0, ne_m3_1, ne_m3_2, ne_m3_3, ne_m2_m5, ne_m2_m4, ne_m2_m3, ne_m2_m1, ne_m2_0, ne_m2_1, ne_m2_2, ne_m2_3, ne_m1_m5, ne_m1_m4, ne_m1_m3, ne_m1_m2, ne_m1_0, ne_m1_1, ne_m1_2, ne_m1_3, ne_0_m5, ne_0_m4, ne_0_m3, ne_0_m2, ne_0_m1, ne_0_1, ne_0_2, ne_0_3, ne_1_m5, ne_1_m4, ne_1_m3, ne_1_m2, ne_1_m1, ne_1_0, ne_1_2, ne_1_3, ne_2_m5, ne_2_m4, ne_2_m3, ne_2_m2, ne_2_m1, ne_2_0, ne_2_1, ne_2_3, ne_3_m5, ne_3_m4, ne_3_m3, ne_3_m2, ne_3_m1, ne_3_0, ne_3_1, ne_3_2, le0_m5, lt0_m5, le0_m4, lt0_m4, le0_m3, lt0_m3, le0_m2, lt0_m2, le0_m1, lt0_m1, le0_0, lt0_0, le0_1, lt0_1, le0_2, lt0_2, le0_3, lt0_3, Nat.reduceLT, Nat.reduceLeDiff, ne_eq, not_true_eq_false, not_false_eq_true, true_and, and_true, Nat.succ_ne_self, upd_ap] <;> assumption) | fail) only [q_ret, q_gi, q_gl, q_si, q_sl, q_j, q_b, q_eq, q_lt, q_le, q_nz2, q_nz8, q_nz10, q_nz16, q_nz24, q_rz0, q_rz1, q_rzb, i_T, i_F, not_true_eq_false, not_false_eq_true, true_and, and_true, implies_true, q_al_0, q_al_1, q_al_2, q_al_3, q_al_4, q_al_5, q_al_6, q_al_7, q_as_0, q_as_1, q_as_2, q_as_3, q_as_4, q_as_5, q_as_6, q_as_7, q_a42, q_s42, q_alN, q_asN, q_allN, q_aslN, q_am_0, q_am_1, q_am_2, q_am_3, q_am_4, q_am_5, q_am_6, q_ms_0, q_ms_1, q_ms_2, q_ms_3, q_ms_4, q_ms_5, q_ms_6, zpi_d, zpl_d, zpr_1, zpr_2, zpq_1, zpq_2, zpr_o, zpq_o, Nat.reduceAdd, Nat.reduceEqDiff, Nat.reduceMul, reduceIte, ite_true, ite_false, if_true, if_false, reduceCtorEq, eq_self, iff_self, i_T, i_F, implies_true, false_and, and_false, ne_m5_m4, ne_m5_m3, ne_m5_m2, ne_m5_m1, ne_m5_0, ne_m5_1, ne_m5_2, ne_m5_3, ne_m4_m5, ne_m4_m3, ne_m4_m2, ne_m4_m1, ne_m4_0, ne_m4_1, ne_m4_2, ne_m4_3, ne_m3_m5, ne_m3_m4, ne_m3_m2, ne_m3_m1, ne_m3_0, ne_m3_1, ne_m3_2, ne_m3_3, ne_m2_m5, ne_m2_m4, ne_m2_m3, ne_m2_m1, ne_m2_0, ne_m2_1, ne_m2_2, ne_m2_3, ne_m1_m5, ne_m1_m4, ne_m1_m3, ne_m1_m2, ne_m1_0, ne_m1_1, ne_m1_2, ne_m1_3, ne_0_m5, ne_0_m4, ne_0_m3, ne_0_m2, ne_0_m1, ne_0_1, ne_0_2, ne_0_3, ne_1_m5, ne_1_m4, ne_1_m3, ne_1_m2, ne_1_m1, ne_1_0, ne_1_2, ne_1_3, ne_2_m5, ne_2_m4, ne_2_m3, ne_2_m2, ne_2_m1, ne_2_0, ne_2_1, ne_2_3, ne_3_m5, ne_3_m4, ne_3_m3, ne_3_m2, ne_3_m1, ne_3_0, ne_3_1, ne_3_2, le0_m5, lt0_m5, le0_m4, lt0_m4, le0_m3, lt0_m3, le0_m2, lt0_m2, le0_m1, lt0_m1, le0_0, lt0_0, le0_1, lt0_1, le0_2, lt0_2, le0_3, lt0_3, Nat.reduceLT, Nat.reduceLeDiff, ne_eq, not_true_eq_false, not_false_eq_true, true_and, and_true, Nat.succ_ne_self, bI_0, bI_1, Classical.not_not, and_self, or_self, or_true, true_or, false_or, or_false, and_false, false_and, e3, nI_leP, le_F, sc, a1, a2, a3, nI_pred, nI_1]
        exact next (d + 1) _ ⟨_, rfl, by omega, s2⟩
      · cases c3
        have c2 : t = d + 2 := c2
        subst c2
        rw [c1] at sc
        have a1 : ((2000 : Int32) ≤ nI (2000 + k)) = True := eq_true (by rw [show (2000 : Int32) = nI 2000 from rfl, nI_leP (by omega) (by omega)]; omega)
        have a2 : (nI (2000 + k) = 3000) = False := eq_false (by rw [show (3000 : Int32) = nI 3000 from rfl, nI_eqP (by omega) (by omega)]; omega)
        have a3 : (nI (d + 2) < 2) = False := eq_false (by rw [show (2 : Int32) = nI 2 from rfl, nI_ltP (by omega) (by omega)]; omega)
        have hd : d < 40 := by omega
        have hd1 : d + 1 < 40 := by omega
        have p1 : nI (d + 2) + -1 = nI (d + 1) := nI_p1
        simp (disch := first | assumption | omega | rfl | (simp only [zpi_d, zpl_d, zpr_1, zpr_2, zpq_1, zpq_2, zpr_o, zpq_o, Nat.reduceAdd, Nat.reduceEqDiff, Nat.reduceMul, reduceIte, ite_true, ite_false, if_true, if_false, reduceCtorEq, eq_self, iff_self, i_T, i_F, implies_true, false_and, and_false, ne_m5_m4, ne_m5_m3, ne_m5_m2, ne_m5_m1, ne_m5_0, ne_m5_1, ne_m5_2, ne_m5_3, ne_m4_m5, ne_m4_m3, ne_m4_m2, ne_m4_m1, ne_m4_0, ne_m4_1, ne_m4_2, ne_m4_3, ne_m3_m5, ne_m3_m4, ne_m3_m2, ne_m3_m1, ne_m3_0, ne_m3_1, ne_m3_2, ne_m3_3, ne_m2_m5, ne_m2_m4, ne_m2_m3, ne_m2_m1, ne_m2_0, ne_m2_1, ne_m2_2, ne_m2_3, ne_m1_m5, ne_m1_m4, ne_m1_m3, ne_m1_m2, ne_m1_0, ne_m1_1, ne_m1_2, ne_m1_3, ne_0_m5, ne_0_m4, ne_0_m3, ne_0_m2, ne_0_m1, ne_0_1, ne_0_2, ne_0_3, ne_1_m5, ne_1_m4, ne_1_m3, ne_1_m2, ne_1_m1, ne_1_0, ne_1_2, ne_1_3, ne_2_m5, ne_2_m4, ne_2_m3, ne_2_m2, ne_2_m1, ne_2_0, ne_2_1, ne_2_3, ne_3_m5, ne_3_m4, ne_3_m3, ne_3_m2, ne_3_m1, ne_3_0, ne_3_1, ne_3_2, le0_m5, lt0_m5, le0_m4, lt0_m4, le0_m3, lt0_m3, le0_m2, lt0_m2, le0_m1, lt0_m1, le0_0, lt0_0, le0_1, lt0_1, le0_2, lt0_2, le0_3, lt0_3, Nat.reduceLT, Nat.reduceLeDiff, ne_eq, not_true_eq_false, not_false_eq_true, true_and, and_true, Nat.succ_ne_self, upd_ap] <;> assumption) | fail) only [q_ret, q_gi, q_gl, q_si, q_sl, q_j, q_b, q_eq, q_lt, q_le, q_nz2, q_nz8, q_nz10, q_nz16, q_nz24, q_rz0, q_rz1, q_rzb, i_T, i_F, not_true_eq_false, not_false_eq_true, true_and, and_true, implies_true, q_al_0, q_al_1, q_al_2, q_al_3, q_al_4, q_al_5, q_al_6, q_al_7, q_as_0, q_as_1, q_as_2, q_as_3, q_as_4, q_as_5, q_as_6, q_as_7, q_a42, q_s42, q_alN, q_asN, q_allN, q_aslN, q_am_0, q_am_1, q_am_2, q_am_3, q_am_4, q_am_5, q_am_6, q_ms_0, q_ms_1, q_ms_2, q_ms_3, q_ms_4, q_ms_5, q_ms_6, zpi_d, zpl_d, zpr_1, zpr_2, zpq_1, zpq_2, zpr_o, zpq_o, Nat.reduceAdd, Nat.reduceEqDiff, Nat.reduceMul, reduceIte, ite_true, ite_false, if_true, if_false, reduceCtorEq, eq_self, iff_self, i_T, i_F, implies_true, false_and, and_false, ne_m5_m4, ne_m5_m3, ne_m5_m2, ne_m5_m1, ne_m5_0, ne_m5_1, ne_m5_2, ne_m5_3, ne_m4_m5, ne_m4_m3, ne_m4_m2, ne_m4_m1, ne_m4_0, ne_m4_1, ne_m4_2, ne_m4_3, ne_m3_m5, ne_m3_m4, ne_m3_m2, ne_m3_m1, ne_m3_0, ne_m3_1, ne_m3_2, ne_m3_3, ne_m2_m5, ne_m2_m4, ne_m2_m3, ne_m2_m1, ne_m2_0, ne_m2_1, ne_m2_2, ne_m2_3, ne_m1_m5, ne_m1_m4, ne_m1_m3, ne_m1_m2, ne_m1_0, ne_m1_1, ne_m1_2, ne_m1_3, ne_0_m5, ne_0_m4, ne_0_m3, ne_0_m2, ne_0_m1, ne_0_1, ne_0_2, ne_0_3, ne_1_m5, ne_1_m4, ne_1_m3, ne_1_m2, ne_1_m1, ne_1_0, ne_1_2, ne_1_3, ne_2_m5, ne_2_m4, ne_2_m3, ne_2_m2, ne_2_m1, ne_2_0, ne_2_1, ne_2_3, ne_3_m5, ne_3_m4, ne_3_m3, ne_3_m2, ne_3_m1, ne_3_0, ne_3_1, ne_3_2, le0_m5, lt0_m5, le0_m4, lt0_m4, le0_m3, lt0_m3, le0_m2, lt0_m2, le0_m1, lt0_m1, le0_0, lt0_0, le0_1, lt0_1, le0_2, lt0_2, le0_3, lt0_3, Nat.reduceLT, Nat.reduceLeDiff, ne_eq, not_true_eq_false, not_false_eq_true, true_and, and_true, Nat.succ_ne_self, bI_0, bI_1, Classical.not_not, and_self, or_self, or_true, true_or, false_or, or_false, and_false, false_and, e3, nI_leP, le_F, sc, a1, a2, a3, p1, nI_pred, sub2000, q_joined, nI_1]
        exact next (d + 1) _ ⟨_, rfl, by omega, s2⟩
    · rintro t S' ⟨f, rfl, ht, hr⟩ rc
      rw [List.drop_length] at hr
      cases hr
      unfold p_X7_valueBy_b40
      simp (disch := first | assumption | omega | rfl | (simp only [zpi_d, zpl_d, zpr_1, zpr_2, zpq_1, zpq_2, zpr_o, zpq_o, Nat.reduceAdd, Nat.reduceEqDiff, Nat.reduceMul, reduceIte, ite_true, ite_false, if_true, if_false, reduceCtorEq, eq_self, iff_self, i_T, i_F, implies_true, false_and, and_false, ne_m5_m4, ne_m5_m3, ne_m5_m2, ne_m5_m1, ne_m5_0, ne_m5_1, ne_m5_2, ne_m5_3, ne_m4_m5, ne_m4_m3, ne_m4_m2, ne_m4_m1, ne_m4_0, ne_m4_1, ne_m4_2, ne_m4_3, ne_m3_m5, ne_m3_m4, ne_m3_m2, ne_m3_m1, ne_m3_0, ne_m3_1, ne_m3_2, ne_m3_3, ne_m2_m5, ne_m2_m4, ne_m2_m3, ne_m2_m1, ne_m2_0, ne_m2_1, ne_m2_2, ne_m2_3, ne_m1_m5, ne_m1_m4, ne_m1_m3, ne_m1_m2, ne_m1_0, ne_m1_1, ne_m1_2, ne_m1_3, ne_0_m5, ne_0_m4, ne_0_m3, ne_0_m2, ne_0_m1, ne_0_1, ne_0_2, ne_0_3, ne_1_m5, ne_1_m4, ne_1_m3, ne_1_m2, ne_1_m1, ne_1_0, ne_1_2, ne_1_3, ne_2_m5, ne_2_m4, ne_2_m3, ne_2_m2, ne_2_m1, ne_2_0, ne_2_1, ne_2_3, ne_3_m5, ne_3_m4, ne_3_m3, ne_3_m2, ne_3_m1, ne_3_0, ne_3_1, ne_3_2, le0_m5, lt0_m5, le0_m4, lt0_m4, le0_m3, lt0_m3, le0_m2, lt0_m2, le0_m1, lt0_m1, le0_0, lt0_0, le0_1, lt0_1, le0_2, lt0_2, le0_3, lt0_3, Nat.reduceLT, Nat.reduceLeDiff, ne_eq, not_true_eq_false, not_false_eq_true, true_and, and_true, Nat.succ_ne_self, upd_ap] <;> assumption) | fail) only [q_ret, q_gi, q_gl, q_si, q_sl, q_j, q_b, q_eq, q_lt, q_le, q_nz2, q_nz8, q_nz10, q_nz16, q_nz24, q_rz0, q_rz1, q_rzb, i_T, i_F, not_true_eq_false, not_false_eq_true, true_and, and_true, implies_true, q_al_0, q_al_1, q_al_2, q_al_3, q_al_4, q_al_5, q_al_6, q_al_7, q_as_0, q_as_1, q_as_2, q_as_3, q_as_4, q_as_5, q_as_6, q_as_7, q_a42, q_s42, q_alN, q_asN, q_allN, q_aslN, q_am_0, q_am_1, q_am_2, q_am_3, q_am_4, q_am_5, q_am_6, q_ms_0, q_ms_1, q_ms_2, q_ms_3, q_ms_4, q_ms_5, q_ms_6, zpi_d, zpl_d, zpr_1, zpr_2, zpq_1, zpq_2, zpr_o, zpq_o, Nat.reduceAdd, Nat.reduceEqDiff, Nat.reduceMul, reduceIte, ite_true, ite_false, if_true, if_false, reduceCtorEq, eq_self, iff_self, i_T, i_F, implies_true, false_and, and_false, ne_m5_m4, ne_m5_m3, ne_m5_m2, ne_m5_m1, ne_m5_0, ne_m5_1, ne_m5_2, ne_m5_3, ne_m4_m5, ne_m4_m3, ne_m4_m2, ne_m4_m1, ne_m4_0, ne_m4_1, ne_m4_2, ne_m4_3, ne_m3_m5, ne_m3_m4, ne_m3_m2, ne_m3_m1, ne_m3_0, ne_m3_1, ne_m3_2, ne_m3_3, ne_m2_m5, ne_m2_m4, ne_m2_m3, ne_m2_m1, ne_m2_0, ne_m2_1, ne_m2_2, ne_m2_3, ne_m1_m5, ne_m1_m4, ne_m1_m3, ne_m1_m2, ne_m1_0, ne_m1_1, ne_m1_2, ne_m1_3, ne_0_m5, ne_0_m4, ne_0_m3, ne_0_m2, ne_0_m1, ne_0_1, ne_0_2, ne_0_3, ne_1_m5, ne_1_m4, ne_1_m3, ne_1_m2, ne_1_m1, ne_1_0, ne_1_2, ne_1_3, ne_2_m5, ne_2_m4, ne_2_m3, ne_2_m2, ne_2_m1, ne_2_0, ne_2_1, ne_2_3, ne_3_m5, ne_3_m4, ne_3_m3, ne_3_m2, ne_3_m1, ne_3_0, ne_3_1, ne_3_2, le0_m5, lt0_m5, le0_m4, lt0_m4, le0_m3, lt0_m3, le0_m2, lt0_m2, le0_m1, lt0_m1, le0_0, lt0_0, le0_1, lt0_1, le0_2, lt0_2, le0_3, lt0_3, Nat.reduceLT, Nat.reduceLeDiff, ne_eq, not_true_eq_false, not_false_eq_true, true_and, and_true, Nat.succ_ne_self, bI_0, bI_1, Classical.not_not, and_self, or_self, or_true, true_or, false_or, or_false, and_false, false_and, e3, nI_leP, le_T]
      exact ⟨h2, _, rfl⟩
  obtain ⟨x, S', g1, rfl, f, rfl⟩ := key
  exact ⟨f, g1⟩
theorem m_ruled {C : List Nat} {e : (Nat → Int32) → Int32} {T : zS} (h : EV mch C e) (n1 : 1 ≤ C.length) (n2 : C.length ≤ 40) (e3 : T.1 0 24 = nI C.length) (hs : seg (T.1 12) 0 C) : ∃ f, p_X12_ruled T = some (e (T.1 15), zpr T 14 f) := by
  obtain ⟨ff, h1, h2, -⟩ := h (T.1 15) 0 (T.1 14)
  have key : zq p_X12_ruled T (fun x T' => x = e (T.1 15) ∧ ∃ f, T' = zpr T 14 f) := by
    have ne : (nI C.length = 0) = False := eq_false (by rw [show (0 : Int32) = nI 0 from rfl, nI_eqP (by omega) (by omega)]; omega)
    unfold p_X12_ruled
    refine q_for (A := Nat) (fun t i => (nI t, nI i)) C.length (fun t i T' => ∃ f, T' = zpr T 14 f ∧ t ≤ i ∧ rnc mch (T.1 15) (C.drop i) (t, f) = some (1, ff)) (by omega) ?_ ?_ 0 0 T (Nat.zero_le _) ⟨T.1 14, zpr_id.symm, by omega, h1⟩
    · rintro t i T' hi' ⟨f, rfl, ht, hr⟩ rc next
      obtain ⟨⟨t', f'⟩, s1, s2⟩ := rnc_step hi' hr
      have hi40 : i < 80 := by omega
      have ht40 : t < 80 := by omega
      have sc := hs i hi'
      rw [Nat.zero_add] at sc
      unfold p_X12_ruled_b4
      simp only [q_gi, zpr_1]
      rcases stp_cases s1 with ⟨c1, c2⟩ | ⟨k, k8, c1, c2⟩ | ⟨c1, d, c2, c3⟩ | ⟨k, k8, c1, d, c2, c3⟩
      · cases c2
        have a1 : (nI (C.getD i 0) < 2000) = True := eq_true (by rw [show (2000 : Int32) = nI 2000 from rfl, nI_ltP (by omega) (by omega)]; omega)
        have a2 : (nI (C.getD i 0) < 1000) = True := eq_true (by rw [show (1000 : Int32) = nI 1000 from rfl, nI_ltP (by omega) (by omega)]; omega)
        have a3 : (nI (C.getD i 0) = 3000) = False := eq_false (by rw [show (3000 : Int32) = nI 3000 from rfl, nI_eqP (by omega) (by omega)]; omega)
        simp (disch := first | assumption | omega | rfl | (simp only [zpi_d, zpl_d, zpr_1, zpr_2, zpq_1, zpq_2, zpr_o, zpq_o, Nat.reduceAdd, Nat.reduceEqDiff, Nat.reduceMul, reduceIte, ite_true, ite_false, if_true, if_false, reduceCtorEq, eq_self, iff_self, i_T, i_F, implies_true, false_and, and_false, ne_m5_m4, ne_m5_m3, ne_m5_m2, ne_m5_m1, ne_m5_0, ne_m5_1, ne_m5_2, ne_m5_3, ne_m4_m5, ne_m4_m3, ne_m4_m2, ne_m4_m1, ne_m4_0, ne_m4_1, ne_m4_2, ne_m4_3, ne_m3_m5, ne_m3_m4, ne_m3_m2, ne_m3_m1, ne_m3_0, ne_m3_1, ne_m3_2, ne_m3_3, ne_m2_m5, ne_m2_m4, ne_m2_m3, ne_m2_m1, ne_m2_0, ne_m2_1, ne_m2_2, ne_m2_3, ne_m1_m5, ne_m1_m4, ne_m1_m3, ne_m1_m2, ne_m1_0, ne_m1_1, ne_m1_2, ne_m1_3, ne_0_m5, ne_0_m4, ne_0_m3, ne_0_m2, ne_0_m1, ne_0_1, ne_0_2, ne_0_3, ne_1_m5, ne_1_m4, ne_1_m3, ne_1_m2, ne_1_m1, ne_1_0, ne_1_2, ne_1_3, ne_2_m5, ne_2_m4, ne_2_m3, ne_2_m2, ne_2_m1, ne_2_0, ne_2_1, ne_2_3, ne_3_m5, ne_3_m4, ne_3_m3, ne_3_m2, ne_3_m1, ne_3_0, ne_3_1, ne_3_2, le0_m5, lt0_m5, le0_m4, lt0_m4, le0_m3, lt0_m3, le0_m2, lt0_m2, le0_m1, lt0_m1, le0_0, lt0_0, le0_1, lt0_1, le0_2, lt0_2, le0_3, lt0_3, Nat.reduceLT, Nat.reduceLeDiff, ne_eq, not_true_eq_false, not_false_eq_true, true_and, and_true, Nat.succ_ne_self, upd_ap] <;> assumption) | fail) only [q_ret, q_gi, q_gl, q_si, q_sl, q_j, q_b, q_eq, q_lt, q_le, q_nz2, q_nz8, q_nz10, q_nz16, q_nz24, q_rz0, q_rz1, q_rzb, i_T, i_F, not_true_eq_false, not_false_eq_true, true_and, and_true, implies_true, q_al_0, q_al_1, q_al_2, q_al_3, q_al_4, q_al_5, q_al_6, q_al_7, q_as_0, q_as_1, q_as_2, q_as_3, q_as_4, q_as_5, q_as_6, q_as_7, q_a42, q_s42, q_alN, q_asN, q_allN, q_aslN, q_am_0, q_am_1, q_am_2, q_am_3, q_am_4, q_am_5, q_am_6, q_ms_0, q_ms_1, q_ms_2, q_ms_3, q_ms_4, q_ms_5, q_ms_6, zpi_d, zpl_d, zpr_1, zpr_2, zpq_1, zpq_2, zpr_o, zpq_o, Nat.reduceAdd, Nat.reduceEqDiff, Nat.reduceMul, reduceIte, ite_true, ite_false, if_true, if_false, reduceCtorEq, eq_self, iff_self, i_T, i_F, implies_true, false_and, and_false, ne_m5_m4, ne_m5_m3, ne_m5_m2, ne_m5_m1, ne_m5_0, ne_m5_1, ne_m5_2, ne_m5_3, ne_m4_m5, ne_m4_m3, ne_m4_m2, ne_m4_m1, ne_m4_0, ne_m4_1, ne_m4_2, ne_m4_3, ne_m3_m5, ne_m3_m4, ne_m3_m2, ne_m3_m1, ne_m3_0, ne_m3_1, ne_m3_2, ne_m3_3, ne_m2_m5, ne_m2_m4, ne_m2_m3, ne_m2_m1, ne_m2_0, ne_m2_1, ne_m2_2, ne_m2_3, ne_m1_m5, ne_m1_m4, ne_m1_m3, ne_m1_m2, ne_m1_0, ne_m1_1, ne_m1_2, ne_m1_3, ne_0_m5, ne_0_m4, ne_0_m3, ne_0_m2, ne_0_m1, ne_0_1, ne_0_2, ne_0_3, ne_1_m5, ne_1_m4, ne_1_m3, ne_1_m2, ne_1_m1, ne_1_0, ne_1_2, ne_1_3, ne_2_m5, ne_2_m4, ne_2_m3, ne_2_m2, ne_2_m1, ne_2_0, ne_2_1, ne_2_3, ne_3_m5, ne_3_m4, ne_3_m3, ne_3_m2, ne_3_m1, ne_3_0, ne_3_1, ne_3_2, le0_m5, lt0_m5, le0_m4, lt0_m4, le0_m3, lt0_m3, le0_m2, lt0_m2, le0_m1, lt0_m1, le0_0, lt0_0, le0_1, lt0_1, le0_2, lt0_2, le0_3, lt0_3, Nat.reduceLT, Nat.reduceLeDiff, ne_eq, not_true_eq_false, not_false_eq_true, true_and, and_true, Nat.succ_ne_self, bI_0, bI_1, Classical.not_not, and_self, or_self, or_true, true_or, false_or, or_false, and_false, false_and, e3, nI_leP, le_F, sc, a1, a2, a3, nI_1]
        exact next (t + 1) _ ⟨_, rfl, by omega, s2⟩
      · cases c2
        rw [c1] at sc
        have a1 : (nI (1000 + k) < 2000) = True := eq_true (by rw [show (2000 : Int32) = nI 2000 from rfl, nI_ltP (by omega) (by omega)]; omega)
        have a2 : (nI (1000 + k) < 1000) = False := eq_false (by rw [show (1000 : Int32) = nI 1000 from rfl, nI_ltP (by omega) (by omega)]; omega)
        have a3 : (nI (1000 + k) = 3000) = False := eq_false (by rw [show (3000 : Int32) = nI 3000 from rfl, nI_eqP (by omega) (by omega)]; omega)
        simp (disch := first | assumption | omega | rfl | (simp only [zpi_d, zpl_d, zpr_1, zpr_2, zpq_1, zpq_2, zpr_o, zpq_o, Nat.reduceAdd, Nat.reduceEqDiff, Nat.reduceMul, reduceIte, ite_true, ite_false, if_true, if_false, reduceCtorEq, eq_self, iff_self, i_T, i_F, implies_true, false_and, and_false, ne_m5_m4, ne_m5_m3, ne_m5_m2, ne_m5_m1, ne_m5_0, ne_m5_1, ne_m5_2, ne_m5_3, ne_m4_m5, ne_m4_m3, ne_m4_m2, ne_m4_m1, ne_m4_0, ne_m4_1, ne_m4_2, ne_m4_3, ne_m3_m5, ne_m3_m4, ne_m3_m2, ne_m3_m1, ne_m3_0, ne_m3_1, ne_m3_2, ne_m3_3, ne_m2_m5, ne_m2_m4, ne_m2_m3, ne_m2_m1, ne_m2_0, ne_m2_1, ne_m2_2, ne_m2_3, ne_m1_m5, ne_m1_m4, ne_m1_m3, ne_m1_m2, ne_m1_0, ne_m1_1, ne_m1_2, ne_m1_3, ne_0_m5, ne_0_m4, ne_0_m3, ne_0_m2, ne_0_m1, ne_0_1, ne_0_2, ne_0_3, ne_1_m5, ne_1_m4, ne_1_m3, ne_1_m2, ne_1_m1, ne_1_0, ne_1_2, ne_1_3, ne_2_m5, ne_2_m4, ne_2_m3, ne_2_m2, ne_2_m1, ne_2_0, ne_2_1, ne_2_3, ne_3_m5, ne_3_m4, ne_3_m3, ne_3_m2, ne_3_m1, ne_3_0, ne_3_1, ne_3_2, le0_m5, lt0_m5, le0_m4, lt0_m4, le0_m3, lt0_m3, le0_m2, lt0_m2, le0_m1, lt0_m1, le0_0, lt0_0, le0_1, lt0_1, le0_2, lt0_2, le0_3, lt0_3, Nat.reduceLT, Nat.reduceLeDiff, ne_eq, not_true_eq_false, not_false_eq_true, true_and, and_true, Nat.succ_ne_self, upd_ap] <;> assumption) | fail) only [q_ret, q_gi, q_gl, q_si, q_sl, q_j, q_b, q_eq, q_lt, q_le, q_nz2, q_nz8, q_nz10, q_nz16, q_nz24, q_rz0, q_rz1, q_rzb, i_T, i_F, not_true_eq_false, not_false_eq_true, true_and, and_true, implies_true, q_al_0, q_al_1, q_al_2, q_al_3, q_al_4, q_al_5, q_al_6, q_al_7, q_as_0, q_as_1, q_as_2, q_as_3, q_as_4, q_as_5, q_as_6, q_as_7, q_a42, q_s42, q_alN, q_asN, q_allN, q_aslN, q_am_0, q_am_1, q_am_2, q_am_3, q_am_4, q_am_5, q_am_6, q_ms_0, q_ms_1, q_ms_2, q_ms_3, q_ms_4, q_ms_5, q_ms_6, zpi_d, zpl_d, zpr_1, zpr_2, zpq_1, zpq_2, zpr_o, zpq_o, Nat.reduceAdd, Nat.reduceEqDiff, Nat.reduceMul, reduceIte, ite_true, ite_false, if_true, if_false, reduceCtorEq, eq_self, iff_self, i_T, i_F, implies_true, false_and, and_false, ne_m5_m4, ne_m5_m3, ne_m5_m2, ne_m5_m1, ne_m5_0, ne_m5_1, ne_m5_2, ne_m5_3, ne_m4_m5, ne_m4_m3, ne_m4_m2, ne_m4_m1, ne_m4_0, ne_m4_1, ne_m4_2, ne_m4_3, ne_m3_m5, ne_m3_m4, ne_m3_m2, ne_m3_m1, ne_m3_0, ne_m3_1, ne_m3_2, ne_m3_3, ne_m2_m5, ne_m2_m4, ne_m2_m3, ne_m2_m1, ne_m2_0, ne_m2_1, ne_m2_2, ne_m2_3, ne_m1_m5, ne_m1_m4, ne_m1_m3, ne_m1_m2, ne_m1_0, ne_m1_1, ne_m1_2, ne_m1_3, ne_0_m5, ne_0_m4, ne_0_m3, ne_0_m2, ne_0_m1, ne_0_1, ne_0_2, ne_0_3, ne_1_m5, ne_1_m4, ne_1_m3, ne_1_m2, ne_1_m1, ne_1_0, ne_1_2, ne_1_3, ne_2_m5, ne_2_m4, ne_2_m3, ne_2_m2, ne_2_m1, ne_2_0, ne_2_1, ne_2_3, ne_3_m5, ne_3_m4, ne_3_m3, ne_3_m2, ne_3_m1, ne_3_0, ne_3_1, ne_3_2, le0_m5, lt0_m5, le0_m4, lt0_m4, le0_m3, lt0_m3, le0_m2, lt0_m2, le0_m1, lt0_m1, le0_0, lt0_0, le0_1, lt0_1, le0_2, lt0_2, le0_3, lt0_3, Nat.reduceLT, Nat.reduceLeDiff, ne_eq, not_true_eq_false, not_false_eq_true, true_and, and_true, Nat.succ_ne_self, bI_0, bI_1, Classical.not_not, and_self, or_self, or_true, true_or, false_or, or_false, and_false, false_and, e3, nI_leP, le_F, sc, a1, a2, a3, sub1000, nI_1]
        exact next (t + 1) _ ⟨_, rfl, by omega, s2⟩
      · cases c3
        have c2 : t = d + 1 := c2
        subst c2
        rw [c1] at sc
        have a2 : (nI 3000 = 3000) = True := eq_true rfl
        have hd : d < 80 := by omega
        simp (disch := first | assumption | omega | rfl | (simp only [zpi_d, zpl_d, zpr_1, zpr_2, zpq_1, zpq_2, zpr_o, zpq_o, Nat.reduceAdd, Nat.reduceEqDiff, Nat.reduceMul, reduceIte, ite_true, ite_false, if_true, if_false, reduceCtorEq, eq_self, iff_self, i_T, i_F, implies_true, false_and, and_false, ne_m5_m4, ne_m5_m3, ne_m5_m2, ne_m5_m1, ne_m5_0, ne_m5_1, ne_m5_2, ne_m5_3, ne_m4_m5, ne_m4_m3, ne_m4_m2, ne_m4_m1, ne_m4_0, ne_m4_1, ne_m4_2, ne_m4_3, ne_m3_m5, ne_m3_m4, ne_m3_m2, ne_m3_m1, ne_m3_0, ne_m3_1, ne_m3_2, ne_m3_3, ne_m2_m5, ne_m2_m4, ne_m2_m3, ne_m2_m1, ne_m2_0, ne_m2_1, ne_m2_2, ne_m2_3, ne_m1_m5, ne_m1_m4, ne_m1_m3, ne_m1_m2, ne_m1_0, ne_m1_1, ne_m1_2, ne_m1_3, ne_0_m5, ne_0_m4, ne_0_m3, ne_0_m2, ne_0_m1, ne_0_1, ne_0_2, ne_0_3, ne_1_m5, ne_1_m4, ne_1_m3, ne_1_m2, ne_1_m1, ne_1_0, ne_1_2, ne_1_3, ne_2_m5, ne_2_m4, ne_2_m3, ne_2_m2, ne_2_m1, ne_2_0, ne_2_1, ne_2_3, ne_3_m5, ne_3_m4, ne_3_m3, ne_3_m2, ne_3_m1, ne_3_0, ne_3_1, ne_3_2, le0_m5, lt0_m5, le0_m4, lt0_m4, le0_m3, lt0_m3, le0_m2, lt0_m2, le0_m1, lt0_m1, le0_0, lt0_0, le0_1, lt0_1, le0_2, lt0_2, le0_3, lt0_3, Nat.reduceLT, Nat.reduceLeDiff, ne_eq, not_true_eq_false, not_false_eq_true, true_and, and_true, Nat.succ_ne_self, upd_ap] <;> assumption) | fail) only [q_ret, q_gi, q_gl, q_si, q_sl, q_j, q_b, q_eq, q_lt, q_le, q_nz2, q_nz8, q_nz10, q_nz16, q_nz24, q_rz0, q_rz1, q_rzb, i_T, i_F, not_true_eq_false, not_false_eq_true, true_and, and_true, implies_true, q_al_0, q_al_1, q_al_2, q_al_3, q_al_4, q_al_5, q_al_6, q_al_7, q_as_0, q_as_1, q_as_2, q_as_3, q_as_4, q_as_5, q_as_6, q_as_7, q_a42, q_s42, q_alN, q_asN, q_allN, q_aslN, q_am_0, q_am_1, q_am_2, q_am_3, q_am_4, q_am_5, q_am_6, q_ms_0, q_ms_1, q_ms_2, q_ms_3, q_ms_4, q_ms_5, q_ms_6, zpi_d, zpl_d, zpr_1, zpr_2, zpq_1, zpq_2, zpr_o, zpq_o, Nat.reduceAdd, Nat.reduceEqDiff, Nat.reduceMul, reduceIte, ite_true, ite_false, if_true, if_false, reduceCtorEq, eq_self, iff_self, i_T, i_F, implies_true, false_and, and_false, ne_m5_m4, ne_m5_m3, ne_m5_m2, ne_m5_m1, ne_m5_0, ne_m5_1, ne_m5_2, ne_m5_3, ne_m4_m5, ne_m4_m3, ne_m4_m2, ne_m4_m1, ne_m4_0, ne_m4_1, ne_m4_2, ne_m4_3, ne_m3_m5, ne_m3_m4, ne_m3_m2, ne_m3_m1, ne_m3_0, ne_m3_1, ne_m3_2, ne_m3_3, ne_m2_m5, ne_m2_m4, ne_m2_m3, ne_m2_m1, ne_m2_0, ne_m2_1, ne_m2_2, ne_m2_3, ne_m1_m5, ne_m1_m4, ne_m1_m3, ne_m1_m2, ne_m1_0, ne_m1_1, ne_m1_2, ne_m1_3, ne_0_m5, ne_0_m4, ne_0_m3, ne_0_m2, ne_0_m1, ne_0_1, ne_0_2, ne_0_3, ne_1_m5, ne_1_m4, ne_1_m3, ne_1_m2, ne_1_m1, ne_1_0, ne_1_2, ne_1_3, ne_2_m5, ne_2_m4, ne_2_m3, ne_2_m2, ne_2_m1, ne_2_0, ne_2_1, ne_2_3, ne_3_m5, ne_3_m4, ne_3_m3, ne_3_m2, ne_3_m1, ne_3_0, ne_3_1, ne_3_2, le0_m5, lt0_m5, le0_m4, lt0_m4, le0_m3, lt0_m3, le0_m2, lt0_m2, le0_m1, lt0_m1, le0_0, lt0_0, le0_1, lt0_1, le0_2, lt0_2, le0_3, lt0_3, Nat.reduceLT, Nat.reduceLeDiff, ne_eq, not_true_eq_false, not_false_eq_true, true_and, and_true, Nat.succ_ne_self, bI_0, bI_1, Classical.not_not, and_self, or_self, or_true, true_or, false_or, or_false, and_false, false_and, e3, nI_leP, le_F, sc, a2, nI_pred, nI_1]
        exact next (d + 1) _ ⟨_, rfl, by omega, s2⟩
      · cases c3
        have c2 : t = d + 2 := c2
        subst c2
        rw [c1] at sc
        have a1 : (nI (2000 + k) < 2000) = False := eq_false (by rw [show (2000 : Int32) = nI 2000 from rfl, nI_ltP (by omega) (by omega)]; omega)
        have a2 : (nI (2000 + k) = 3000) = False := eq_false (by rw [show (3000 : Int32) = nI 3000 from rfl, nI_eqP (by omega) (by omega)]; omega)
        have hd : d < 80 := by omega
        have hd1 : d + 1 < 80 := by omega
        have p1 : nI (d + 2) + -1 = nI (d + 1) := nI_p1
        simp (disch := first | assumption | omega | rfl | (simp only [zpi_d, zpl_d, zpr_1, zpr_2, zpq_1, zpq_2, zpr_o, zpq_o, Nat.reduceAdd, Nat.reduceEqDiff, Nat.reduceMul, reduceIte, ite_true, ite_false, if_true, if_false, reduceCtorEq, eq_self, iff_self, i_T, i_F, implies_true, false_and, and_false, ne_m5_m4, ne_m5_m3, ne_m5_m2, ne_m5_m1, ne_m5_0, ne_m5_1, ne_m5_2, ne_m5_3, ne_m4_m5, ne_m4_m3, ne_m4_m2, ne_m4_m1, ne_m4_0, ne_m4_1, ne_m4_2, ne_m4_3, ne_m3_m5, ne_m3_m4, ne_m3_m2, ne_m3_m1, ne_m3_0, ne_m3_1, ne_m3_2, ne_m3_3, ne_m2_m5, ne_m2_m4, ne_m2_m3, ne_m2_m1, ne_m2_0, ne_m2_1, ne_m2_2, ne_m2_3, ne_m1_m5, ne_m1_m4, ne_m1_m3, ne_m1_m2, ne_m1_0, ne_m1_1, ne_m1_2, ne_m1_3, ne_0_m5, ne_0_m4, ne_0_m3, ne_0_m2, ne_0_m1, ne_0_1, ne_0_2, ne_0_3, ne_1_m5, ne_1_m4, ne_1_m3, ne_1_m2, ne_1_m1, ne_1_0, ne_1_2, ne_1_3, ne_2_m5, ne_2_m4, ne_2_m3, ne_2_m2, ne_2_m1, ne_2_0, ne_2_1, ne_2_3, ne_3_m5, ne_3_m4, ne_3_m3, ne_3_m2, ne_3_m1, ne_3_0, ne_3_1, ne_3_2, le0_m5, lt0_m5, le0_m4, lt0_m4, le0_m3, lt0_m3, le0_m2, lt0_m2, le0_m1, lt0_m1, le0_0, lt0_0, le0_1, lt0_1, le0_2, lt0_2, le0_3, lt0_3, Nat.reduceLT, Nat.reduceLeDiff, ne_eq, not_true_eq_false, not_false_eq_true, true_and, and_true, Nat.succ_ne_self, upd_ap] <;> assumption) | fail) only [q_ret, q_gi, q_gl, q_si, q_sl, q_j, q_b, q_eq, q_lt, q_le, q_nz2, q_nz8, q_nz10, q_nz16, q_nz24, q_rz0, q_rz1, q_rzb, i_T, i_F, not_true_eq_false, not_false_eq_true, true_and, and_true, implies_true, q_al_0, q_al_1, q_al_2, q_al_3, q_al_4, q_al_5, q_al_6, q_al_7, q_as_0, q_as_1, q_as_2, q_as_3, q_as_4, q_as_5, q_as_6, q_as_7, q_a42, q_s42, q_alN, q_asN, q_allN, q_aslN, q_am_0, q_am_1, q_am_2, q_am_3, q_am_4, q_am_5, q_am_6, q_ms_0, q_ms_1, q_ms_2, q_ms_3, q_ms_4, q_ms_5, q_ms_6, zpi_d, zpl_d, zpr_1, zpr_2, zpq_1, zpq_2, zpr_o, zpq_o, Nat.reduceAdd, Nat.reduceEqDiff, Nat.reduceMul, reduceIte, ite_true, ite_false, if_true, if_false, reduceCtorEq, eq_self, iff_self, i_T, i_F, implies_true, false_and, and_false, ne_m5_m4, ne_m5_m3, ne_m5_m2, ne_m5_m1, ne_m5_0, ne_m5_1, ne_m5_2, ne_m5_3, ne_m4_m5, ne_m4_m3, ne_m4_m2, ne_m4_m1, ne_m4_0, ne_m4_1, ne_m4_2, ne_m4_3, ne_m3_m5, ne_m3_m4, ne_m3_m2, ne_m3_m1, ne_m3_0, ne_m3_1, ne_m3_2, ne_m3_3, ne_m2_m5, ne_m2_m4, ne_m2_m3, ne_m2_m1, ne_m2_0, ne_m2_1, ne_m2_2, ne_m2_3, ne_m1_m5, ne_m1_m4, ne_m1_m3, ne_m1_m2, ne_m1_0, ne_m1_1, ne_m1_2, ne_m1_3, ne_0_m5, ne_0_m4, ne_0_m3, ne_0_m2, ne_0_m1, ne_0_1, ne_0_2, ne_0_3, ne_1_m5, ne_1_m4, ne_1_m3, ne_1_m2, ne_1_m1, ne_1_0, ne_1_2, ne_1_3, ne_2_m5, ne_2_m4, ne_2_m3, ne_2_m2, ne_2_m1, ne_2_0, ne_2_1, ne_2_3, ne_3_m5, ne_3_m4, ne_3_m3, ne_3_m2, ne_3_m1, ne_3_0, ne_3_1, ne_3_2, le0_m5, lt0_m5, le0_m4, lt0_m4, le0_m3, lt0_m3, le0_m2, lt0_m2, le0_m1, lt0_m1, le0_0, lt0_0, le0_1, lt0_1, le0_2, lt0_2, le0_3, lt0_3, Nat.reduceLT, Nat.reduceLeDiff, ne_eq, not_true_eq_false, not_false_eq_true, true_and, and_true, Nat.succ_ne_self, bI_0, bI_1, Classical.not_not, and_self, or_self, or_true, true_or, false_or, or_false, and_false, false_and, e3, nI_leP, le_F, sc, a1, a2, p1, nI_pred, sub2000, q_worked, nI_1]
        exact next (d + 1) _ ⟨_, rfl, by omega, s2⟩
    · rintro t T' ⟨f, rfl, ht, hr⟩ rc
      rw [List.drop_length] at hr
      cases hr
      unfold p_X12_ruled_b4
      simp (disch := first | assumption | omega | rfl | (simp only [zpi_d, zpl_d, zpr_1, zpr_2, zpq_1, zpq_2, zpr_o, zpq_o, Nat.reduceAdd, Nat.reduceEqDiff, Nat.reduceMul, reduceIte, ite_true, ite_false, if_true, if_false, reduceCtorEq, eq_self, iff_self, i_T, i_F, implies_true, false_and, and_false, ne_m5_m4, ne_m5_m3, ne_m5_m2, ne_m5_m1, ne_m5_0, ne_m5_1, ne_m5_2, ne_m5_3, ne_m4_m5, ne_m4_m3, ne_m4_m2, ne_m4_m1, ne_m4_0, ne_m4_1, ne_m4_2, ne_m4_3, ne_m3_m5, ne_m3_m4, ne_m3_m2, ne_m3_m1, ne_m3_0, ne_m3_1, ne_m3_2, ne_m3_3, ne_m2_m5, ne_m2_m4, ne_m2_m3, ne_m2_m1, ne_m2_0, ne_m2_1, ne_m2_2, ne_m2_3, ne_m1_m5, ne_m1_m4, ne_m1_m3, ne_m1_m2, ne_m1_0, ne_m1_1, ne_m1_2, ne_m1_3, ne_0_m5, ne_0_m4, ne_0_m3, ne_0_m2, ne_0_m1, ne_0_1, ne_0_2, ne_0_3, ne_1_m5, ne_1_m4, ne_1_m3, ne_1_m2, ne_1_m1, ne_1_0, ne_1_2, ne_1_3, ne_2_m5, ne_2_m4, ne_2_m3, ne_2_m2, ne_2_m1, ne_2_0, ne_2_1, ne_2_3, ne_3_m5, ne_3_m4, ne_3_m3, ne_3_m2, ne_3_m1, ne_3_0, ne_3_1, ne_3_2, le0_m5, lt0_m5, le0_m4, lt0_m4, le0_m3, lt0_m3, le0_m2, lt0_m2, le0_m1, lt0_m1, le0_0, lt0_0, le0_1, lt0_1, le0_2, lt0_2, le0_3, lt0_3, Nat.reduceLT, Nat.reduceLeDiff, ne_eq, not_true_eq_false, not_false_eq_true, true_and, and_true, Nat.succ_ne_self, upd_ap] <;> assumption) | fail) only [q_ret, q_gi, q_gl, q_si, q_sl, q_j, q_b, q_eq, q_lt, q_le, q_nz2, q_nz8, q_nz10, q_nz16, q_nz24, q_rz0, q_rz1, q_rzb, i_T, i_F, not_true_eq_false, not_false_eq_true, true_and, and_true, implies_true, q_al_0, q_al_1, q_al_2, q_al_3, q_al_4, q_al_5, q_al_6, q_al_7, q_as_0, q_as_1, q_as_2, q_as_3, q_as_4, q_as_5, q_as_6, q_as_7, q_a42, q_s42, q_alN, q_asN, q_allN, q_aslN, q_am_0, q_am_1, q_am_2, q_am_3, q_am_4, q_am_5, q_am_6, q_ms_0, q_ms_1, q_ms_2, q_ms_3, q_ms_4, q_ms_5, q_ms_6, zpi_d, zpl_d, zpr_1, zpr_2, zpq_1, zpq_2, zpr_o, zpq_o, Nat.reduceAdd, Nat.reduceEqDiff, Nat.reduceMul, reduceIte, ite_true, ite_false, if_true, if_false, reduceCtorEq, eq_self, iff_self, i_T, i_F, implies_true, false_and, and_false, ne_m5_m4, ne_m5_m3, ne_m5_m2, ne_m5_m1, ne_m5_0, ne_m5_1, ne_m5_2, ne_m5_3, ne_m4_m5, ne_m4_m3, ne_m4_m2, ne_m4_m1, ne_m4_0, ne_m4_1, ne_m4_2, ne_m4_3, ne_m3_m5, ne_m3_m4, ne_m3_m2, ne_m3_m1, ne_m3_0, ne_m3_1, ne_m3_2, ne_m3_3, ne_m2_m5, ne_m2_m4, ne_m2_m3, ne_m2_m1, ne_m2_0, ne_m2_1, ne_m2_2, ne_m2_3, ne_m1_m5, ne_m1_m4, ne_m1_m3, ne_m1_m2, ne_m1_0, ne_m1_1, ne_m1_2, ne_m1_3, ne_0_m5, ne_0_m4, ne_0_m3, ne_0_m2, ne_0_m1, ne_0_1, ne_0_2, ne_0_3, ne_1_m5, ne_1_m4, ne_1_m3, ne_1_m2, ne_1_m1, ne_1_0, ne_1_2, ne_1_3, ne_2_m5, ne_2_m4, ne_2_m3, ne_2_m2, ne_2_m1, ne_2_0, ne_2_1, ne_2_3, ne_3_m5, ne_3_m4, ne_3_m3, ne_3_m2, ne_3_m1, ne_3_0, ne_3_1, ne_3_2, le0_m5, lt0_m5, le0_m4, lt0_m4, le0_m3, lt0_m3, le0_m2, lt0_m2, le0_m1, lt0_m1, le0_0, lt0_0, le0_1, lt0_1, le0_2, lt0_2, le0_3, lt0_3, Nat.reduceLT, Nat.reduceLeDiff, ne_eq, not_true_eq_false, not_false_eq_true, true_and, and_true, Nat.succ_ne_self, bI_0, bI_1, Classical.not_not, and_self, or_self, or_true, true_or, false_or, or_false, and_false, false_and, e3, nI_leP, le_T, ne]
      exact ⟨h2, _, rfl⟩
  obtain ⟨x, T', g1, rfl, f, rfl⟩ := key
  exact ⟨f, g1⟩
def vec8 (a b c d e f g h : Int32) : Nat → Int32 := fun i => if i = 0 then a else if i = 1 then b else if i = 2 then c else if i = 3 then d else if i = 4 then e else if i = 5 then f else if i = 6 then g else h
def vof (e : (Nat → Int32) → Int32) : z8 := fun a b c d x f g h => e (vec8 a b c d x f g h)
theorem stp_g {o : Nat → Nat} {g g' : Nat → Int32} (h : ∀ i, i < 8 → g i = g' i) {c : Nat} {s : Nat × (Nat → Int32)} : stp o g c s = stp o g' c s := by
  unfold stp
  by_cases h1 : c < 1000
  · rw [if_pos h1, if_pos h1]
  · by_cases h2 : c < 1008
    · rw [if_neg h1, if_neg h1, if_pos h2, if_pos h2, h (c - 1000) (by omega)]
    · rw [if_neg h1, if_neg h1, if_neg h2, if_neg h2]
theorem rnc_g {o : Nat → Nat} {g g' : Nat → Int32} (h : ∀ i, i < 8 → g i = g' i) : ∀ (C : List Nat) (s : Nat × (Nat → Int32)), rnc o g C s = rnc o g' C s
  | [], _ => rfl
  | c :: C, s => by
    unfold rnc
    rw [stp_g h]
    cases stp o g' c s with
    | none => rfl
    | some s' => exact rnc_g h C s'
theorem EV_v8 {o : Nat → Nat} {C : List Nat} {e : (Nat → Int32) → Int32} (h : EV o C e) (g : Nat → Int32) : e g = v8 (vof e) g := by
  obtain ⟨f1, h1, h2, -⟩ := h g 0 (fun _ => 0)
  obtain ⟨f2, g1, g2, -⟩ := h (vec8 (g 0) (g 1) (g 2) (g 3) (g 4) (g 5) (g 6) (g 7)) 0 (fun _ => 0)
  have e1 : ∀ i, i < 8 → g i = vec8 (g 0) (g 1) (g 2) (g 3) (g 4) (g 5) (g 6) (g 7) i := fun i hi' => by
    have : i = 0 ∨ i = 1 ∨ i = 2 ∨ i = 3 ∨ i = 4 ∨ i = 5 ∨ i = 6 ∨ i = 7 := by omega
    rcases this with rfl | rfl | rfl | rfl | rfl | rfl | rfl | rfl <;> rfl
  rw [rnc_g e1, g1] at h1
  have ef : f2 = f1 := (Prod.mk.inj (Option.some.inj h1)).2
  rw [← h2, ← ef, g2]
  rfl
theorem RLx_E {C : List Nat} {e : (Nat → Int32) → Int32} {S : zS} (h : EV id C e) (n1 : 1 ≤ C.length) (n2 : C.length ≤ 40) (e3 : S.1 16 3 = nI C.length) (hs : seg (S.1 17) 0 C) : RLx (vof e) S := fun S1 r a1 a2 r1 r2 r3 => by
  rw [← EV_v8 h]
  exact x_value h n1 n2 (a1.trans e3) (by rw [a2]; exact hs) r1 r2 r3
theorem RLm_E {C : List Nat} {e : (Nat → Int32) → Int32} {T : zS} (h : EV mch C e) (n1 : 1 ≤ C.length) (n2 : C.length ≤ 40) (e3 : T.1 0 24 = nI C.length) (hs : seg (T.1 12) 0 C) : RLm (vof e) T := fun T1 a1 a2 => by
  rw [← EV_v8 h]
  exact m_ruled h n1 n2 (a1.trans e3) (by rw [a2]; exact hs)
/-- the rule of an empty text -/
def vdef : z8 := fun a b c _ _ f _ _ => a - b * 5 - c * 4 - f
theorem RLx_0 {S : zS} (e : S.1 16 3 = 0) : RLx vdef S := fun S1 r a1 a2 r1 r2 r3 => by
  have key : zq (p_X7_valueBy r 8) S1 (fun x S' => x = v8 vdef (S1.1 r) ∧ S' = S1) := by
    have l8 : ((8 : Int32) ≤ Int32.ofNat 8) = True := eq_true (by decide)
    unfold p_X7_valueBy
    simp (disch := first | assumption | omega | rfl | (simp only [zpi_d, zpl_d, zpr_1, zpr_2, zpq_1, zpq_2, zpr_o, zpq_o, Nat.reduceAdd, Nat.reduceEqDiff, Nat.reduceMul, reduceIte, ite_true, ite_false, if_true, if_false, reduceCtorEq, eq_self, iff_self, i_T, i_F, implies_true, false_and, and_false, ne_m5_m4, ne_m5_m3, ne_m5_m2, ne_m5_m1, ne_m5_0, ne_m5_1, ne_m5_2, ne_m5_3, ne_m4_m5, ne_m4_m3, ne_m4_m2, ne_m4_m1, ne_m4_0, ne_m4_1, ne_m4_2, ne_m4_3, ne_m3_m5, ne_m3_m4, ne_m3_m2, ne_m3_m1, ne_m3_0, ne_m3_1, ne_m3_2, ne_m3_3, ne_m2_m5, ne_m2_m4, ne_m2_m3, ne_m2_m1, ne_m2_0, ne_m2_1, ne_m2_2, ne_m2_3, ne_m1_m5, ne_m1_m4, ne_m1_m3, ne_m1_m2, ne_m1_0, ne_m1_1, ne_m1_2, ne_m1_3, ne_0_m5, ne_0_m4, ne_0_m3, ne_0_m2, ne_0_m1, ne_0_1, ne_0_2, ne_0_3, ne_1_m5, ne_1_m4, ne_1_m3, ne_1_m2, ne_1_m1, ne_1_0, ne_1_2, ne_1_3, ne_2_m5, ne_2_m4, ne_2_m3, ne_2_m2, ne_2_m1, ne_2_0, ne_2_1, ne_2_3, ne_3_m5, ne_3_m4, ne_3_m3, ne_3_m2, ne_3_m1, ne_3_0, ne_3_1, ne_3_2, le0_m5, lt0_m5, le0_m4, lt0_m4, le0_m3, lt0_m3, le0_m2, lt0_m2, le0_m1, lt0_m1, le0_0, lt0_0, le0_1, lt0_1, le0_2, lt0_2, le0_3, lt0_3, Nat.reduceLT, Nat.reduceLeDiff, ne_eq, not_true_eq_false, not_false_eq_true, true_and, and_true, Nat.succ_ne_self, upd_ap] <;> assumption) | fail) only [q_ret, q_gi, q_gl, q_si, q_sl, q_j, q_b, q_eq, q_lt, q_le, q_nz2, q_nz8, q_nz10, q_nz16, q_nz24, q_rz0, q_rz1, q_rzb, i_T, i_F, not_true_eq_false, not_false_eq_true, true_and, and_true, implies_true, q_al_0, q_al_1, q_al_2, q_al_3, q_al_4, q_al_5, q_al_6, q_al_7, q_as_0, q_as_1, q_as_2, q_as_3, q_as_4, q_as_5, q_as_6, q_as_7, q_a42, q_s42, q_alN, q_asN, q_allN, q_aslN, q_am_0, q_am_1, q_am_2, q_am_3, q_am_4, q_am_5, q_am_6, q_ms_0, q_ms_1, q_ms_2, q_ms_3, q_ms_4, q_ms_5, q_ms_6, zpi_d, zpl_d, zpr_1, zpr_2, zpq_1, zpq_2, zpr_o, zpq_o, Nat.reduceAdd, Nat.reduceEqDiff, Nat.reduceMul, reduceIte, ite_true, ite_false, if_true, if_false, reduceCtorEq, eq_self, iff_self, i_T, i_F, implies_true, false_and, and_false, ne_m5_m4, ne_m5_m3, ne_m5_m2, ne_m5_m1, ne_m5_0, ne_m5_1, ne_m5_2, ne_m5_3, ne_m4_m5, ne_m4_m3, ne_m4_m2, ne_m4_m1, ne_m4_0, ne_m4_1, ne_m4_2, ne_m4_3, ne_m3_m5, ne_m3_m4, ne_m3_m2, ne_m3_m1, ne_m3_0, ne_m3_1, ne_m3_2, ne_m3_3, ne_m2_m5, ne_m2_m4, ne_m2_m3, ne_m2_m1, ne_m2_0, ne_m2_1, ne_m2_2, ne_m2_3, ne_m1_m5, ne_m1_m4, ne_m1_m3, ne_m1_m2, ne_m1_0, ne_m1_1, ne_m1_2, ne_m1_3, ne_0_m5, ne_0_m4, ne_0_m3, ne_0_m2, ne_0_m1, ne_0_1, ne_0_2, ne_0_3, ne_1_m5, ne_1_m4, ne_1_m3, ne_1_m2, ne_1_m1, ne_1_0, ne_1_2, ne_1_3, ne_2_m5, ne_2_m4, ne_2_m3, ne_2_m2, ne_2_m1, ne_2_0, ne_2_1, ne_2_3, ne_3_m5, ne_3_m4, ne_3_m3, ne_3_m2, ne_3_m1, ne_3_0, ne_3_1, ne_3_2, le0_m5, lt0_m5, le0_m4, lt0_m4, le0_m3, lt0_m3, le0_m2, lt0_m2, le0_m1, lt0_m1, le0_0, lt0_0, le0_1, lt0_1, le0_2, lt0_2, le0_3, lt0_3, Nat.reduceLT, Nat.reduceLeDiff, ne_eq, not_true_eq_false, not_false_eq_true, true_and, and_true, Nat.succ_ne_self, bI_0, bI_1, Classical.not_not, and_self, or_self, or_true, true_or, false_or, or_false, and_false, false_and, l8, a1, e]
    exact rfl
  obtain ⟨x, S', g1, rfl, rfl⟩ := key
  exact ⟨S'.1 19, by rw [g1, zpr_id]⟩
theorem RLm_0 {T : zS} (e : T.1 0 24 = 0) : RLm vdef T := fun T1 a1 a2 => by
  have key : zq p_X12_ruled T1 (fun x T' => x = v8 vdef (T1.1 15) ∧ T' = T1) := by
    unfold p_X12_ruled
    refine q_for (A := Unit) (fun _ i => (nI 0, nI i)) 0 (fun _ i T' => T' = T1) (by omega) ?_ ?_ () 0 T1 (Nat.zero_le _) rfl
    · rintro _ i T' hi' _ rc next
      omega
    · rintro _ T' rfl rc
      have l0 : ((0 : Int32) ≤ nI 0) = True := eq_true (by decide)
      unfold p_X12_ruled_b4
      simp (disch := first | assumption | omega | rfl | (simp only [zpi_d, zpl_d, zpr_1, zpr_2, zpq_1, zpq_2, zpr_o, zpq_o, Nat.reduceAdd, Nat.reduceEqDiff, Nat.reduceMul, reduceIte, ite_true, ite_false, if_true, if_false, reduceCtorEq, eq_self, iff_self, i_T, i_F, implies_true, false_and, and_false, ne_m5_m4, ne_m5_m3, ne_m5_m2, ne_m5_m1, ne_m5_0, ne_m5_1, ne_m5_2, ne_m5_3, ne_m4_m5, ne_m4_m3, ne_m4_m2, ne_m4_m1, ne_m4_0, ne_m4_1, ne_m4_2, ne_m4_3, ne_m3_m5, ne_m3_m4, ne_m3_m2, ne_m3_m1, ne_m3_0, ne_m3_1, ne_m3_2, ne_m3_3, ne_m2_m5, ne_m2_m4, ne_m2_m3, ne_m2_m1, ne_m2_0, ne_m2_1, ne_m2_2, ne_m2_3, ne_m1_m5, ne_m1_m4, ne_m1_m3, ne_m1_m2, ne_m1_0, ne_m1_1, ne_m1_2, ne_m1_3, ne_0_m5, ne_0_m4, ne_0_m3, ne_0_m2, ne_0_m1, ne_0_1, ne_0_2, ne_0_3, ne_1_m5, ne_1_m4, ne_1_m3, ne_1_m2, ne_1_m1, ne_1_0, ne_1_2, ne_1_3, ne_2_m5, ne_2_m4, ne_2_m3, ne_2_m2, ne_2_m1, ne_2_0, ne_2_1, ne_2_3, ne_3_m5, ne_3_m4, ne_3_m3, ne_3_m2, ne_3_m1, ne_3_0, ne_3_1, ne_3_2, le0_m5, lt0_m5, le0_m4, lt0_m4, le0_m3, lt0_m3, le0_m2, lt0_m2, le0_m1, lt0_m1, le0_0, lt0_0, le0_1, lt0_1, le0_2, lt0_2, le0_3, lt0_3, Nat.reduceLT, Nat.reduceLeDiff, ne_eq, not_true_eq_false, not_false_eq_true, true_and, and_true, Nat.succ_ne_self, upd_ap] <;> assumption) | fail) only [q_ret, q_gi, q_gl, q_si, q_sl, q_j, q_b, q_eq, q_lt, q_le, q_nz2, q_nz8, q_nz10, q_nz16, q_nz24, q_rz0, q_rz1, q_rzb, i_T, i_F, not_true_eq_false, not_false_eq_true, true_and, and_true, implies_true, q_al_0, q_al_1, q_al_2, q_al_3, q_al_4, q_al_5, q_al_6, q_al_7, q_as_0, q_as_1, q_as_2, q_as_3, q_as_4, q_as_5, q_as_6, q_as_7, q_a42, q_s42, q_alN, q_asN, q_allN, q_aslN, q_am_0, q_am_1, q_am_2, q_am_3, q_am_4, q_am_5, q_am_6, q_ms_0, q_ms_1, q_ms_2, q_ms_3, q_ms_4, q_ms_5, q_ms_6, zpi_d, zpl_d, zpr_1, zpr_2, zpq_1, zpq_2, zpr_o, zpq_o, Nat.reduceAdd, Nat.reduceEqDiff, Nat.reduceMul, reduceIte, ite_true, ite_false, if_true, if_false, reduceCtorEq, eq_self, iff_self, i_T, i_F, implies_true, false_and, and_false, ne_m5_m4, ne_m5_m3, ne_m5_m2, ne_m5_m1, ne_m5_0, ne_m5_1, ne_m5_2, ne_m5_3, ne_m4_m5, ne_m4_m3, ne_m4_m2, ne_m4_m1, ne_m4_0, ne_m4_1, ne_m4_2, ne_m4_3, ne_m3_m5, ne_m3_m4, ne_m3_m2, ne_m3_m1, ne_m3_0, ne_m3_1, ne_m3_2, ne_m3_3, ne_m2_m5, ne_m2_m4, ne_m2_m3, ne_m2_m1, ne_m2_0, ne_m2_1, ne_m2_2, ne_m2_3, ne_m1_m5, ne_m1_m4, ne_m1_m3, ne_m1_m2, ne_m1_0, ne_m1_1, ne_m1_2, ne_m1_3, ne_0_m5, ne_0_m4, ne_0_m3, ne_0_m2, ne_0_m1, ne_0_1, ne_0_2, ne_0_3, ne_1_m5, ne_1_m4, ne_1_m3, ne_1_m2, ne_1_m1, ne_1_0, ne_1_2, ne_1_3, ne_2_m5, ne_2_m4, ne_2_m3, ne_2_m2, ne_2_m1, ne_2_0, ne_2_1, ne_2_3, ne_3_m5, ne_3_m4, ne_3_m3, ne_3_m2, ne_3_m1, ne_3_0, ne_3_1, ne_3_2, le0_m5, lt0_m5, le0_m4, lt0_m4, le0_m3, lt0_m3, le0_m2, lt0_m2, le0_m1, lt0_m1, le0_0, lt0_0, le0_1, lt0_1, le0_2, lt0_2, le0_3, lt0_3, Nat.reduceLT, Nat.reduceLeDiff, ne_eq, not_true_eq_false, not_false_eq_true, true_and, and_true, Nat.succ_ne_self, bI_0, bI_1, Classical.not_not, and_self, or_self, or_true, true_or, false_or, or_false, and_false, false_and, l0, a1, e]
      unfold v8 vdef
      rw [Int32.mul_comm 5, Int32.mul_comm 4]
  obtain ⟨x, T', g1, rfl, rfl⟩ := key
  exact ⟨T'.1 14, by rw [g1, zpr_id]⟩
