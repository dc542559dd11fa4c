/-! ===== bits, small numbers ===== -/
theorem b_1 : ∀ j, j < 32 → bt 1 j = decide (j = 0) := by decide +kernel
theorem b_bit {x : Int32} {i : Nat} (hi : i < 32) : (x >>> (nI i &&& 31)) &&& 1 = if bt x i = true then 1 else 0 := by
  apply b_ext
  intro j hj
  rw [b_and, b_sshr i hi x hj, b_1 j hj]
  by_cases h0 : j = 0
  · subst h0
    rw [if_pos (by omega)]
    by_cases hx : bt x i = true
    · rw [if_pos hx, b_1 0 (by omega)]
      simp [hx]
    · rw [if_neg hx, b_0]
      simp [hx]
  · by_cases hx : bt x i = true
    · rw [if_pos hx, b_1 j hj]
      simp [h0]
    · rw [if_neg hx, b_0]
      simp [h0]
theorem b_tst {x : Int32} {i : Nat} (hi : i < 32) : ((x >>> (nI i &&& 31)) &&& 1 = 1) = (bt x i = true) := by
  rw [b_bit hi]
  by_cases hx : bt x i = true
  · simp [hx]
  · simp [hx]
theorem b_one {i j : Nat} (hi : i < 32) (hj : j < 32) : bt ((1 : Int32) <<< (nI i &&& 31)) j = decide (j = i) := by
  rw [b_shl i hi 1 hj]
  by_cases h : i ≤ j
  · rw [b_1 _ (by omega)]
    by_cases h2 : j = i
    · simp [h2]
    · rw [decide_eq_false (by omega : ¬ (j - i = 0)), decide_eq_false h2, Bool.and_false]
  · rw [decide_eq_false h, decide_eq_false (by omega : ¬ (j = i)), Bool.false_and]
theorem b_not {x : Int32} {j : Nat} (hj : j < 32) : bt (x ^^^ (-1)) j = !bt x j := by
  rw [b_xor, b_m1 j hj, Bool.xor_true]
theorem b_full : ∀ m, m < 9 → ∀ j, j < 32 → bt (((1 : Int32) <<< (nI m &&& 31)) - 1) j = decide (j < m) := by decide +kernel
theorem b_put {x : Int32} {i j : Nat} (hi : i < 32) (hj : j < 32) : bt (x ||| ((1 : Int32) <<< (nI i &&& 31))) j = (bt x j || decide (j = i)) := by
  rw [b_or, b_one hi hj]
theorem b_cut {x : Int32} {i j : Nat} (hi : i < 32) (hj : j < 32) : bt (x &&& (((1 : Int32) <<< (nI i &&& 31)) ^^^ (-1))) j = (bt x j && !decide (j = i)) := by
  rw [b_and, b_not hj, b_one hi hj]
theorem nI_lt0 {b : Nat} (h : b < 2 ^ 31) : (nI b < 0) = False := eq_false (nI_pos h)
theorem nI_m1 {b : Nat} (h : b < 2 ^ 31) : (nI b = -1) = False := eq_false (fun e => nI_pos h (by rw [e]; decide))
theorem nI_leP {a b : Nat} (ha : a < 2 ^ 31) (hb : b < 2 ^ 31) : (nI a ≤ nI b) = (a ≤ b) := propext (nI_leI ha hb)
theorem nI_ltP {a b : Nat} (ha : a < 2 ^ 31) (hb : b < 2 ^ 31) : (nI a < nI b) = (a < b) := propext (nI_ltI ha hb)
theorem nI_eqP {a b : Nat} (ha : a < 2 ^ 31) (hb : b < 2 ^ 31) : (nI a = nI b) = (a = b) := propext (nI_eq ha hb)
theorem le_F {a b : Nat} (h : b < a) : (a ≤ b) = False := eq_false (Nat.not_le.mpr h)
theorem le_T {a b : Nat} (h : a ≤ b) : (a ≤ b) = True := eq_true h
theorem lt_F {a b : Nat} (h : b ≤ a) : (a < b) = False := eq_false (Nat.not_lt.mpr h)
theorem lt_T {a b : Nat} (h : a < b) : (a < b) = True := eq_true h
section QB
variable {S : zS} {Q : Int32 → zS → Prop}
theorem q_in {a b c : Int64} : zq (p_X12_in a b c) S Q = Q (bI (b ≤ a ∧ a ≤ c)) S := by
  unfold p_X12_in
  rw [q_lt, q_lt, q_rz0, q_rz1]
  have h1 : (lg_cmp a b < 0) = ¬ b ≤ a := by
    rw [lg_cmp_lt]
    exact propext Int64.not_le.symm
  have h2 : (0 < lg_cmp a c) = ¬ a ≤ c := by
    rw [lg_cmp_gt]
    exact propext Int64.not_le.symm
  simp only [h1, h2]
  by_cases h3 : b ≤ a
  · by_cases h4 : a ≤ c
    · simp [h3, h4, bI_t]
    · simp [h3, h4, bI_f]
  · simp [h3, bI_f]
theorem q_in_x {x a c : Int32} : zq (p_X12_in x.toInt64 a.toInt64 c.toInt64) S Q = Q (bI (a ≤ x ∧ x ≤ c)) S := by
  rw [q_in, fa_wide_le, fa_wide_le]
theorem q_in_0_2 {x : Int32} : zq (p_X12_in x.toInt64 (0 : Int64) (2 : Int64)) S Q = Q (bI (0 ≤ x ∧ x ≤ 2)) S := q_in_x (a := 0) (c := 2)
theorem q_in_0_3 {x : Int32} : zq (p_X12_in x.toInt64 (0 : Int64) (3 : Int64)) S Q = Q (bI (0 ≤ x ∧ x ≤ 3)) S := q_in_x (a := 0) (c := 3)
theorem q_in_0_4 {x : Int32} : zq (p_X12_in x.toInt64 (0 : Int64) (4 : Int64)) S Q = Q (bI (0 ≤ x ∧ x ≤ 4)) S := q_in_x (a := 0) (c := 4)
theorem q_in_0_6 {x : Int32} : zq (p_X12_in x.toInt64 (0 : Int64) (6 : Int64)) S Q = Q (bI (0 ≤ x ∧ x ≤ 6)) S := q_in_x (a := 0) (c := 6)
theorem q_in_0_9 {x : Int32} : zq (p_X12_in x.toInt64 (0 : Int64) (9 : Int64)) S Q = Q (bI (0 ≤ x ∧ x ≤ 9)) S := q_in_x (a := 0) (c := 9)
theorem q_in_0_10 {x : Int32} : zq (p_X12_in x.toInt64 (0 : Int64) (10 : Int64)) S Q = Q (bI (0 ≤ x ∧ x ≤ 10)) S := q_in_x (a := 0) (c := 10)
theorem q_in_0_18 {x : Int32} : zq (p_X12_in x.toInt64 (0 : Int64) (18 : Int64)) S Q = Q (bI (0 ≤ x ∧ x ≤ 18)) S := q_in_x (a := 0) (c := 18)
theorem q_in_0_48 {x : Int32} : zq (p_X12_in x.toInt64 (0 : Int64) (48 : Int64)) S Q = Q (bI (0 ≤ x ∧ x ≤ 48)) S := q_in_x (a := 0) (c := 48)
theorem q_in_0_60 {x : Int32} : zq (p_X12_in x.toInt64 (0 : Int64) (60 : Int64)) S Q = Q (bI (0 ≤ x ∧ x ≤ 60)) S := q_in_x (a := 0) (c := 60)
theorem q_in_0_99 {x : Int32} : zq (p_X12_in x.toInt64 (0 : Int64) (99 : Int64)) S Q = Q (bI (0 ≤ x ∧ x ≤ 99)) S := q_in_x (a := 0) (c := 99)
theorem q_in_1_8 {x : Int32} : zq (p_X12_in x.toInt64 (1 : Int64) (8 : Int64)) S Q = Q (bI (1 ≤ x ∧ x ≤ 8)) S := q_in_x (a := 1) (c := 8)
theorem q_in_1_60 {x : Int32} : zq (p_X12_in x.toInt64 (1 : Int64) (60 : Int64)) S Q = Q (bI (1 ≤ x ∧ x ≤ 60)) S := q_in_x (a := 1) (c := 60)
theorem q_in_48 {x : Int32} : zq (p_X12_in x.toInt64 (48 : Int64) (57 : Int64)) S Q = Q (bI (48 ≤ x ∧ x ≤ 57)) S := q_in_x (a := 48) (c := 57)
theorem q_in_99 {x : Int32} : zq (p_X12_in x.toInt64 (-9 : Int64) (9 : Int64)) S Q = Q (bI (-9 ≤ x ∧ x ≤ 9)) S := q_in_x (a := -9) (c := 9)
theorem q_in_0x {x c : Int32} : zq (p_X12_in x.toInt64 (0 : Int64) c.toInt64) S Q = Q (bI (0 ≤ x ∧ x ≤ c)) S := q_in_x (a := 0)
theorem ix_t {m b : Nat} (h : b < m) (hm : m ≤ 1000) : (0 ≤ nI b ∧ nI b ≤ nI m - 1) = True := by
  obtain ⟨k, rfl⟩ : ∃ k, m = k + 1 := ⟨m - 1, by omega⟩
  rw [nI_pred, nI_leP (by omega) (by omega)]
  exact eq_true ⟨nI_pos' (by omega), by omega⟩
theorem ix_f {m : Nat} {x : Int32} (h : x < 0 ∨ nI m ≤ x) (hm : m ≤ 1000) : (0 ≤ x ∧ x ≤ nI m - 1) = False := by
  refine eq_false (fun ⟨h1, h2⟩ => ?_)
  have e0 : (0 : Int32).toInt = 0 := rfl
  rcases h with h | h
  · rw [fa_lt] at h
    rw [fa_le] at h1
    omega
  · rcases Nat.eq_zero_or_pos m with rfl | hp
    · have : (nI 0 - 1 : Int32).toInt = -1 := by decide
      rw [fa_le] at h1 h2
      omega
    · obtain ⟨k, rfl⟩ : ∃ k, m = k + 1 := ⟨m - 1, by omega⟩
      rw [nI_pred] at h2
      rw [fa_le, nI_toInt (by omega)] at h2
      rw [fa_le, nI_toInt (by omega)] at h
      omega
end QB
/-! which BALLOON is at a RING -/
theorem g_guest {c : Nat} {x : Int32} {m : Nat} {S : zS} (hm : m ≤ 6) (h : S.1 c 14 = nI m) : ∃ r, p_X3_guestAt c x S = some (r, S) ∧ ((r = -1 ∧ ∀ b, b < m → ¬ (S.1 (c + 8) b = 2 ∧ S.1 (c + 9) b = x)) ∨ ∃ b, b < m ∧ r = nI b ∧ S.1 (c + 8) b = 2 ∧ S.1 (c + 9) b = x) := by
  have key : zq (p_X3_guestAt c x) S (fun r S' => S' = S ∧ ((r = -1 ∧ ∀ b, b < m → ¬ (S.1 (c + 8) b = 2 ∧ S.1 (c + 9) b = x)) ∨ ∃ b, b < m ∧ r = nI b ∧ S.1 (c + 8) b = 2 ∧ S.1 (c + 9) b = x)) := by
    unfold p_X3_guestAt
    refine q_for (A := Unit) (fun _ i => nI i) m (fun _ i S' => S' = S ∧ ∀ b, b < i → ¬ (S.1 (c + 8) b = 2 ∧ S.1 (c + 9) b = x)) (by omega) ?_ ?_ () 0 S (Nat.zero_le _) ⟨rfl, fun b hb => absurd hb (Nat.not_lt_zero b)⟩
    · rintro _ i S' hi ⟨rfl, hI⟩ rc hrc
      unfold p_X3_guestAt_b2
      simp (disch := first | assumption | omega | fail) only [q_ret, q_gi, q_gl, q_si, q_sl, q_j, q_b, q_eq, q_lt, q_le, q_nz2, q_nz8, q_nz10, q_nz16, q_nz24, q_rz0, q_rz1, q_rzb, i_T, i_F, not_true_eq_false, not_false_eq_true, true_and, and_true, implies_true, h, nI_leP, le_F, q_alN, nI_1]
      refine ⟨fun h1 => ⟨fun h2 => Or.inr ⟨i, hi, rfl, h1, h2⟩, fun h2 => hrc () S' ⟨rfl, lt_s hI (fun z => h2 z.2)⟩⟩, fun h1 => hrc () S' ⟨rfl, lt_s hI (fun z => h1 z.1)⟩⟩
    · rintro _ S' ⟨rfl, hI⟩ rc
      unfold p_X3_guestAt_b2
      simp (disch := first | assumption | omega | fail) only [q_ret, q_gi, q_gl, q_si, q_sl, q_j, q_b, q_eq, q_lt, q_le, q_nz2, q_nz8, q_nz10, q_nz16, q_nz24, q_rz0, q_rz1, q_rzb, i_T, i_F, not_true_eq_false, not_false_eq_true, true_and, and_true, implies_true, h, nI_leP, le_T]
      exact Or.inl hI
  obtain ⟨r, S', h1, rfl, h2⟩ := key
  exact ⟨r, h1, h2⟩
theorem g_moored {x : Int32} {m : Nat} {T : zS} (hm : m ≤ 6) (h : T.1 0 4 = nI m) : ∃ r, p_X12_mooredAt x T = some (r, T) ∧ ((r = -1 ∧ ∀ b, b < m → ¬ (mf (T.1 8) 3 b = 2 ∧ mf (T.1 8) 4 b = x)) ∨ ∃ b, b < m ∧ r = nI b ∧ mf (T.1 8) 3 b = 2 ∧ mf (T.1 8) 4 b = x) := by
  have key : zq (p_X12_mooredAt x) T (fun r T' => T' = T ∧ ((r = -1 ∧ ∀ b, b < m → ¬ (mf (T.1 8) 3 b = 2 ∧ mf (T.1 8) 4 b = x)) ∨ ∃ b, b < m ∧ r = nI b ∧ mf (T.1 8) 3 b = 2 ∧ mf (T.1 8) 4 b = x)) := by
    unfold p_X12_mooredAt
    refine q_for (A := Int32) (fun a i => (a, nI i)) m (fun a i T' => T' = T ∧ ((a = -1 ∧ ∀ b, b < i → ¬ (mf (T.1 8) 3 b = 2 ∧ mf (T.1 8) 4 b = x)) ∨ ∃ b, b < i ∧ a = nI b ∧ mf (T.1 8) 3 b = 2 ∧ mf (T.1 8) 4 b = x)) (by omega) ?_ ?_ (-1) 0 T (Nat.zero_le _) ⟨rfl, Or.inl ⟨rfl, fun b hb => absurd hb (Nat.not_lt_zero b)⟩⟩
    · rintro a i T' hi ⟨rfl, hI⟩ rc hrc
      unfold p_X12_mooredAt_b4
      have hi6 : i < 6 := by omega
      simp (disch := first | assumption | omega | fail) only [q_ret, q_gi, q_gl, q_si, q_sl, q_j, q_b, q_eq, q_lt, q_le, q_nz2, q_nz8, q_nz10, q_nz16, q_nz24, q_rz0, q_rz1, q_rzb, i_T, i_F, not_true_eq_false, not_false_eq_true, true_and, and_true, implies_true, q_am_0, q_am_1, q_am_2, q_am_3, q_am_4, q_am_5, q_am_6, q_ms_0, q_ms_1, q_ms_2, q_ms_3, q_ms_4, q_ms_5, q_ms_6, h, nI_leP, le_F, nI_1, p_X12_how]
      have h0 : ¬ (mf (T'.1 8) 3 i = 2 ∧ mf (T'.1 8) 4 i = x) → zq (rc (a, nI (i + 1))) T' _ := fun h1 => hrc a T' ⟨rfl, by
          rcases hI with ⟨e, hI⟩ | ⟨b, hb, e⟩
          · exact Or.inl ⟨e, lt_s hI h1⟩
          · exact Or.inr ⟨b, by omega, e⟩⟩
      exact ⟨fun h1 => ⟨fun h2 => hrc _ T' ⟨rfl, Or.inr ⟨i, by omega, rfl, h1, h2⟩⟩, fun h2 => h0 (fun z => h2 z.2)⟩, fun h1 => h0 (fun z => h1 z.1)⟩
    · rintro a T' ⟨rfl, hI⟩ rc
      unfold p_X12_mooredAt_b4
      simp (disch := first | assumption | omega | fail) only [q_ret, q_gi, q_gl, q_si, q_sl, q_j, q_b, q_eq, q_lt, q_le, q_nz2, q_nz8, q_nz10, q_nz16, q_nz24, q_rz0, q_rz1, q_rzb, i_T, i_F, not_true_eq_false, not_false_eq_true, true_and, and_true, implies_true, h, nI_leP, le_T]
      exact hI
  obtain ⟨r, T', h1, rfl, h2⟩ := key
  exact ⟨r, h1, h2⟩
