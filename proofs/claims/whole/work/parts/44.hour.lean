/-! ===== an HOUR ===== -/
theorem q_isOver {x y : Int32} {S : zS} {Q : Int32 → zS → Prop} : zq (p_X11_isOver x y) S Q = Q (bI (¬ (in9 x ∧ in9 y))) S := by
  unfold p_X11_isOver in9
  simp only [q_ret, q_gi, q_gl, q_si, q_sl, q_j, q_b, q_eq, q_lt, q_le, q_nz2, q_nz8, q_nz10, q_nz16, q_nz24, q_rz0, q_rz1, q_rzb, i_T, i_F, not_true_eq_false, not_false_eq_true, true_and, and_true, implies_true]
  have e4 : (-9 ≤ y) = ¬ y < -9 := by
    rw [fa_le, fa_lt]
    exact propext (by omega)
  simp only [e4]
  by_cases h1 : 9 < x
  · simp [h1, bI_t]
  · by_cases h2 : x < -9
    · simp [h1, h2, bI_t]
    · by_cases h3 : 9 < y
      · simp [h1, h2, h3, bI_t]
      · by_cases h4 : y < -9
        · simp [h1, h2, h3, h4, bI_t]
        · simp [h1, h2, h3, h4, bI_f]
theorem in9_i (x : Int32) : (-9 ≤ x ∧ x ≤ 9) = in9 x := by
  unfold in9
  apply propext
  rw [fa_le, fa_le, fa_lt, fa_lt]
  omega
theorem q_flag {x : Int32} {S : zS} {Q : Int32 → zS → Prop} : zq (p_X12_flag x) S Q = Q (bI (x ≠ 0)) S := by
  unfold p_X12_flag
  simp only [q_ret, q_gi, q_gl, q_si, q_sl, q_j, q_b, q_eq, q_lt, q_le, q_nz2, q_nz8, q_nz10, q_nz16, q_nz24, q_rz0, q_rz1, q_rzb, i_T, i_F, not_true_eq_false, not_false_eq_true, true_and, and_true, implies_true]
  by_cases h : x = 0
  · simp [h, bI_f]
  · simp [h, bI_t]
theorem q_ewd {x : Int32} {S : zS} {Q : Int32 → zS → Prop} : zq (p_X12_eastward x) S Q = Q (ewd x) S := by
  unfold p_X12_eastward ewd
  simp only [q_ret, q_gi, q_gl, q_si, q_sl, q_j, q_b, q_eq, q_lt, q_le, q_nz2, q_nz8, q_nz10, q_nz16, q_nz24, q_rz0, q_rz1, q_rzb, i_T, i_F, not_true_eq_false, not_false_eq_true, true_and, and_true, implies_true]
  have e : (4 ≤ x) = ¬ x < 4 := by
    rw [fa_le, fa_lt]
    exact propext (by omega)
  simp only [e]
  by_cases h1 : x = 0
  · simp [h1]
  · by_cases h2 : x = 4
    · simp [h2]
    · by_cases h3 : x < 4
      · simp [h1, h2, h3]
      · simp [h1, h2, h3]
theorem q_swd {x : Int32} {S : zS} {Q : Int32 → zS → Prop} : zq (p_X12_southward x) S Q = Q (swd x) S := by
  unfold p_X12_southward swd
  simp only [q_ret, q_gi, q_gl, q_si, q_sl, q_j, q_b, q_eq, q_lt, q_le, q_nz2, q_nz8, q_nz10, q_nz16, q_nz24, q_rz0, q_rz1, q_rzb, i_T, i_F, not_true_eq_false, not_false_eq_true, true_and, and_true, implies_true]
  have e : (x ≤ 2) = ¬ 2 < x := by
    rw [fa_le, fa_lt]
    exact propext (by omega)
  have e2 : (6 ≤ x) = ¬ x < 6 := by
    rw [fa_le, fa_lt]
    exact propext (by omega)
  simp only [e, e2]
  by_cases h1 : x = 2
  · simp [h1]
  · by_cases h2 : x = 6
    · simp [h2]
    · by_cases h3 : 2 < x
      · by_cases h4 : x < 6
        · simp [h1, h2, h3, h4]
        · simp [h1, h2, h3, h4]
      · simp [h1, h2, h3]
def dxm (T : zS) (h : Nat) : Int32 := if T.1 6 h < 0 then 0 else ewd (T.1 6 h) * T.1 7 h
def dym (T : zS) (h : Nat) : Int32 := if T.1 6 h < 0 then 0 else swd (T.1 6 h) * T.1 7 h
theorem mu_same {f : Nat → Int32} {k b : Nat} : mu f k b (mf f k b) = f := by
  funext j
  unfold mu mf
  rw [upd_ap]
  split
  · rename_i h; rw [h]
  · rfl
theorem q_blows {r b h : Nat} {T : zS} {Q : Int32 → zS → Prop} (hb : b < 6) (hh : h < 10) (hr : r ≠ 6 ∧ r ≠ 7) :
    zq (p_X12_blows r (nI b) (nI h)) T Q = Q (bI (in9 (mf (T.1 r) 5 b + dxm T h) ∧ in9 (mf (T.1 r) 6 b + dym T h))) (zpr T r (mu (mu (T.1 r) 5 b (mf (T.1 r) 5 b + dxm T h)) 6 b (mf (T.1 r) 6 b + dym T h))) := by
  have h6 : (6 = r) = False := eq_false (fun e => hr.1 e.symm)
  have h7 : (7 = r) = False := eq_false (fun e => hr.2 e.symm)
  unfold p_X12_blows dxm dym
  simp (disch := first | assumption | omega | fail) only [q_ret, q_gi, q_gl, q_si, q_sl, q_j, q_b, q_eq, q_lt, q_le, q_nz2, q_nz8, q_nz10, q_nz16, q_nz24, q_rz0, q_rz1, q_rzb, i_T, i_F, not_true_eq_false, not_false_eq_true, true_and, and_true, implies_true, q_al_0, q_al_1, q_al_2, q_al_3, q_al_4, q_al_5, q_al_6, q_al_7, q_as_0, q_as_1, q_as_2, q_as_3, q_as_4, q_as_5, q_as_6, q_as_7, q_a42, q_s42, q_alN, q_asN, q_allN, q_aslN, q_am_0, q_am_1, q_am_2, q_am_3, q_am_4, q_am_5, q_am_6, q_ms_0, q_ms_1, q_ms_2, q_ms_3, q_ms_4, q_ms_5, q_ms_6, zpi_d, zpl_d, zpr_1, zpr_2, zpq_1, zpq_2, zpr_o, zpq_o, Nat.reduceAdd, Nat.reduceEqDiff, Nat.reduceMul, reduceIte, ite_true, ite_false, if_true, if_false, reduceCtorEq, eq_self, ne_m5_m4, ne_m5_m3, ne_m5_m2, ne_m5_m1, ne_m5_0, ne_m5_1, ne_m5_2, ne_m5_3, ne_m4_m5, ne_m4_m3, ne_m4_m2, ne_m4_m1, ne_m4_0, ne_m4_1, ne_m4_2, ne_m4_3, ne_m3_m5, ne_m3_m4, ne_m3_m2, ne_m3_m1, ne_m3_0, ne_m3_1, ne_m3_2, ne_m3_3, ne_m2_m5, ne_m2_m4, ne_m2_m3, ne_m2_m1, ne_m2_0, ne_m2_1, ne_m2_2, ne_m2_3, ne_m1_m5, ne_m1_m4, ne_m1_m3, ne_m1_m2, ne_m1_0, ne_m1_1, ne_m1_2, ne_m1_3, ne_0_m5, ne_0_m4, ne_0_m3, ne_0_m2, ne_0_m1, ne_0_1, ne_0_2, ne_0_3, ne_1_m5, ne_1_m4, ne_1_m3, ne_1_m2, ne_1_m1, ne_1_0, ne_1_2, ne_1_3, ne_2_m5, ne_2_m4, ne_2_m3, ne_2_m2, ne_2_m1, ne_2_0, ne_2_1, ne_2_3, ne_3_m5, ne_3_m4, ne_3_m3, ne_3_m2, ne_3_m1, ne_3_0, ne_3_1, ne_3_2, le0_m5, lt0_m5, le0_m4, lt0_m4, le0_m3, lt0_m3, le0_m2, lt0_m2, le0_m1, lt0_m1, le0_0, lt0_0, le0_1, lt0_1, le0_2, lt0_2, le0_3, lt0_3, Nat.reduceLT, Nat.reduceLeDiff, ne_eq, not_true_eq_false, not_false_eq_true, true_and, and_true, Nat.succ_ne_self, bI_0, bI_1, Classical.not_not, and_self, or_self, or_true, true_or, false_or, or_false, and_false, false_and, q_ewd, q_swd, q_in_99, in9_i, h6, h7, mf_mu]
  by_cases hw : T.1 6 h < 0
  · simp only [hw, if_true, Int32.add_zero, mu_same, zpr_id, i_T, i_F, not_true_eq_false, and_true]
    by_cases h1 : in9 (mf (T.1 r) 5 b)
    · by_cases h2 : in9 (mf (T.1 r) 6 b)
      · simp [h1, h2, bI_t]
      · simp [h1, h2, bI_f]
    · simp [h1, bI_f]
  · simp only [hw, if_false, i_T, i_F, not_false_eq_true, true_and]
    by_cases h1 : in9 (mf (T.1 r) 5 b + ewd (T.1 6 h) * T.1 7 h)
    · by_cases h2 : in9 (mf (T.1 r) 6 b + swd (T.1 6 h) * T.1 7 h)
      · simp [h1, h2, bI_t]
      · simp [h1, h2, bI_f]
    · simp [h1, bI_f]
