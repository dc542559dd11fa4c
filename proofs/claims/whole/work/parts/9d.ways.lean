/-! ===== ways, sure: the calls ===== -/
theorem W_sum {T : zS} {A : Int32} {n m R : Nat} (hm : m ≤ 6) (hR : R ≤ 8) : (wrs T A n m R R (fun _ => 0) (0, none, fun _ => true)).1 < 2 ^ 31 := by
  have h := wrs_le (T := T) (A := A) (n := n) (m := m) (R := R) (by omega) R (fun _ => 0) (0, none, fun _ => true)
  have pw : pw8 R ≤ 2 ^ 30 := by
    have : ∀ R, R < 9 → pw8 R ≤ 2 ^ 30 := by decide
    exact this R (by omega)
  have : (wrs T A n m R R (fun _ => 0) (0, none, fun _ => true)).1 ≤ 0 + pw8 R := h
  omega
theorem L_ways {m R n : Nat} {v : z8} {S T : zS} (h : RC m R v n S T) : LL p_X11_ways p_X12_ways n S T := by
  obtain ⟨hH, ⟨-, -, ⟨k, hMk⟩⟩, hP, hAn⟩ := id h
  have hm6 : m ≤ 6 := hH.1.1
  have hR : R ≤ 8 := hH.2.2.1.1
  obtain ⟨T0, hT0⟩ : ∃ T0, T0 = zpr T 0 (upd (T.1 0) 0 0) := ⟨_, rfl⟩
  have hH0 : RH m R v 20 8 S T0 := by rw [hT0]; exact RH_c hH (by refine ⟨?_, ?_, ?_, ?_, ?_, ?_, ?_, ?_, ?_, ?_, ?_, ?_, ?_, ?_, ?_, ?_, ?_, ?_, ?_, ?_, ?_, ?_, ?_, ?_⟩ <;> simp only [zpi_d, zpl_d, zpr_1, zpr_2, zpq_1, zpq_2, zpr_o, zpq_o, Nat.reduceAdd, Nat.reduceEqDiff, Nat.reduceMul, reduceIte, ite_true, ite_false, if_true, if_false, reduceCtorEq, eq_self, iff_self, i_T, i_F, implies_true, false_and, and_false, ne_m5_m4, ne_m5_m3, ne_m5_m2, ne_m5_m1, ne_m5_0, ne_m5_1, ne_m5_2, ne_m5_3, ne_m4_m5, ne_m4_m3, ne_m4_m2, ne_m4_m1, ne_m4_0, ne_m4_1, ne_m4_2, ne_m4_3, ne_m3_m5, ne_m3_m4, ne_m3_m2, ne_m3_m1, ne_m3_0, ne_m3_1, ne_m3_2, ne_m3_3, ne_m2_m5, ne_m2_m4, ne_m2_m3, ne_m2_m1, ne_m2_0, ne_m2_1, ne_m2_2, ne_m2_3, ne_m1_m5, ne_m1_m4, ne_m1_m3, ne_m1_m2, ne_m1_0, ne_m1_1, ne_m1_2, ne_m1_3, ne_0_m5, ne_0_m4, ne_0_m3, ne_0_m2, ne_0_m1, ne_0_1, ne_0_2, ne_0_3, ne_1_m5, ne_1_m4, ne_1_m3, ne_1_m2, ne_1_m1, ne_1_0, ne_1_2, ne_1_3, ne_2_m5, ne_2_m4, ne_2_m3, ne_2_m2, ne_2_m1, ne_2_0, ne_2_1, ne_2_3, ne_3_m5, ne_3_m4, ne_3_m3, ne_3_m2, ne_3_m1, ne_3_0, ne_3_1, ne_3_2, le0_m5, lt0_m5, le0_m4, lt0_m4, le0_m3, lt0_m3, le0_m2, lt0_m2, le0_m1, lt0_m1, le0_0, lt0_0, le0_1, lt0_1, le0_2, lt0_2, le0_3, lt0_3, Nat.reduceLT, Nat.reduceLeDiff, ne_eq, not_true_eq_false, not_false_eq_true, true_and, and_true, Nat.succ_ne_self, upd_ap]) (by refine ⟨?_, ?_, ?_, ?_, ?_, ?_, ?_, ?_, ?_, ?_, ?_, ?_⟩ <;> simp only [zpi_d, zpl_d, zpr_1, zpr_2, zpq_1, zpq_2, zpr_o, zpq_o, Nat.reduceAdd, Nat.reduceEqDiff, Nat.reduceMul, reduceIte, ite_true, ite_false, if_true, if_false, reduceCtorEq, eq_self, iff_self, i_T, i_F, implies_true, false_and, and_false, ne_m5_m4, ne_m5_m3, ne_m5_m2, ne_m5_m1, ne_m5_0, ne_m5_1, ne_m5_2, ne_m5_3, ne_m4_m5, ne_m4_m3, ne_m4_m2, ne_m4_m1, ne_m4_0, ne_m4_1, ne_m4_2, ne_m4_3, ne_m3_m5, ne_m3_m4, ne_m3_m2, ne_m3_m1, ne_m3_0, ne_m3_1, ne_m3_2, ne_m3_3, ne_m2_m5, ne_m2_m4, ne_m2_m3, ne_m2_m1, ne_m2_0, ne_m2_1, ne_m2_2, ne_m2_3, ne_m1_m5, ne_m1_m4, ne_m1_m3, ne_m1_m2, ne_m1_0, ne_m1_1, ne_m1_2, ne_m1_3, ne_0_m5, ne_0_m4, ne_0_m3, ne_0_m2, ne_0_m1, ne_0_1, ne_0_2, ne_0_3, ne_1_m5, ne_1_m4, ne_1_m3, ne_1_m2, ne_1_m1, ne_1_0, ne_1_2, ne_1_3, ne_2_m5, ne_2_m4, ne_2_m3, ne_2_m2, ne_2_m1, ne_2_0, ne_2_1, ne_2_3, ne_3_m5, ne_3_m4, ne_3_m3, ne_3_m2, ne_3_m1, ne_3_0, ne_3_1, ne_3_2, le0_m5, lt0_m5, le0_m4, lt0_m4, le0_m3, lt0_m3, le0_m2, lt0_m2, le0_m1, lt0_m1, le0_0, lt0_0, le0_1, lt0_1, le0_2, lt0_2, le0_3, lt0_3, Nat.reduceLT, Nat.reduceLeDiff, ne_eq, not_true_eq_false, not_false_eq_true, true_and, and_true, Nat.succ_ne_self, upd_ap])
  have hk0 : MK R k S T0 := by
    rw [hT0]
    unfold MK
    simp only [zpi_d, zpl_d, zpr_1, zpr_2, zpq_1, zpq_2, zpr_o, zpq_o, Nat.reduceAdd, Nat.reduceEqDiff, Nat.reduceMul, reduceIte, ite_true, ite_false, if_true, if_false, reduceCtorEq, eq_self, iff_self, i_T, i_F, implies_true, false_and, and_false, ne_m5_m4, ne_m5_m3, ne_m5_m2, ne_m5_m1, ne_m5_0, ne_m5_1, ne_m5_2, ne_m5_3, ne_m4_m5, ne_m4_m3, ne_m4_m2, ne_m4_m1, ne_m4_0, ne_m4_1, ne_m4_2, ne_m4_3, ne_m3_m5, ne_m3_m4, ne_m3_m2, ne_m3_m1, ne_m3_0, ne_m3_1, ne_m3_2, ne_m3_3, ne_m2_m5, ne_m2_m4, ne_m2_m3, ne_m2_m1, ne_m2_0, ne_m2_1, ne_m2_2, ne_m2_3, ne_m1_m5, ne_m1_m4, ne_m1_m3, ne_m1_m2, ne_m1_0, ne_m1_1, ne_m1_2, ne_m1_3, ne_0_m5, ne_0_m4, ne_0_m3, ne_0_m2, ne_0_m1, ne_0_1, ne_0_2, ne_0_3, ne_1_m5, ne_1_m4, ne_1_m3, ne_1_m2, ne_1_m1, ne_1_0, ne_1_2, ne_1_3, ne_2_m5, ne_2_m4, ne_2_m3, ne_2_m2, ne_2_m1, ne_2_0, ne_2_1, ne_2_3, ne_3_m5, ne_3_m4, ne_3_m3, ne_3_m2, ne_3_m1, ne_3_0, ne_3_1, ne_3_2, le0_m5, lt0_m5, le0_m4, lt0_m4, le0_m3, lt0_m3, le0_m2, lt0_m2, le0_m1, lt0_m1, le0_0, lt0_0, le0_1, lt0_1, le0_2, lt0_2, le0_3, lt0_3, Nat.reduceLT, Nat.reduceLeDiff, ne_eq, not_true_eq_false, not_false_eq_true, true_and, and_true, Nat.succ_ne_self, upd_ap]
    exact hMk
  obtain ⟨A, g1, hA⟩ := c_marked hk0 hR
  have hX := c_goes hH0 hk0 hA
  have hM := m_ways hH0 hk0 hA g1
  have hlt := W_sum (T := T0) (A := A) (n := k) (m := m) (R := R) hm6 hR
  generalize wrs T0 A k m R R (fun _ => 0) (0, none, fun _ => true) = st at hX hM hlt
  unfold LL p_X11_ways
  rw [q_b]
  refine q_mono hX ?_
  rintro r S2 ⟨rfl, f2, e8, hWX, h54⟩
  have leK : (nI st.1 ≤ 0) = (st.1 = 0) := by
    rw [show (0 : Int32) = nI 0 from rfl, nI_leP hlt (by omega)]
    exact propext (by omega)
  have hcR : cA A R ≤ 8 := Nat.le_trans cA_le hR
  obtain ⟨q, hq⟩ : ∃ q : Nat → Nat, st.1 ≠ 0 → st.2.1 = some q := by
    rcases hs2 : st.2.1 with _ | q
    · exact ⟨fun _ => 0, fun z => absurd (hWX.2.1.mp hs2) z⟩
    · exact ⟨q, fun _ => rfl⟩
  obtain ⟨K, hK0, hK1⟩ : ∃ K, (st.1 = 0 → K = 0) ∧ (st.1 ≠ 0 → K = cA A R) := by
    by_cases z : st.1 = 0
    · exact ⟨0, fun _ => rfl, fun y => absurd z y⟩
    · exact ⟨cA A R, fun y => absurd y z, fun _ => rfl⟩
  have hK8 : K ≤ 8 := by
    by_cases z : st.1 = 0
    · rw [hK0 z]; omega
    · rw [hK1 z]; exact hcR
  simp only [q_si, zpi_d]
  refine q_for (A := Unit) (fun _ i => nI i) K (fun _ i S5 => (∀ c', c' ≠ 48 → S5.1 c' = S2.1 c') ∧ S5.1 48 1 = nI i ∧ ∀ j, j < i → S5.2 49 j = (S2.1 57 j).toInt64) (by omega) ?_ ?_ () 0 _ (Nat.zero_le _) ⟨fun c' z => by simp only [zpi_d, zpl_d, zpr_1, zpr_2, zpq_1, zpq_2, zpr_o, zpq_o, Nat.reduceAdd, Nat.reduceEqDiff, Nat.reduceMul, reduceIte, ite_true, ite_false, if_true, if_false, reduceCtorEq, eq_self, iff_self, i_T, i_F, implies_true, false_and, and_false, ne_m5_m4, ne_m5_m3, ne_m5_m2, ne_m5_m1, ne_m5_0, ne_m5_1, ne_m5_2, ne_m5_3, ne_m4_m5, ne_m4_m3, ne_m4_m2, ne_m4_m1, ne_m4_0, ne_m4_1, ne_m4_2, ne_m4_3, ne_m3_m5, ne_m3_m4, ne_m3_m2, ne_m3_m1, ne_m3_0, ne_m3_1, ne_m3_2, ne_m3_3, ne_m2_m5, ne_m2_m4, ne_m2_m3, ne_m2_m1, ne_m2_0, ne_m2_1, ne_m2_2, ne_m2_3, ne_m1_m5, ne_m1_m4, ne_m1_m3, ne_m1_m2, ne_m1_0, ne_m1_1, ne_m1_2, ne_m1_3, ne_0_m5, ne_0_m4, ne_0_m3, ne_0_m2, ne_0_m1, ne_0_1, ne_0_2, ne_0_3, ne_1_m5, ne_1_m4, ne_1_m3, ne_1_m2, ne_1_m1, ne_1_0, ne_1_2, ne_1_3, ne_2_m5, ne_2_m4, ne_2_m3, ne_2_m2, ne_2_m1, ne_2_0, ne_2_1, ne_2_3, ne_3_m5, ne_3_m4, ne_3_m3, ne_3_m2, ne_3_m1, ne_3_0, ne_3_1, ne_3_2, le0_m5, lt0_m5, le0_m4, lt0_m4, le0_m3, lt0_m3, le0_m2, lt0_m2, le0_m1, lt0_m1, le0_0, lt0_0, le0_1, lt0_1, le0_2, lt0_2, le0_3, lt0_3, Nat.reduceLT, Nat.reduceLeDiff, ne_eq, not_true_eq_false, not_false_eq_true, true_and, and_true, Nat.succ_ne_self]; rw [if_neg z], (by simp only [zpi_d, zpl_d, zpr_1, zpr_2, zpq_1, zpq_2, zpr_o, zpq_o, Nat.reduceAdd, Nat.reduceEqDiff, Nat.reduceMul, reduceIte, ite_true, ite_false, if_true, if_false, reduceCtorEq, eq_self, iff_self, i_T, i_F, implies_true, false_and, and_false, ne_m5_m4, ne_m5_m3, ne_m5_m2, ne_m5_m1, ne_m5_0, ne_m5_1, ne_m5_2, ne_m5_3, ne_m4_m5, ne_m4_m3, ne_m4_m2, ne_m4_m1, ne_m4_0, ne_m4_1, ne_m4_2, ne_m4_3, ne_m3_m5, ne_m3_m4, ne_m3_m2, ne_m3_m1, ne_m3_0, ne_m3_1, ne_m3_2, ne_m3_3, ne_m2_m5, ne_m2_m4, ne_m2_m3, ne_m2_m1, ne_m2_0, ne_m2_1, ne_m2_2, ne_m2_3, ne_m1_m5, ne_m1_m4, ne_m1_m3, ne_m1_m2, ne_m1_0, ne_m1_1, ne_m1_2, ne_m1_3, ne_0_m5, ne_0_m4, ne_0_m3, ne_0_m2, ne_0_m1, ne_0_1, ne_0_2, ne_0_3, ne_1_m5, ne_1_m4, ne_1_m3, ne_1_m2, ne_1_m1, ne_1_0, ne_1_2, ne_1_3, ne_2_m5, ne_2_m4, ne_2_m3, ne_2_m2, ne_2_m1, ne_2_0, ne_2_1, ne_2_3, ne_3_m5, ne_3_m4, ne_3_m3, ne_3_m2, ne_3_m1, ne_3_0, ne_3_1, ne_3_2, le0_m5, lt0_m5, le0_m4, lt0_m4, le0_m3, lt0_m3, le0_m2, lt0_m2, le0_m1, lt0_m1, le0_0, lt0_0, le0_1, lt0_1, le0_2, lt0_2, le0_3, lt0_3, Nat.reduceLT, Nat.reduceLeDiff, ne_eq, not_true_eq_false, not_false_eq_true, true_and, and_true, Nat.succ_ne_self, upd_ap]; rfl), fun j hj => absurd hj (Nat.not_lt_zero j)⟩
  · rintro _ i S5 hi ⟨i1, i2, i3⟩ rc next
    have hc0 : st.1 ≠ 0 := fun z => by rw [hK0 z] at hi; omega
    rw [hK1 hc0] at hi
    have e8' : S5.1 50 8 = nI (cA A R) := by rw [i1 50 (by omega)]; exact e8
    have hi8 : i < 8 := by omega
    have leF : (nI st.1 ≤ 0) = False := by rw [leK]; exact eq_false hc0
    unfold p_X11_ways_b22
    simp (disch := first | assumption | omega | rfl | (simp only [zpi_d, zpl_d, zpr_1, zpr_2, zpq_1, zpq_2, zpr_o, zpq_o, Nat.reduceAdd, Nat.reduceEqDiff, Nat.reduceMul, reduceIte, ite_true, ite_false, if_true, if_false, reduceCtorEq, eq_self, iff_self, i_T, i_F, implies_true, false_and, and_false, ne_m5_m4, ne_m5_m3, ne_m5_m2, ne_m5_m1, ne_m5_0, ne_m5_1, ne_m5_2, ne_m5_3, ne_m4_m5, ne_m4_m3, ne_m4_m2, ne_m4_m1, ne_m4_0, ne_m4_1, ne_m4_2, ne_m4_3, ne_m3_m5, ne_m3_m4, ne_m3_m2, ne_m3_m1, ne_m3_0, ne_m3_1, ne_m3_2, ne_m3_3, ne_m2_m5, ne_m2_m4, ne_m2_m3, ne_m2_m1, ne_m2_0, ne_m2_1, ne_m2_2, ne_m2_3, ne_m1_m5, ne_m1_m4, ne_m1_m3, ne_m1_m2, ne_m1_0, ne_m1_1, ne_m1_2, ne_m1_3, ne_0_m5, ne_0_m4, ne_0_m3, ne_0_m2, ne_0_m1, ne_0_1, ne_0_2, ne_0_3, ne_1_m5, ne_1_m4, ne_1_m3, ne_1_m2, ne_1_m1, ne_1_0, ne_1_2, ne_1_3, ne_2_m5, ne_2_m4, ne_2_m3, ne_2_m2, ne_2_m1, ne_2_0, ne_2_1, ne_2_3, ne_3_m5, ne_3_m4, ne_3_m3, ne_3_m2, ne_3_m1, ne_3_0, ne_3_1, ne_3_2, le0_m5, lt0_m5, le0_m4, lt0_m4, le0_m3, lt0_m3, le0_m2, lt0_m2, le0_m1, lt0_m1, le0_0, lt0_0, le0_1, lt0_1, le0_2, lt0_2, le0_3, lt0_3, Nat.reduceLT, Nat.reduceLeDiff, ne_eq, not_true_eq_false, not_false_eq_true, true_and, and_true, Nat.succ_ne_self, upd_ap] <;> assumption) | fail) only [q_ret, q_gi, q_gl, q_si, q_sl, q_j, q_b, q_eq, q_lt, q_le, q_nz2, q_nz8, q_nz10, q_nz16, q_nz24, q_rz0, q_rz1, q_rzb, i_T, i_F, not_true_eq_false, not_false_eq_true, true_and, and_true, implies_true, q_al_0, q_al_1, q_al_2, q_al_3, q_al_4, q_al_5, q_al_6, q_al_7, q_as_0, q_as_1, q_as_2, q_as_3, q_as_4, q_as_5, q_as_6, q_as_7, q_a42, q_s42, q_alN, q_asN, q_allN, q_aslN, q_am_0, q_am_1, q_am_2, q_am_3, q_am_4, q_am_5, q_am_6, q_ms_0, q_ms_1, q_ms_2, q_ms_3, q_ms_4, q_ms_5, q_ms_6, zpi_d, zpl_d, zpr_1, zpr_2, zpq_1, zpq_2, zpr_o, zpq_o, Nat.reduceAdd, Nat.reduceEqDiff, Nat.reduceMul, reduceIte, ite_true, ite_false, if_true, if_false, reduceCtorEq, eq_self, iff_self, i_T, i_F, implies_true, false_and, and_false, ne_m5_m4, ne_m5_m3, ne_m5_m2, ne_m5_m1, ne_m5_0, ne_m5_1, ne_m5_2, ne_m5_3, ne_m4_m5, ne_m4_m3, ne_m4_m2, ne_m4_m1, ne_m4_0, ne_m4_1, ne_m4_2, ne_m4_3, ne_m3_m5, ne_m3_m4, ne_m3_m2, ne_m3_m1, ne_m3_0, ne_m3_1, ne_m3_2, ne_m3_3, ne_m2_m5, ne_m2_m4, ne_m2_m3, ne_m2_m1, ne_m2_0, ne_m2_1, ne_m2_2, ne_m2_3, ne_m1_m5, ne_m1_m4, ne_m1_m3, ne_m1_m2, ne_m1_0, ne_m1_1, ne_m1_2, ne_m1_3, ne_0_m5, ne_0_m4, ne_0_m3, ne_0_m2, ne_0_m1, ne_0_1, ne_0_2, ne_0_3, ne_1_m5, ne_1_m4, ne_1_m3, ne_1_m2, ne_1_m1, ne_1_0, ne_1_2, ne_1_3, ne_2_m5, ne_2_m4, ne_2_m3, ne_2_m2, ne_2_m1, ne_2_0, ne_2_1, ne_2_3, ne_3_m5, ne_3_m4, ne_3_m3, ne_3_m2, ne_3_m1, ne_3_0, ne_3_1, ne_3_2, le0_m5, lt0_m5, le0_m4, lt0_m4, le0_m3, lt0_m3, le0_m2, lt0_m2, le0_m1, lt0_m1, le0_0, lt0_0, le0_1, lt0_1, le0_2, lt0_2, le0_3, lt0_3, Nat.reduceLT, Nat.reduceLeDiff, ne_eq, not_true_eq_false, not_false_eq_true, true_and, and_true, Nat.succ_ne_self, bI_0, bI_1, Classical.not_not, and_self, or_self, or_true, true_or, false_or, or_false, and_false, false_and, leF, e8', nI_leP, le_F, q_add (l := i) hi8 i2, nI_1]
    refine next () _ ⟨fun c' z => ?_, ?_, fun j hj => ?_⟩
    · simp only [zpi_d, zpl_d, zpr_1, zpr_2, zpq_1, zpq_2, zpr_o, zpq_o, Nat.reduceAdd, Nat.reduceEqDiff, Nat.reduceMul, reduceIte, ite_true, ite_false, if_true, if_false, reduceCtorEq, eq_self, iff_self, i_T, i_F, implies_true, false_and, and_false, ne_m5_m4, ne_m5_m3, ne_m5_m2, ne_m5_m1, ne_m5_0, ne_m5_1, ne_m5_2, ne_m5_3, ne_m4_m5, ne_m4_m3, ne_m4_m2, ne_m4_m1, ne_m4_0, ne_m4_1, ne_m4_2, ne_m4_3, ne_m3_m5, ne_m3_m4, ne_m3_m2, ne_m3_m1, ne_m3_0, ne_m3_1, ne_m3_2, ne_m3_3, ne_m2_m5, ne_m2_m4, ne_m2_m3, ne_m2_m1, ne_m2_0, ne_m2_1, ne_m2_2, ne_m2_3, ne_m1_m5, ne_m1_m4, ne_m1_m3, ne_m1_m2, ne_m1_0, ne_m1_1, ne_m1_2, ne_m1_3, ne_0_m5, ne_0_m4, ne_0_m3, ne_0_m2, ne_0_m1, ne_0_1, ne_0_2, ne_0_3, ne_1_m5, ne_1_m4, ne_1_m3, ne_1_m2, ne_1_m1, ne_1_0, ne_1_2, ne_1_3, ne_2_m5, ne_2_m4, ne_2_m3, ne_2_m2, ne_2_m1, ne_2_0, ne_2_1, ne_2_3, ne_3_m5, ne_3_m4, ne_3_m3, ne_3_m2, ne_3_m1, ne_3_0, ne_3_1, ne_3_2, le0_m5, lt0_m5, le0_m4, lt0_m4, le0_m3, lt0_m3, le0_m2, lt0_m2, le0_m1, lt0_m1, le0_0, lt0_0, le0_1, lt0_1, le0_2, lt0_2, le0_3, lt0_3, Nat.reduceLT, Nat.reduceLeDiff, ne_eq, not_true_eq_false, not_false_eq_true, true_and, and_true, Nat.succ_ne_self]; rw [if_neg z]; exact i1 c' z
    · simp only [zpi_d, zpl_d, zpr_1, zpr_2, zpq_1, zpq_2, zpr_o, zpq_o, Nat.reduceAdd, Nat.reduceEqDiff, Nat.reduceMul, reduceIte, ite_true, ite_false, if_true, if_false, reduceCtorEq, eq_self, iff_self, i_T, i_F, implies_true, false_and, and_false, ne_m5_m4, ne_m5_m3, ne_m5_m2, ne_m5_m1, ne_m5_0, ne_m5_1, ne_m5_2, ne_m5_3, ne_m4_m5, ne_m4_m3, ne_m4_m2, ne_m4_m1, ne_m4_0, ne_m4_1, ne_m4_2, ne_m4_3, ne_m3_m5, ne_m3_m4, ne_m3_m2, ne_m3_m1, ne_m3_0, ne_m3_1, ne_m3_2, ne_m3_3, ne_m2_m5, ne_m2_m4, ne_m2_m3, ne_m2_m1, ne_m2_0, ne_m2_1, ne_m2_2, ne_m2_3, ne_m1_m5, ne_m1_m4, ne_m1_m3, ne_m1_m2, ne_m1_0, ne_m1_1, ne_m1_2, ne_m1_3, ne_0_m5, ne_0_m4, ne_0_m3, ne_0_m2, ne_0_m1, ne_0_1, ne_0_2, ne_0_3, ne_1_m5, ne_1_m4, ne_1_m3, ne_1_m2, ne_1_m1, ne_1_0, ne_1_2, ne_1_3, ne_2_m5, ne_2_m4, ne_2_m3, ne_2_m2, ne_2_m1, ne_2_0, ne_2_1, ne_2_3, ne_3_m5, ne_3_m4, ne_3_m3, ne_3_m2, ne_3_m1, ne_3_0, ne_3_1, ne_3_2, le0_m5, lt0_m5, le0_m4, lt0_m4, le0_m3, lt0_m3, le0_m2, lt0_m2, le0_m1, lt0_m1, le0_0, lt0_0, le0_1, lt0_1, le0_2, lt0_2, le0_3, lt0_3, Nat.reduceLT, Nat.reduceLeDiff, ne_eq, not_true_eq_false, not_false_eq_true, true_and, and_true, Nat.succ_ne_self, upd_ap]
    · simp only [zpi_d, zpl_d, zpr_1, zpr_2, zpq_1, zpq_2, zpr_o, zpq_o, Nat.reduceAdd, Nat.reduceEqDiff, Nat.reduceMul, reduceIte, ite_true, ite_false, if_true, if_false, reduceCtorEq, eq_self, iff_self, i_T, i_F, implies_true, false_and, and_false, ne_m5_m4, ne_m5_m3, ne_m5_m2, ne_m5_m1, ne_m5_0, ne_m5_1, ne_m5_2, ne_m5_3, ne_m4_m5, ne_m4_m3, ne_m4_m2, ne_m4_m1, ne_m4_0, ne_m4_1, ne_m4_2, ne_m4_3, ne_m3_m5, ne_m3_m4, ne_m3_m2, ne_m3_m1, ne_m3_0, ne_m3_1, ne_m3_2, ne_m3_3, ne_m2_m5, ne_m2_m4, ne_m2_m3, ne_m2_m1, ne_m2_0, ne_m2_1, ne_m2_2, ne_m2_3, ne_m1_m5, ne_m1_m4, ne_m1_m3, ne_m1_m2, ne_m1_0, ne_m1_1, ne_m1_2, ne_m1_3, ne_0_m5, ne_0_m4, ne_0_m3, ne_0_m2, ne_0_m1, ne_0_1, ne_0_2, ne_0_3, ne_1_m5, ne_1_m4, ne_1_m3, ne_1_m2, ne_1_m1, ne_1_0, ne_1_2, ne_1_3, ne_2_m5, ne_2_m4, ne_2_m3, ne_2_m2, ne_2_m1, ne_2_0, ne_2_1, ne_2_3, ne_3_m5, ne_3_m4, ne_3_m3, ne_3_m2, ne_3_m1, ne_3_0, ne_3_1, ne_3_2, le0_m5, lt0_m5, le0_m4, lt0_m4, le0_m3, lt0_m3, le0_m2, lt0_m2, le0_m1, lt0_m1, le0_0, lt0_0, le0_1, lt0_1, le0_2, lt0_2, le0_3, lt0_3, Nat.reduceLT, Nat.reduceLeDiff, ne_eq, not_true_eq_false, not_false_eq_true, true_and, and_true, Nat.succ_ne_self, updL_ap]
      by_cases e : j = i
      · rw [if_pos e, e, i1 57 (by omega)]
      · rw [if_neg e]; exact i3 j (by omega)
  · rintro _ S5 ⟨i1, i2, i3⟩ rc
    have e8' : S5.1 50 8 = nI (cA A R) := by rw [i1 50 (by omega)]; exact e8
    have hX5 : fX S2 S5 := fun c z1 _ => i1 c z1
    obtain ⟨k1, k2, k3⟩ := fT_kH f2
    obtain ⟨k4, k5, k6⟩ := fX_k hX5
    have kk : kH S S5 ∧ kQ S S5 ∧ kP S S5 := ⟨kH_t k1 k4, kQ_t k2 k5, kP_t k3 k6⟩
    have fin : zq (zret (nI st.1)) S5 (fun r S' => zq p_X12_ways T (fun r' T' => r' = r ∧ RR (n + 1) S' T')) := by
      unfold p_X12_ways
      simp only [q_ret, q_si, zpi_d, ← hT0]
      rw [q_b]
      refine q_mono hM ?_
      rintro _ T2 ⟨fy, t2, hWM⟩
      have hk2 : MK R k S T2 := by
        unfold MK at hk0 ⊢
        rw [fy.2 50 (by omega) (by omega) (by omega) (by omega), fy.1 28 (by omega) (by omega) (by omega), fy.1 29 (by omega) (by omega) (by omega), fy.1 30 (by omega) (by omega) (by omega)]
        exact hk0
      obtain ⟨A', g2, hA'⟩ := c_marked hk2 hR
      have eA : A' = A := b_ext (fun j hj => by
        have h1 := hA' j hj
        have h2 := hA j hj
        rw [fy.1 28 (by omega) (by omega) (by omega)] at h1
        cases h3 : bt A' j <;> cases h4 : bt A j
        · rfl
        · rw [h4] at h2; rw [h3] at h1; exact absurd (h1.mpr (h2.mp rfl)) (by decide)
        · rw [h4] at h2; rw [h3] at h1; exact absurd (h2.mpr (h1.mp rfl)) (by decide)
        · rfl)
      rw [eA] at g2
      rw [q_b, q_of g2, q_b]
      refine q_mono (m_tells (R := R) (K := st.1) (q := q) hR (by rw [fy.2 3 (by omega) (by omega) (by omega) (by omega)]; exact hH0.2.2.1.2.2.1) hWM.1 hlt (fun z c hc hcA => (hWM.2.2.1 q (hq z) c hc hcA).1)) ?_
      rintro _ T5 ⟨j1, j2, j3, j4⟩
      simp only [q_gi, q_ret]
      have e54 : T5.1 0 54 = nI st.1 := by rw [j2 54 (by omega)]; exact hWM.1
      refine ⟨e54, RC_dream h kk (fYl_k ⟨fun c a b d => ?_, fun i a b d e => ?_⟩) ⟨K, by omega, i2, ?_, fun i hi => ?_⟩⟩
      · rw [j1 c a, fy.1 c a b d, hT0]; simp only [zpi_d, zpl_d, zpr_1, zpr_2, zpq_1, zpq_2, zpr_o, zpq_o, Nat.reduceAdd, Nat.reduceEqDiff, Nat.reduceMul, reduceIte, ite_true, ite_false, if_true, if_false, reduceCtorEq, eq_self, iff_self, i_T, i_F, implies_true, false_and, and_false, ne_m5_m4, ne_m5_m3, ne_m5_m2, ne_m5_m1, ne_m5_0, ne_m5_1, ne_m5_2, ne_m5_3, ne_m4_m5, ne_m4_m3, ne_m4_m2, ne_m4_m1, ne_m4_0, ne_m4_1, ne_m4_2, ne_m4_3, ne_m3_m5, ne_m3_m4, ne_m3_m2, ne_m3_m1, ne_m3_0, ne_m3_1, ne_m3_2, ne_m3_3, ne_m2_m5, ne_m2_m4, ne_m2_m3, ne_m2_m1, ne_m2_0, ne_m2_1, ne_m2_2, ne_m2_3, ne_m1_m5, ne_m1_m4, ne_m1_m3, ne_m1_m2, ne_m1_0, ne_m1_1, ne_m1_2, ne_m1_3, ne_0_m5, ne_0_m4, ne_0_m3, ne_0_m2, ne_0_m1, ne_0_1, ne_0_2, ne_0_3, ne_1_m5, ne_1_m4, ne_1_m3, ne_1_m2, ne_1_m1, ne_1_0, ne_1_2, ne_1_3, ne_2_m5, ne_2_m4, ne_2_m3, ne_2_m2, ne_2_m1, ne_2_0, ne_2_1, ne_2_3, ne_3_m5, ne_3_m4, ne_3_m3, ne_3_m2, ne_3_m1, ne_3_0, ne_3_1, ne_3_2, le0_m5, lt0_m5, le0_m4, lt0_m4, le0_m3, lt0_m3, le0_m2, lt0_m2, le0_m1, lt0_m1, le0_0, lt0_0, le0_1, lt0_1, le0_2, lt0_2, le0_3, lt0_3, Nat.reduceLT, Nat.reduceLeDiff, ne_eq, not_true_eq_false, not_false_eq_true, true_and, and_true, Nat.succ_ne_self]; rw [if_neg a]
      · rw [j2 i b, fy.2 i a b d e, hT0]; simp only [zpi_d, zpl_d, zpr_1, zpr_2, zpq_1, zpq_2, zpr_o, zpq_o, Nat.reduceAdd, Nat.reduceEqDiff, Nat.reduceMul, reduceIte, ite_true, ite_false, if_true, if_false, reduceCtorEq, eq_self, iff_self, i_T, i_F, implies_true, false_and, and_false, ne_m5_m4, ne_m5_m3, ne_m5_m2, ne_m5_m1, ne_m5_0, ne_m5_1, ne_m5_2, ne_m5_3, ne_m4_m5, ne_m4_m3, ne_m4_m2, ne_m4_m1, ne_m4_0, ne_m4_1, ne_m4_2, ne_m4_3, ne_m3_m5, ne_m3_m4, ne_m3_m2, ne_m3_m1, ne_m3_0, ne_m3_1, ne_m3_2, ne_m3_3, ne_m2_m5, ne_m2_m4, ne_m2_m3, ne_m2_m1, ne_m2_0, ne_m2_1, ne_m2_2, ne_m2_3, ne_m1_m5, ne_m1_m4, ne_m1_m3, ne_m1_m2, ne_m1_0, ne_m1_1, ne_m1_2, ne_m1_3, ne_0_m5, ne_0_m4, ne_0_m3, ne_0_m2, ne_0_m1, ne_0_1, ne_0_2, ne_0_3, ne_1_m5, ne_1_m4, ne_1_m3, ne_1_m2, ne_1_m1, ne_1_0, ne_1_2, ne_1_3, ne_2_m5, ne_2_m4, ne_2_m3, ne_2_m2, ne_2_m1, ne_2_0, ne_2_1, ne_2_3, ne_3_m5, ne_3_m4, ne_3_m3, ne_3_m2, ne_3_m1, ne_3_0, ne_3_1, ne_3_2, le0_m5, lt0_m5, le0_m4, lt0_m4, le0_m3, lt0_m3, le0_m2, lt0_m2, le0_m1, lt0_m1, le0_0, lt0_0, le0_1, lt0_1, le0_2, lt0_2, le0_3, lt0_3, Nat.reduceLT, Nat.reduceLeDiff, ne_eq, not_true_eq_false, not_false_eq_true, true_and, and_true, Nat.succ_ne_self, upd_ap, if_neg a]
      · rw [j3]
        by_cases z : st.1 = 0
        · rw [if_pos z, hK0 z]
        · rw [if_neg z, hK1 z]
      · have hc0 : st.1 ≠ 0 := fun z => by rw [hK0 z] at hi; omega
        have hi' := hi
        rw [hK1 hc0] at hi'
        obtain ⟨c, c1, c2, c3⟩ := cA_ex R hi'
        rw [i3 i hi, ← c3, (hWX.2.2.1 q (hq hc0) c c1 c2).1, j4 hc0 c c1 c2]
    unfold p_X11_ways_b22
    by_cases z : st.1 = 0
    · have leT : (nI st.1 ≤ 0) = True := by rw [leK]; exact eq_true z
      simp only [q_le, leT, i_T, i_F, not_true_eq_false, and_true]
      exact fin
    · have leF : (nI st.1 ≤ 0) = False := by rw [leK]; exact eq_false z
      rw [hK1 z]
      simp only [q_le, leF, i_T, i_F, true_and, not_false_eq_true, q_gi, e8', nI_leP (show cA A R < 2 ^ 31 by omega) (show cA A R < 2 ^ 31 by omega), le_T (Nat.le_refl (cA A R)), not_true_eq_false, and_true]
      exact fin
/-- the same bits by the seen and by the rings -/
theorem same_cnt {A B X : Int32} {R : Nat} (hR : R ≤ 8) (hB : ∀ c, c < R → (bt B c = true ↔ bt A c = true ∧ bt X (cA A c) = true)) : ∀ r, r ≤ R → fa_cnt (bt X) (cA A r) = cA B r
  | 0, _ => rfl
  | r + 1, hr => by
    have ih := same_cnt hR hB r (by omega)
    have hb := hB r (by omega)
    by_cases hA : bt A r = true
    · rw [cA_t hA, fa_cnt, ih]
      by_cases hx : bt X (cA A r) = true
      · rw [if_pos hx, cA_t (hb.mpr ⟨hA, hx⟩)]
      · rw [if_neg hx, cA_f (fun z => hx (hb.mp z).2)]
        rfl
    · rw [cA_f hA, ih, cA_f (fun z => hA (hb.mp z).1)]
theorem L_sure {m R n : Nat} {v : z8} {S T : zS} (h : RC m R v n S T) : LL p_X11_sure p_X12_sure n S T := by
  obtain ⟨hH, ⟨-, -, ⟨k, hMk⟩⟩, hP, hAn⟩ := id h
  have hm6 : m ≤ 6 := hH.1.1
  have hR : R ≤ 8 := hH.2.2.1.1
  obtain ⟨T0, hT0⟩ : ∃ T0, T0 = zpr T 0 (upd (T.1 0) 0 0) := ⟨_, rfl⟩
  have hH0 : RH m R v 20 8 S T0 := by rw [hT0]; exact RH_c hH (by refine ⟨?_, ?_, ?_, ?_, ?_, ?_, ?_, ?_, ?_, ?_, ?_, ?_, ?_, ?_, ?_, ?_, ?_, ?_, ?_, ?_, ?_, ?_, ?_, ?_⟩ <;> simp only [zpi_d, zpl_d, zpr_1, zpr_2, zpq_1, zpq_2, zpr_o, zpq_o, Nat.reduceAdd, Nat.reduceEqDiff, Nat.reduceMul, reduceIte, ite_true, ite_false, if_true, if_false, reduceCtorEq, eq_self, iff_self, i_T, i_F, implies_true, false_and, and_false, ne_m5_m4, ne_m5_m3, ne_m5_m2, ne_m5_m1, ne_m5_0, ne_m5_1, ne_m5_2, ne_m5_3, ne_m4_m5, ne_m4_m3, ne_m4_m2, ne_m4_m1, ne_m4_0, ne_m4_1, ne_m4_2, ne_m4_3, ne_m3_m5, ne_m3_m4, ne_m3_m2, ne_m3_m1, ne_m3_0, ne_m3_1, ne_m3_2, ne_m3_3, ne_m2_m5, ne_m2_m4, ne_m2_m3, ne_m2_m1, ne_m2_0, ne_m2_1, ne_m2_2, ne_m2_3, ne_m1_m5, ne_m1_m4, ne_m1_m3, ne_m1_m2, ne_m1_0, ne_m1_1, ne_m1_2, ne_m1_3, ne_0_m5, ne_0_m4, ne_0_m3, ne_0_m2, ne_0_m1, ne_0_1, ne_0_2, ne_0_3, ne_1_m5, ne_1_m4, ne_1_m3, ne_1_m2, ne_1_m1, ne_1_0, ne_1_2, ne_1_3, ne_2_m5, ne_2_m4, ne_2_m3, ne_2_m2, ne_2_m1, ne_2_0, ne_2_1, ne_2_3, ne_3_m5, ne_3_m4, ne_3_m3, ne_3_m2, ne_3_m1, ne_3_0, ne_3_1, ne_3_2, le0_m5, lt0_m5, le0_m4, lt0_m4, le0_m3, lt0_m3, le0_m2, lt0_m2, le0_m1, lt0_m1, le0_0, lt0_0, le0_1, lt0_1, le0_2, lt0_2, le0_3, lt0_3, Nat.reduceLT, Nat.reduceLeDiff, ne_eq, not_true_eq_false, not_false_eq_true, true_and, and_true, Nat.succ_ne_self, upd_ap]) (by refine ⟨?_, ?_, ?_, ?_, ?_, ?_, ?_, ?_, ?_, ?_, ?_, ?_⟩ <;> simp only [zpi_d, zpl_d, zpr_1, zpr_2, zpq_1, zpq_2, zpr_o, zpq_o, Nat.reduceAdd, Nat.reduceEqDiff, Nat.reduceMul, reduceIte, ite_true, ite_false, if_true, if_false, reduceCtorEq, eq_self, iff_self, i_T, i_F, implies_true, false_and, and_false, ne_m5_m4, ne_m5_m3, ne_m5_m2, ne_m5_m1, ne_m5_0, ne_m5_1, ne_m5_2, ne_m5_3, ne_m4_m5, ne_m4_m3, ne_m4_m2, ne_m4_m1, ne_m4_0, ne_m4_1, ne_m4_2, ne_m4_3, ne_m3_m5, ne_m3_m4, ne_m3_m2, ne_m3_m1, ne_m3_0, ne_m3_1, ne_m3_2, ne_m3_3, ne_m2_m5, ne_m2_m4, ne_m2_m3, ne_m2_m1, ne_m2_0, ne_m2_1, ne_m2_2, ne_m2_3, ne_m1_m5, ne_m1_m4, ne_m1_m3, ne_m1_m2, ne_m1_0, ne_m1_1, ne_m1_2, ne_m1_3, ne_0_m5, ne_0_m4, ne_0_m3, ne_0_m2, ne_0_m1, ne_0_1, ne_0_2, ne_0_3, ne_1_m5, ne_1_m4, ne_1_m3, ne_1_m2, ne_1_m1, ne_1_0, ne_1_2, ne_1_3, ne_2_m5, ne_2_m4, ne_2_m3, ne_2_m2, ne_2_m1, ne_2_0, ne_2_1, ne_2_3, ne_3_m5, ne_3_m4, ne_3_m3, ne_3_m2, ne_3_m1, ne_3_0, ne_3_1, ne_3_2, le0_m5, lt0_m5, le0_m4, lt0_m4, le0_m3, lt0_m3, le0_m2, lt0_m2, le0_m1, lt0_m1, le0_0, lt0_0, le0_1, lt0_1, le0_2, lt0_2, le0_3, lt0_3, Nat.reduceLT, Nat.reduceLeDiff, ne_eq, not_true_eq_false, not_false_eq_true, true_and, and_true, Nat.succ_ne_self, upd_ap])
  have hk0 : MK R k S T0 := by
    rw [hT0]
    unfold MK
    simp only [zpi_d, zpl_d, zpr_1, zpr_2, zpq_1, zpq_2, zpr_o, zpq_o, Nat.reduceAdd, Nat.reduceEqDiff, Nat.reduceMul, reduceIte, ite_true, ite_false, if_true, if_false, reduceCtorEq, eq_self, iff_self, i_T, i_F, implies_true, false_and, and_false, ne_m5_m4, ne_m5_m3, ne_m5_m2, ne_m5_m1, ne_m5_0, ne_m5_1, ne_m5_2, ne_m5_3, ne_m4_m5, ne_m4_m3, ne_m4_m2, ne_m4_m1, ne_m4_0, ne_m4_1, ne_m4_2, ne_m4_3, ne_m3_m5, ne_m3_m4, ne_m3_m2, ne_m3_m1, ne_m3_0, ne_m3_1, ne_m3_2, ne_m3_3, ne_m2_m5, ne_m2_m4, ne_m2_m3, ne_m2_m1, ne_m2_0, ne_m2_1, ne_m2_2, ne_m2_3, ne_m1_m5, ne_m1_m4, ne_m1_m3, ne_m1_m2, ne_m1_0, ne_m1_1, ne_m1_2, ne_m1_3, ne_0_m5, ne_0_m4, ne_0_m3, ne_0_m2, ne_0_m1, ne_0_1, ne_0_2, ne_0_3, ne_1_m5, ne_1_m4, ne_1_m3, ne_1_m2, ne_1_m1, ne_1_0, ne_1_2, ne_1_3, ne_2_m5, ne_2_m4, ne_2_m3, ne_2_m2, ne_2_m1, ne_2_0, ne_2_1, ne_2_3, ne_3_m5, ne_3_m4, ne_3_m3, ne_3_m2, ne_3_m1, ne_3_0, ne_3_1, ne_3_2, le0_m5, lt0_m5, le0_m4, lt0_m4, le0_m3, lt0_m3, le0_m2, lt0_m2, le0_m1, lt0_m1, le0_0, lt0_0, le0_1, lt0_1, le0_2, lt0_2, le0_3, lt0_3, Nat.reduceLT, Nat.reduceLeDiff, ne_eq, not_true_eq_false, not_false_eq_true, true_and, and_true, Nat.succ_ne_self, upd_ap]
    exact hMk
  obtain ⟨A, g1, hA⟩ := c_marked hk0 hR
  have hAR := MA_R hk0 hR hA
  have hX := c_goes hH0 hk0 hA
  have hM := m_ways hH0 hk0 hA g1
  have hlt := W_sum (T := T0) (A := A) (n := k) (m := m) (R := R) hm6 hR
  generalize wrs T0 A k m R R (fun _ => 0) (0, none, fun _ => true) = st at hX hM hlt
  obtain ⟨_, T2, hM1, fy, t2, hWM⟩ := hM
  obtain ⟨B, hB⟩ : ∃ B, B = T2.1 0 57 := ⟨_, rfl⟩
  unfold LL p_X11_sure
  rw [q_b]
  refine q_mono hX ?_
  rintro r S2 ⟨rfl, f2, e8, hWX, h54⟩
  obtain ⟨X, hXb⟩ : ∃ X, X = S2.1 50 9 := ⟨_, rfl⟩
  have hBX : ∀ c, c < R → (bt B c = true ↔ bt A c = true ∧ bt X (cA A c) = true) := fun c hc => by
    have h1 := hWM.2.2.2 c (by omega)
    rw [← hB] at h1
    rw [h1, Bool.and_eq_true]
    constructor
    · rintro ⟨a, b⟩
      refine ⟨a, ?_⟩
      rw [hXb, hWX.2.2.2 c hc a]; exact b
    · rintro ⟨a, b⟩
      rw [hXb, hWX.2.2.2 c hc a] at b
      exact ⟨a, b⟩
  have hBR : ∀ c, c < 32 → bt B c = true → c < R := fun c hc hb => by
    have h1 := hWM.2.2.2 c hc
    rw [← hB, hb] at h1
    refine hAR c hc ?_
    cases h2 : bt A c
    · rw [h2] at h1; exact absurd h1 (by simp)
    · rfl
  have sc := same_cnt hR hBX
  have leK : (nI st.1 ≤ 0) = (st.1 = 0) := by
    rw [show (0 : Int32) = nI 0 from rfl, nI_leP hlt (by omega)]
    exact propext (by omega)
  have hcR : cA A R ≤ 8 := Nat.le_trans cA_le hR
  obtain ⟨q, hq⟩ : ∃ q : Nat → Nat, st.1 ≠ 0 → st.2.1 = some q := by
    rcases hs2 : st.2.1 with _ | q
    · exact ⟨fun _ => 0, fun z => absurd (hWX.2.1.mp hs2) z⟩
    · exact ⟨q, fun _ => rfl⟩
  obtain ⟨K, hK0, hK1⟩ : ∃ K, (st.1 = 0 → K = 0) ∧ (st.1 ≠ 0 → K = cA A R) := by
    by_cases z : st.1 = 0
    · exact ⟨0, fun _ => rfl, fun y => absurd z y⟩
    · exact ⟨cA A R, fun y => absurd y z, fun _ => rfl⟩
  have hK8 : K ≤ 8 := by
    by_cases z : st.1 = 0
    · rw [hK0 z]; omega
    · rw [hK1 z]; exact hcR
  simp only [q_si, zpi_d]
  refine q_for (A := Int32) (fun w i => (w, nI i)) K (fun w i S5 => (∀ c', c' ≠ 48 → S5.1 c' = S2.1 c') ∧ S5.1 48 1 = nI (fa_cnt (bt X) i) ∧ (∀ c, c < R → bt B c = true → cA A c < i → S5.2 49 (cA B c) = (nI (q c)).toInt64) ∧ ∀ c, c < 32 → (bt w c = true ↔ bt B c = true ∧ cA A c < i)) (by omega) ?_ ?_ 0 0 _ (Nat.zero_le _) ⟨fun c' z => by simp only [zpi_d, zpl_d, zpr_1, zpr_2, zpq_1, zpq_2, zpr_o, zpq_o, Nat.reduceAdd, Nat.reduceEqDiff, Nat.reduceMul, reduceIte, ite_true, ite_false, if_true, if_false, reduceCtorEq, eq_self, iff_self, i_T, i_F, implies_true, false_and, and_false, ne_m5_m4, ne_m5_m3, ne_m5_m2, ne_m5_m1, ne_m5_0, ne_m5_1, ne_m5_2, ne_m5_3, ne_m4_m5, ne_m4_m3, ne_m4_m2, ne_m4_m1, ne_m4_0, ne_m4_1, ne_m4_2, ne_m4_3, ne_m3_m5, ne_m3_m4, ne_m3_m2, ne_m3_m1, ne_m3_0, ne_m3_1, ne_m3_2, ne_m3_3, ne_m2_m5, ne_m2_m4, ne_m2_m3, ne_m2_m1, ne_m2_0, ne_m2_1, ne_m2_2, ne_m2_3, ne_m1_m5, ne_m1_m4, ne_m1_m3, ne_m1_m2, ne_m1_0, ne_m1_1, ne_m1_2, ne_m1_3, ne_0_m5, ne_0_m4, ne_0_m3, ne_0_m2, ne_0_m1, ne_0_1, ne_0_2, ne_0_3, ne_1_m5, ne_1_m4, ne_1_m3, ne_1_m2, ne_1_m1, ne_1_0, ne_1_2, ne_1_3, ne_2_m5, ne_2_m4, ne_2_m3, ne_2_m2, ne_2_m1, ne_2_0, ne_2_1, ne_2_3, ne_3_m5, ne_3_m4, ne_3_m3, ne_3_m2, ne_3_m1, ne_3_0, ne_3_1, ne_3_2, le0_m5, lt0_m5, le0_m4, lt0_m4, le0_m3, lt0_m3, le0_m2, lt0_m2, le0_m1, lt0_m1, le0_0, lt0_0, le0_1, lt0_1, le0_2, lt0_2, le0_3, lt0_3, Nat.reduceLT, Nat.reduceLeDiff, ne_eq, not_true_eq_false, not_false_eq_true, true_and, and_true, Nat.succ_ne_self]; rw [if_neg z], (by simp only [zpi_d, zpl_d, zpr_1, zpr_2, zpq_1, zpq_2, zpr_o, zpq_o, Nat.reduceAdd, Nat.reduceEqDiff, Nat.reduceMul, reduceIte, ite_true, ite_false, if_true, if_false, reduceCtorEq, eq_self, iff_self, i_T, i_F, implies_true, false_and, and_false, ne_m5_m4, ne_m5_m3, ne_m5_m2, ne_m5_m1, ne_m5_0, ne_m5_1, ne_m5_2, ne_m5_3, ne_m4_m5, ne_m4_m3, ne_m4_m2, ne_m4_m1, ne_m4_0, ne_m4_1, ne_m4_2, ne_m4_3, ne_m3_m5, ne_m3_m4, ne_m3_m2, ne_m3_m1, ne_m3_0, ne_m3_1, ne_m3_2, ne_m3_3, ne_m2_m5, ne_m2_m4, ne_m2_m3, ne_m2_m1, ne_m2_0, ne_m2_1, ne_m2_2, ne_m2_3, ne_m1_m5, ne_m1_m4, ne_m1_m3, ne_m1_m2, ne_m1_0, ne_m1_1, ne_m1_2, ne_m1_3, ne_0_m5, ne_0_m4, ne_0_m3, ne_0_m2, ne_0_m1, ne_0_1, ne_0_2, ne_0_3, ne_1_m5, ne_1_m4, ne_1_m3, ne_1_m2, ne_1_m1, ne_1_0, ne_1_2, ne_1_3, ne_2_m5, ne_2_m4, ne_2_m3, ne_2_m2, ne_2_m1, ne_2_0, ne_2_1, ne_2_3, ne_3_m5, ne_3_m4, ne_3_m3, ne_3_m2, ne_3_m1, ne_3_0, ne_3_1, ne_3_2, le0_m5, lt0_m5, le0_m4, lt0_m4, le0_m3, lt0_m3, le0_m2, lt0_m2, le0_m1, lt0_m1, le0_0, lt0_0, le0_1, lt0_1, le0_2, lt0_2, le0_3, lt0_3, Nat.reduceLT, Nat.reduceLeDiff, ne_eq, not_true_eq_false, not_false_eq_true, true_and, and_true, Nat.succ_ne_self, upd_ap]; rfl), fun c hc hb hlt => absurd hlt (Nat.not_lt_zero _), fun c hc => by rw [b_0]; exact ⟨fun z => absurd z (by decide), fun z => absurd z.2 (Nat.not_lt_zero _)⟩⟩
  · rintro w i S5 hi ⟨i1, i2, i3, i4⟩ rc next
    have hc0 : st.1 ≠ 0 := fun z => by rw [hK0 z] at hi; omega
    rw [hK1 hc0] at hi
    have e8' : S5.1 50 8 = nI (cA A R) := by rw [i1 50 (by omega)]; exact e8
    have e9' : S5.1 50 9 = X := by rw [i1 50 (by omega), hXb]
    have hi8 : i < 8 := by omega
    have leF : (nI st.1 ≤ 0) = False := by rw [leK]; exact eq_false hc0
    obtain ⟨r, hr, hrA, er⟩ := cA_ex R hi
    have e54 : S5.1 54 i = nI r := by rw [i1 54 (by omega), ← er]; exact h54 r hr hrA
    have e57 : S5.1 57 i = nI (q r) := by rw [i1 57 (by omega), ← er]; exact (hWX.2.2.1 q (hq hc0) r hr hrA).1
    have scr := sc r (by omega)
    rw [er] at scr
    have cBr := cA_le (A := B) (b := r)
    unfold p_X11_sure_b24
    by_cases hx : bt X i = true
    · have hBr : bt B r = true := (hBX r hr).mpr ⟨hrA, by rw [er]; exact hx⟩
      rw [scr] at i2
      simp (disch := first | assumption | omega | rfl | (simp only [zpi_d, zpl_d, zpr_1, zpr_2, zpq_1, zpq_2, zpr_o, zpq_o, Nat.reduceAdd, Nat.reduceEqDiff, Nat.reduceMul, reduceIte, ite_true, ite_false, if_true, if_false, reduceCtorEq, eq_self, iff_self, i_T, i_F, implies_true, false_and, and_false, ne_m5_m4, ne_m5_m3, ne_m5_m2, ne_m5_m1, ne_m5_0, ne_m5_1, ne_m5_2, ne_m5_3, ne_m4_m5, ne_m4_m3, ne_m4_m2, ne_m4_m1, ne_m4_0, ne_m4_1, ne_m4_2, ne_m4_3, ne_m3_m5, ne_m3_m4, ne_m3_m2, ne_m3_m1, ne_m3_0, ne_m3_1, ne_m3_2, ne_m3_3, ne_m2_m5, ne_m2_m4, ne_m2_m3, ne_m2_m1, ne_m2_0, ne_m2_1, ne_m2_2, ne_m2_3, ne_m1_m5, ne_m1_m4, ne_m1_m3, ne_m1_m2, ne_m1_0, ne_m1_1, ne_m1_2, ne_m1_3, ne_0_m5, ne_0_m4, ne_0_m3, ne_0_m2, ne_0_m1, ne_0_1, ne_0_2, ne_0_3, ne_1_m5, ne_1_m4, ne_1_m3, ne_1_m2, ne_1_m1, ne_1_0, ne_1_2, ne_1_3, ne_2_m5, ne_2_m4, ne_2_m3, ne_2_m2, ne_2_m1, ne_2_0, ne_2_1, ne_2_3, ne_3_m5, ne_3_m4, ne_3_m3, ne_3_m2, ne_3_m1, ne_3_0, ne_3_1, ne_3_2, le0_m5, lt0_m5, le0_m4, lt0_m4, le0_m3, lt0_m3, le0_m2, lt0_m2, le0_m1, lt0_m1, le0_0, lt0_0, le0_1, lt0_1, le0_2, lt0_2, le0_3, lt0_3, Nat.reduceLT, Nat.reduceLeDiff, ne_eq, not_true_eq_false, not_false_eq_true, true_and, and_true, Nat.succ_ne_self, upd_ap] <;> assumption) | fail) only [q_ret, q_gi, q_gl, q_si, q_sl, q_j, q_b, q_eq, q_lt, q_le, q_nz2, q_nz8, q_nz10, q_nz16, q_nz24, q_rz0, q_rz1, q_rzb, i_T, i_F, not_true_eq_false, not_false_eq_true, true_and, and_true, implies_true, q_al_0, q_al_1, q_al_2, q_al_3, q_al_4, q_al_5, q_al_6, q_al_7, q_as_0, q_as_1, q_as_2, q_as_3, q_as_4, q_as_5, q_as_6, q_as_7, q_a42, q_s42, q_alN, q_asN, q_allN, q_aslN, q_am_0, q_am_1, q_am_2, q_am_3, q_am_4, q_am_5, q_am_6, q_ms_0, q_ms_1, q_ms_2, q_ms_3, q_ms_4, q_ms_5, q_ms_6, zpi_d, zpl_d, zpr_1, zpr_2, zpq_1, zpq_2, zpr_o, zpq_o, Nat.reduceAdd, Nat.reduceEqDiff, Nat.reduceMul, reduceIte, ite_true, ite_false, if_true, if_false, reduceCtorEq, eq_self, iff_self, i_T, i_F, implies_true, false_and, and_false, ne_m5_m4, ne_m5_m3, ne_m5_m2, ne_m5_m1, ne_m5_0, ne_m5_1, ne_m5_2, ne_m5_3, ne_m4_m5, ne_m4_m3, ne_m4_m2, ne_m4_m1, ne_m4_0, ne_m4_1, ne_m4_2, ne_m4_3, ne_m3_m5, ne_m3_m4, ne_m3_m2, ne_m3_m1, ne_m3_0, ne_m3_1, ne_m3_2, ne_m3_3, ne_m2_m5, ne_m2_m4, ne_m2_m3, ne_m2_m1, ne_m2_0, ne_m2_1, ne_m2_2, ne_m2_3, ne_m1_m5, ne_m1_m4, ne_m1_m3, ne_m1_m2, ne_m1_0, ne_m1_1, ne_m1_2, ne_m1_3, ne_0_m5, ne_0_m4, ne_0_m3, ne_0_m2, ne_0_m1, ne_0_1, ne_0_2, ne_0_3, ne_1_m5, ne_1_m4, ne_1_m3, ne_1_m2, ne_1_m1, ne_1_0, ne_1_2, ne_1_3, ne_2_m5, ne_2_m4, ne_2_m3, ne_2_m2, ne_2_m1, ne_2_0, ne_2_1, ne_2_3, ne_3_m5, ne_3_m4, ne_3_m3, ne_3_m2, ne_3_m1, ne_3_0, ne_3_1, ne_3_2, le0_m5, lt0_m5, le0_m4, lt0_m4, le0_m3, lt0_m3, le0_m2, lt0_m2, le0_m1, lt0_m1, le0_0, lt0_0, le0_1, lt0_1, le0_2, lt0_2, le0_3, lt0_3, Nat.reduceLT, Nat.reduceLeDiff, ne_eq, not_true_eq_false, not_false_eq_true, true_and, and_true, Nat.succ_ne_self, bI_0, bI_1, Classical.not_not, and_self, or_self, or_true, true_or, false_or, or_false, and_false, false_and, leF, e8', nI_leP, le_F, e9', b_tst (show i < 32 by omega), hx, e54, e57, q_add (l := cA B r) (show cA B r < 8 by omega) i2, nI_1]
      refine next _ _ ⟨fun c' z => ?_, ?_, fun c hc hcB hlt => ?_, fun c hc => ?_⟩
      · simp only [zpi_d, zpl_d, zpr_1, zpr_2, zpq_1, zpq_2, zpr_o, zpq_o, Nat.reduceAdd, Nat.reduceEqDiff, Nat.reduceMul, reduceIte, ite_true, ite_false, if_true, if_false, reduceCtorEq, eq_self, iff_self, i_T, i_F, implies_true, false_and, and_false, ne_m5_m4, ne_m5_m3, ne_m5_m2, ne_m5_m1, ne_m5_0, ne_m5_1, ne_m5_2, ne_m5_3, ne_m4_m5, ne_m4_m3, ne_m4_m2, ne_m4_m1, ne_m4_0, ne_m4_1, ne_m4_2, ne_m4_3, ne_m3_m5, ne_m3_m4, ne_m3_m2, ne_m3_m1, ne_m3_0, ne_m3_1, ne_m3_2, ne_m3_3, ne_m2_m5, ne_m2_m4, ne_m2_m3, ne_m2_m1, ne_m2_0, ne_m2_1, ne_m2_2, ne_m2_3, ne_m1_m5, ne_m1_m4, ne_m1_m3, ne_m1_m2, ne_m1_0, ne_m1_1, ne_m1_2, ne_m1_3, ne_0_m5, ne_0_m4, ne_0_m3, ne_0_m2, ne_0_m1, ne_0_1, ne_0_2, ne_0_3, ne_1_m5, ne_1_m4, ne_1_m3, ne_1_m2, ne_1_m1, ne_1_0, ne_1_2, ne_1_3, ne_2_m5, ne_2_m4, ne_2_m3, ne_2_m2, ne_2_m1, ne_2_0, ne_2_1, ne_2_3, ne_3_m5, ne_3_m4, ne_3_m3, ne_3_m2, ne_3_m1, ne_3_0, ne_3_1, ne_3_2, le0_m5, lt0_m5, le0_m4, lt0_m4, le0_m3, lt0_m3, le0_m2, lt0_m2, le0_m1, lt0_m1, le0_0, lt0_0, le0_1, lt0_1, le0_2, lt0_2, le0_3, lt0_3, Nat.reduceLT, Nat.reduceLeDiff, ne_eq, not_true_eq_false, not_false_eq_true, true_and, and_true, Nat.succ_ne_self]; rw [if_neg z]; exact i1 c' z
      · simp only [zpi_d, zpl_d, zpr_1, zpr_2, zpq_1, zpq_2, zpr_o, zpq_o, Nat.reduceAdd, Nat.reduceEqDiff, Nat.reduceMul, reduceIte, ite_true, ite_false, if_true, if_false, reduceCtorEq, eq_self, iff_self, i_T, i_F, implies_true, false_and, and_false, ne_m5_m4, ne_m5_m3, ne_m5_m2, ne_m5_m1, ne_m5_0, ne_m5_1, ne_m5_2, ne_m5_3, ne_m4_m5, ne_m4_m3, ne_m4_m2, ne_m4_m1, ne_m4_0, ne_m4_1, ne_m4_2, ne_m4_3, ne_m3_m5, ne_m3_m4, ne_m3_m2, ne_m3_m1, ne_m3_0, ne_m3_1, ne_m3_2, ne_m3_3, ne_m2_m5, ne_m2_m4, ne_m2_m3, ne_m2_m1, ne_m2_0, ne_m2_1, ne_m2_2, ne_m2_3, ne_m1_m5, ne_m1_m4, ne_m1_m3, ne_m1_m2, ne_m1_0, ne_m1_1, ne_m1_2, ne_m1_3, ne_0_m5, ne_0_m4, ne_0_m3, ne_0_m2, ne_0_m1, ne_0_1, ne_0_2, ne_0_3, ne_1_m5, ne_1_m4, ne_1_m3, ne_1_m2, ne_1_m1, ne_1_0, ne_1_2, ne_1_3, ne_2_m5, ne_2_m4, ne_2_m3, ne_2_m2, ne_2_m1, ne_2_0, ne_2_1, ne_2_3, ne_3_m5, ne_3_m4, ne_3_m3, ne_3_m2, ne_3_m1, ne_3_0, ne_3_1, ne_3_2, le0_m5, lt0_m5, le0_m4, lt0_m4, le0_m3, lt0_m3, le0_m2, lt0_m2, le0_m1, lt0_m1, le0_0, lt0_0, le0_1, lt0_1, le0_2, lt0_2, le0_3, lt0_3, Nat.reduceLT, Nat.reduceLeDiff, ne_eq, not_true_eq_false, not_false_eq_true, true_and, and_true, Nat.succ_ne_self, upd_ap]
        rw [fa_cnt, if_pos hx, scr]
      · simp only [zpi_d, zpl_d, zpr_1, zpr_2, zpq_1, zpq_2, zpr_o, zpq_o, Nat.reduceAdd, Nat.reduceEqDiff, Nat.reduceMul, reduceIte, ite_true, ite_false, if_true, if_false, reduceCtorEq, eq_self, iff_self, i_T, i_F, implies_true, false_and, and_false, ne_m5_m4, ne_m5_m3, ne_m5_m2, ne_m5_m1, ne_m5_0, ne_m5_1, ne_m5_2, ne_m5_3, ne_m4_m5, ne_m4_m3, ne_m4_m2, ne_m4_m1, ne_m4_0, ne_m4_1, ne_m4_2, ne_m4_3, ne_m3_m5, ne_m3_m4, ne_m3_m2, ne_m3_m1, ne_m3_0, ne_m3_1, ne_m3_2, ne_m3_3, ne_m2_m5, ne_m2_m4, ne_m2_m3, ne_m2_m1, ne_m2_0, ne_m2_1, ne_m2_2, ne_m2_3, ne_m1_m5, ne_m1_m4, ne_m1_m3, ne_m1_m2, ne_m1_0, ne_m1_1, ne_m1_2, ne_m1_3, ne_0_m5, ne_0_m4, ne_0_m3, ne_0_m2, ne_0_m1, ne_0_1, ne_0_2, ne_0_3, ne_1_m5, ne_1_m4, ne_1_m3, ne_1_m2, ne_1_m1, ne_1_0, ne_1_2, ne_1_3, ne_2_m5, ne_2_m4, ne_2_m3, ne_2_m2, ne_2_m1, ne_2_0, ne_2_1, ne_2_3, ne_3_m5, ne_3_m4, ne_3_m3, ne_3_m2, ne_3_m1, ne_3_0, ne_3_1, ne_3_2, le0_m5, lt0_m5, le0_m4, lt0_m4, le0_m3, lt0_m3, le0_m2, lt0_m2, le0_m1, lt0_m1, le0_0, lt0_0, le0_1, lt0_1, le0_2, lt0_2, le0_3, lt0_3, Nat.reduceLT, Nat.reduceLeDiff, ne_eq, not_true_eq_false, not_false_eq_true, true_and, and_true, Nat.succ_ne_self, updL_ap]
        by_cases e : c = r
        · rw [e, if_pos rfl]
        · rw [if_neg (fun z => e (cA_inj hcB hBr z))]
          have : ¬ cA A c = i := fun z => e (cA_inj ((hBX c hc).mp hcB).1 hrA (z.trans er.symm))
          exact i3 c hc hcB (by omega)
      · rw [b_put (by omega) hc, Bool.or_eq_true, decide_eq_true_iff, i4 c hc]
        constructor
        · rintro (⟨a, b⟩ | e)
          · exact ⟨a, by omega⟩
          · rw [e]; exact ⟨hBr, by omega⟩
        · rintro ⟨a, b⟩
          by_cases e : c = r
          · exact Or.inr e
          · have : ¬ cA A c = i := fun z => e (cA_inj ((hBX c (hBR c hc a)).mp a).1 hrA (z.trans er.symm))
            exact Or.inl ⟨a, by omega⟩
    · have hBr : ¬ bt B r = true := fun z => hx (by have := ((hBX r hr).mp z).2; rw [er] at this; exact this)
      simp (disch := first | assumption | omega | rfl | (simp only [zpi_d, zpl_d, zpr_1, zpr_2, zpq_1, zpq_2, zpr_o, zpq_o, Nat.reduceAdd, Nat.reduceEqDiff, Nat.reduceMul, reduceIte, ite_true, ite_false, if_true, if_false, reduceCtorEq, eq_self, iff_self, i_T, i_F, implies_true, false_and, and_false, ne_m5_m4, ne_m5_m3, ne_m5_m2, ne_m5_m1, ne_m5_0, ne_m5_1, ne_m5_2, ne_m5_3, ne_m4_m5, ne_m4_m3, ne_m4_m2, ne_m4_m1, ne_m4_0, ne_m4_1, ne_m4_2, ne_m4_3, ne_m3_m5, ne_m3_m4, ne_m3_m2, ne_m3_m1, ne_m3_0, ne_m3_1, ne_m3_2, ne_m3_3, ne_m2_m5, ne_m2_m4, ne_m2_m3, ne_m2_m1, ne_m2_0, ne_m2_1, ne_m2_2, ne_m2_3, ne_m1_m5, ne_m1_m4, ne_m1_m3, ne_m1_m2, ne_m1_0, ne_m1_1, ne_m1_2, ne_m1_3, ne_0_m5, ne_0_m4, ne_0_m3, ne_0_m2, ne_0_m1, ne_0_1, ne_0_2, ne_0_3, ne_1_m5, ne_1_m4, ne_1_m3, ne_1_m2, ne_1_m1, ne_1_0, ne_1_2, ne_1_3, ne_2_m5, ne_2_m4, ne_2_m3, ne_2_m2, ne_2_m1, ne_2_0, ne_2_1, ne_2_3, ne_3_m5, ne_3_m4, ne_3_m3, ne_3_m2, ne_3_m1, ne_3_0, ne_3_1, ne_3_2, le0_m5, lt0_m5, le0_m4, lt0_m4, le0_m3, lt0_m3, le0_m2, lt0_m2, le0_m1, lt0_m1, le0_0, lt0_0, le0_1, lt0_1, le0_2, lt0_2, le0_3, lt0_3, Nat.reduceLT, Nat.reduceLeDiff, ne_eq, not_true_eq_false, not_false_eq_true, true_and, and_true, Nat.succ_ne_self, upd_ap] <;> assumption) | fail) only [q_ret, q_gi, q_gl, q_si, q_sl, q_j, q_b, q_eq, q_lt, q_le, q_nz2, q_nz8, q_nz10, q_nz16, q_nz24, q_rz0, q_rz1, q_rzb, i_T, i_F, not_true_eq_false, not_false_eq_true, true_and, and_true, implies_true, q_al_0, q_al_1, q_al_2, q_al_3, q_al_4, q_al_5, q_al_6, q_al_7, q_as_0, q_as_1, q_as_2, q_as_3, q_as_4, q_as_5, q_as_6, q_as_7, q_a42, q_s42, q_alN, q_asN, q_allN, q_aslN, q_am_0, q_am_1, q_am_2, q_am_3, q_am_4, q_am_5, q_am_6, q_ms_0, q_ms_1, q_ms_2, q_ms_3, q_ms_4, q_ms_5, q_ms_6, zpi_d, zpl_d, zpr_1, zpr_2, zpq_1, zpq_2, zpr_o, zpq_o, Nat.reduceAdd, Nat.reduceEqDiff, Nat.reduceMul, reduceIte, ite_true, ite_false, if_true, if_false, reduceCtorEq, eq_self, iff_self, i_T, i_F, implies_true, false_and, and_false, ne_m5_m4, ne_m5_m3, ne_m5_m2, ne_m5_m1, ne_m5_0, ne_m5_1, ne_m5_2, ne_m5_3, ne_m4_m5, ne_m4_m3, ne_m4_m2, ne_m4_m1, ne_m4_0, ne_m4_1, ne_m4_2, ne_m4_3, ne_m3_m5, ne_m3_m4, ne_m3_m2, ne_m3_m1, ne_m3_0, ne_m3_1, ne_m3_2, ne_m3_3, ne_m2_m5, ne_m2_m4, ne_m2_m3, ne_m2_m1, ne_m2_0, ne_m2_1, ne_m2_2, ne_m2_3, ne_m1_m5, ne_m1_m4, ne_m1_m3, ne_m1_m2, ne_m1_0, ne_m1_1, ne_m1_2, ne_m1_3, ne_0_m5, ne_0_m4, ne_0_m3, ne_0_m2, ne_0_m1, ne_0_1, ne_0_2, ne_0_3, ne_1_m5, ne_1_m4, ne_1_m3, ne_1_m2, ne_1_m1, ne_1_0, ne_1_2, ne_1_3, ne_2_m5, ne_2_m4, ne_2_m3, ne_2_m2, ne_2_m1, ne_2_0, ne_2_1, ne_2_3, ne_3_m5, ne_3_m4, ne_3_m3, ne_3_m2, ne_3_m1, ne_3_0, ne_3_1, ne_3_2, le0_m5, lt0_m5, le0_m4, lt0_m4, le0_m3, lt0_m3, le0_m2, lt0_m2, le0_m1, lt0_m1, le0_0, lt0_0, le0_1, lt0_1, le0_2, lt0_2, le0_3, lt0_3, Nat.reduceLT, Nat.reduceLeDiff, ne_eq, not_true_eq_false, not_false_eq_true, true_and, and_true, Nat.succ_ne_self, bI_0, bI_1, Classical.not_not, and_self, or_self, or_true, true_or, false_or, or_false, and_false, false_and, leF, e8', nI_leP, le_F, e9', b_tst (show i < 32 by omega), hx, Bool.false_eq_true, nI_1]
      have nr : ∀ c, c < R → bt B c = true → ¬ cA A c = i := fun c hc hcB z => by
        have : c = r := cA_inj ((hBX c hc).mp hcB).1 hrA (z.trans er.symm)
        rw [this] at hcB
        exact hBr hcB
      refine next _ _ ⟨i1, by rw [fa_cnt, if_neg hx]; exact i2, fun c hc hcB hlt => ?_, fun c hc => ?_⟩
      · have := nr c hc hcB
        exact i3 c hc hcB (by omega)
      · rw [i4 c hc]
        constructor
        · rintro ⟨a, b⟩; exact ⟨a, by omega⟩
        · rintro ⟨a, b⟩
          have := nr c (hBR c hc a) a
          exact ⟨a, by omega⟩
  · rintro w S5 ⟨i1, i2, i3, i4⟩ rc
    have e8' : S5.1 50 8 = nI (cA A R) := by rw [i1 50 (by omega)]; exact e8
    have hX5 : fX S2 S5 := fun c z1 _ => i1 c z1
    obtain ⟨k1, k2, k3⟩ := fT_kH f2
    obtain ⟨k4, k5, k6⟩ := fX_k hX5
    have kk : kH S S5 ∧ kQ S S5 ∧ kP S S5 := ⟨kH_t k1 k4, kQ_t k2 k5, kP_t k3 k6⟩
    have ew : w = (if st.1 = 0 then 0 else B) := by
      by_cases z : st.1 = 0
      · rw [if_pos z]
        refine b_ext (fun c hc => ?_)
        rw [b_0]
        refine Bool.eq_false_iff.mpr (fun y => ?_)
        have := ((i4 c hc).mp y).2
        rw [hK0 z] at this
        omega
      · rw [if_neg z]
        refine b_ext (fun c hc => ?_)
        have h1 := i4 c hc
        rw [hK1 z] at h1
        cases h3 : bt w c <;> cases h4 : bt B c
        · rfl
        · rw [h3, h4] at h1
          have hcR' := hBR c hc h4
          exact absurd (h1.mpr ⟨rfl, cA_lt hcR' ((hBX c hcR').mp h4).1⟩) (by decide)
        · rw [h3, h4] at h1
          exact absurd (h1.mp rfl).1 (by decide)
        · rfl
    have fin : zq (zret w) S5 (fun r S' => zq p_X12_sure T (fun r' T' => r' = r ∧ RR (n + 1) S' T')) := by
      unfold p_X12_sure
      simp only [q_ret, q_si, zpi_d, ← hT0]
      rw [q_b, q_of hM1]
      simp only [q_gi, ← hB]
      rw [q_b]
      refine q_mono (m_tells (R := R) (K := st.1) (q := q) hR (by rw [fy.2 3 (by omega) (by omega) (by omega) (by omega)]; exact hH0.2.2.1.2.2.1) hWM.1 hlt (fun z c hc hcB => (hWM.2.2.1 q (hq z) c hc ((hBX c hc).mp hcB).1).1)) ?_
      rintro _ T5 ⟨j1, j2, j3, j4⟩
      have e54 : T5.1 0 54 = nI st.1 := by rw [j2 54 (by omega)]; exact hWM.1
      have e57 : T5.1 0 57 = B := by rw [j2 57 (by omega), hB]
      have out : RR (n + 1) S5 T5 := by
        refine RC_dream h kk (fYl_k ⟨fun c a b d => ?_, fun i a b d e => ?_⟩) ⟨fa_cnt (bt X) K, ?_, i2, ?_, fun i hi => ?_⟩
        · rw [j1 c a, fy.1 c a b d, hT0]; simp only [zpi_d, zpl_d, zpr_1, zpr_2, zpq_1, zpq_2, zpr_o, zpq_o, Nat.reduceAdd, Nat.reduceEqDiff, Nat.reduceMul, reduceIte, ite_true, ite_false, if_true, if_false, reduceCtorEq, eq_self, iff_self, i_T, i_F, implies_true, false_and, and_false, ne_m5_m4, ne_m5_m3, ne_m5_m2, ne_m5_m1, ne_m5_0, ne_m5_1, ne_m5_2, ne_m5_3, ne_m4_m5, ne_m4_m3, ne_m4_m2, ne_m4_m1, ne_m4_0, ne_m4_1, ne_m4_2, ne_m4_3, ne_m3_m5, ne_m3_m4, ne_m3_m2, ne_m3_m1, ne_m3_0, ne_m3_1, ne_m3_2, ne_m3_3, ne_m2_m5, ne_m2_m4, ne_m2_m3, ne_m2_m1, ne_m2_0, ne_m2_1, ne_m2_2, ne_m2_3, ne_m1_m5, ne_m1_m4, ne_m1_m3, ne_m1_m2, ne_m1_0, ne_m1_1, ne_m1_2, ne_m1_3, ne_0_m5, ne_0_m4, ne_0_m3, ne_0_m2, ne_0_m1, ne_0_1, ne_0_2, ne_0_3, ne_1_m5, ne_1_m4, ne_1_m3, ne_1_m2, ne_1_m1, ne_1_0, ne_1_2, ne_1_3, ne_2_m5, ne_2_m4, ne_2_m3, ne_2_m2, ne_2_m1, ne_2_0, ne_2_1, ne_2_3, ne_3_m5, ne_3_m4, ne_3_m3, ne_3_m2, ne_3_m1, ne_3_0, ne_3_1, ne_3_2, le0_m5, lt0_m5, le0_m4, lt0_m4, le0_m3, lt0_m3, le0_m2, lt0_m2, le0_m1, lt0_m1, le0_0, lt0_0, le0_1, lt0_1, le0_2, lt0_2, le0_3, lt0_3, Nat.reduceLT, Nat.reduceLeDiff, ne_eq, not_true_eq_false, not_false_eq_true, true_and, and_true, Nat.succ_ne_self]; rw [if_neg a]
        · rw [j2 i b, fy.2 i a b d e, hT0]; simp only [zpi_d, zpl_d, zpr_1, zpr_2, zpq_1, zpq_2, zpr_o, zpq_o, Nat.reduceAdd, Nat.reduceEqDiff, Nat.reduceMul, reduceIte, ite_true, ite_false, if_true, if_false, reduceCtorEq, eq_self, iff_self, i_T, i_F, implies_true, false_and, and_false, ne_m5_m4, ne_m5_m3, ne_m5_m2, ne_m5_m1, ne_m5_0, ne_m5_1, ne_m5_2, ne_m5_3, ne_m4_m5, ne_m4_m3, ne_m4_m2, ne_m4_m1, ne_m4_0, ne_m4_1, ne_m4_2, ne_m4_3, ne_m3_m5, ne_m3_m4, ne_m3_m2, ne_m3_m1, ne_m3_0, ne_m3_1, ne_m3_2, ne_m3_3, ne_m2_m5, ne_m2_m4, ne_m2_m3, ne_m2_m1, ne_m2_0, ne_m2_1, ne_m2_2, ne_m2_3, ne_m1_m5, ne_m1_m4, ne_m1_m3, ne_m1_m2, ne_m1_0, ne_m1_1, ne_m1_2, ne_m1_3, ne_0_m5, ne_0_m4, ne_0_m3, ne_0_m2, ne_0_m1, ne_0_1, ne_0_2, ne_0_3, ne_1_m5, ne_1_m4, ne_1_m3, ne_1_m2, ne_1_m1, ne_1_0, ne_1_2, ne_1_3, ne_2_m5, ne_2_m4, ne_2_m3, ne_2_m2, ne_2_m1, ne_2_0, ne_2_1, ne_2_3, ne_3_m5, ne_3_m4, ne_3_m3, ne_3_m2, ne_3_m1, ne_3_0, ne_3_1, ne_3_2, le0_m5, lt0_m5, le0_m4, lt0_m4, le0_m3, lt0_m3, le0_m2, lt0_m2, le0_m1, lt0_m1, le0_0, lt0_0, le0_1, lt0_1, le0_2, lt0_2, le0_3, lt0_3, Nat.reduceLT, Nat.reduceLeDiff, ne_eq, not_true_eq_false, not_false_eq_true, true_and, and_true, Nat.succ_ne_self, upd_ap, if_neg a]
        · exact Nat.le_trans (fa_cnt_le _ _) hK8
        · rw [j3]
          by_cases z : st.1 = 0
          · rw [if_pos z, hK0 z]; rfl
          · rw [if_neg z, hK1 z, sc R (Nat.le_refl _)]
        · have hc0 : st.1 ≠ 0 := fun z => by
            rw [hK0 z] at hi
            exact absurd hi (Nat.not_lt_zero i)
          rw [hK1 hc0, sc R (Nat.le_refl _)] at hi
          obtain ⟨c, c1, c2, c3⟩ := cA_ex R hi
          rw [← c3, i3 c c1 c2 (by rw [hK1 hc0]; exact cA_lt c1 ((hBX c c1).mp c2).1), j4 hc0 c c1 c2]
      simp only [q_gi, q_le, q_ret, e54, leK, e57]
      by_cases z : st.1 = 0
      · rw [if_pos z] at ew
        exact ⟨fun _ => ⟨ew.symm, out⟩, fun y => absurd z y⟩
      · rw [if_neg z] at ew
        exact ⟨fun y => absurd y z, fun _ => ⟨ew.symm, out⟩⟩
    unfold p_X11_sure_b24
    by_cases z : st.1 = 0
    · have leT : (nI st.1 ≤ 0) = True := by rw [leK]; exact eq_true z
      simp only [q_le, leT, i_T, i_F, not_true_eq_false, and_true]
      exact fin
    · have leF : (nI st.1 ≤ 0) = False := by rw [leK]; exact eq_false z
      rw [hK1 z]
      simp only [q_le, leF, i_T, i_F, true_and, not_false_eq_true, q_gi, e8', nI_leP (show cA A R < 2 ^ 31 by omega) (show cA A R < 2 ^ 31 by omega), le_T (Nat.le_refl (cA A R)), not_true_eq_false, and_true]
      exact fin
