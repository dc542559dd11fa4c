/-! ===== landings: the reference tries ===== -/
def f9L (T T' : zS) : Prop := (∀ c, c ≠ 0 → c ≠ 14 → c ≠ 15 → c ≠ 23 → c ≠ 24 → c ≠ 25 → T'.1 c = T.1 c) ∧ (∀ j, j ≠ 45 → j ≠ 46 → T'.1 0 j = T.1 0 j) ∧ T'.2 = T.2
theorem f9L_t {T T1 T2 : zS} (h : f9L T T1) (g : f9L T1 T2) : f9L T T2 := ⟨fun c a0 a1 a2 a3 a4 a5 => (g.1 c a0 a1 a2 a3 a4 a5).trans (h.1 c a0 a1 a2 a3 a4 a5), fun j a b => (g.2.1 j a b).trans (h.2.1 j a b), g.2.2.trans h.2.2⟩
theorem f9L_r {T : zS} : f9L T T := ⟨fun _ _ _ _ _ _ _ => rfl, fun _ _ _ => rfl, rfl⟩
theorem f9L_R {T T' : zS} (h : f9R T T') : f9L T T' := ⟨fun c _ a1 a2 a3 a4 a5 => h.1 c a1 a2 a3 a4 a5, fun j _ _ => by rw [h.1 0 (by omega) (by omega) (by omega) (by omega) (by omega)], h.2⟩
theorem f9L_w {T : zS} {j : Nat} {x : Int32} (h : j = 45 ∨ j = 46) : f9L T (zpr T 0 (upd (T.1 0) j x)) := ⟨fun c a _ _ _ _ _ => zpr_n a, fun i a b => by simp only [zpi_d, zpl_d, zpr_1, zpr_2, zpq_1, zpq_2, zpr_o, zpq_o, Nat.reduceAdd, Nat.reduceEqDiff, Nat.reduceMul, reduceIte, ite_true, ite_false, if_true, if_false, reduceCtorEq, eq_self, iff_self, i_T, i_F, implies_true, false_and, and_false, ne_m5_m4, ne_m5_m3, ne_m5_m2, ne_m5_m1, ne_m5_0, ne_m5_1, ne_m5_2, ne_m5_3, ne_m4_m5, ne_m4_m3, ne_m4_m2, ne_m4_m1, ne_m4_0, ne_m4_1, ne_m4_2, ne_m4_3, ne_m3_m5, ne_m3_m4, ne_m3_m2, ne_m3_m1, ne_m3_0, ne_m3_1, ne_m3_2, ne_m3_3, ne_m2_m5, ne_m2_m4, ne_m2_m3, ne_m2_m1, ne_m2_0, ne_m2_1, ne_m2_2, ne_m2_3, ne_m1_m5, ne_m1_m4, ne_m1_m3, ne_m1_m2, ne_m1_0, ne_m1_1, ne_m1_2, ne_m1_3, ne_0_m5, ne_0_m4, ne_0_m3, ne_0_m2, ne_0_m1, ne_0_1, ne_0_2, ne_0_3, ne_1_m5, ne_1_m4, ne_1_m3, ne_1_m2, ne_1_m1, ne_1_0, ne_1_2, ne_1_3, ne_2_m5, ne_2_m4, ne_2_m3, ne_2_m2, ne_2_m1, ne_2_0, ne_2_1, ne_2_3, ne_3_m5, ne_3_m4, ne_3_m3, ne_3_m2, ne_3_m1, ne_3_0, ne_3_1, ne_3_2, le0_m5, lt0_m5, le0_m4, lt0_m4, le0_m3, lt0_m3, le0_m2, lt0_m2, le0_m1, lt0_m1, le0_0, lt0_0, le0_1, lt0_1, le0_2, lt0_2, le0_3, lt0_3, Nat.reduceLT, Nat.reduceLeDiff, ne_eq, not_true_eq_false, not_false_eq_true, true_and, and_true, Nat.succ_ne_self, upd_ap]; rw [if_neg (by omega)], rfl⟩
theorem f9L_k {T T' : zS} (h : f9L T T') : mH T T' ∧ mQ T T' ∧ mP T T' ∧ mA T T' := by
  obtain ⟨h1, h2, h3⟩ := h
  refine ⟨?_, ?_, ?_, ?_⟩
  · unfold mH
    simp only [h2 3 (by omega) (by omega), h2 4 (by omega) (by omega), h2 6 (by omega) (by omega), h2 24 (by omega) (by omega), h1 2 (by omega) (by omega) (by omega) (by omega) (by omega) (by omega), h1 3 (by omega) (by omega) (by omega) (by omega) (by omega) (by omega), h1 4 (by omega) (by omega) (by omega) (by omega) (by omega) (by omega), h1 5 (by omega) (by omega) (by omega) (by omega) (by omega) (by omega), h1 6 (by omega) (by omega) (by omega) (by omega) (by omega) (by omega), h1 7 (by omega) (by omega) (by omega) (by omega) (by omega) (by omega), h1 8 (by omega) (by omega) (by omega) (by omega) (by omega) (by omega), h1 12 (by omega) (by omega) (by omega) (by omega) (by omega) (by omega), and_self]
  · unfold mQ
    simp only [h2 16 (by omega) (by omega), h2 5 (by omega) (by omega), h2 50 (by omega) (by omega), h1 10 (by omega) (by omega) (by omega) (by omega) (by omega) (by omega), h1 33 (by omega) (by omega) (by omega) (by omega) (by omega) (by omega), h1 34 (by omega) (by omega) (by omega) (by omega) (by omega) (by omega), h1 35 (by omega) (by omega) (by omega) (by omega) (by omega) (by omega), h1 28 (by omega) (by omega) (by omega) (by omega) (by omega) (by omega), h1 29 (by omega) (by omega) (by omega) (by omega) (by omega) (by omega), h1 30 (by omega) (by omega) (by omega) (by omega) (by omega) (by omega), h1 8 (by omega) (by omega) (by omega) (by omega) (by omega) (by omega), and_self]
  · unfold mP
    simp only [h2 28 (by omega) (by omega), h1 16 (by omega) (by omega) (by omega) (by omega) (by omega) (by omega), and_self]
  · unfold mA
    simp only [h2 1 (by omega) (by omega), h3, and_self]
theorem L9_c {v : z8} {T T' : zS} {b G l s : Nat} (h : f9L T T') : L9 v T' b G l s = L9 v T b G l s := by
  funext t k
  unfold L9
  rw [h.1 8 (by omega) (by omega) (by omega) (by omega) (by omega) (by omega), h.1 5 (by omega) (by omega) (by omega) (by omega) (by omega) (by omega), h.1 4 (by omega) (by omega) (by omega) (by omega) (by omega) (by omega), h.2.1 6 (by omega) (by omega)]
theorem ex9_c {v : z8} {T T' : zS} {b G l s : Nat} (h : f9L T T') : ex9 v T' b G l s = ex9 v T b G l s := by
  funext t k
  unfold ex9 dxm
  rw [L9_c h, h.1 6 (by omega) (by omega) (by omega) (by omega) (by omega) (by omega), h.1 7 (by omega) (by omega) (by omega) (by omega) (by omega) (by omega)]
theorem sy9_c {v : z8} {T T' : zS} {b G l s : Nat} (h : f9L T T') : sy9 v T' b G l s = sy9 v T b G l s := by
  funext t k
  unfold sy9 dym
  rw [L9_c h, h.1 6 (by omega) (by omega) (by omega) (by omega) (by omega) (by omega), h.1 7 (by omega) (by omega) (by omega) (by omega) (by omega) (by omega)]
theorem m_now {T : zS} {b G l s : Nat} (hb : b < 6) (eG : mf (T.1 8) 0 b = nI G) (es : mf (T.1 8) 1 b = nI s) : zq (p_X12_takesNow (nI b)) T (fun _ T' => f9R T T' ∧ sg9 T T' b G l s 23 0 0 0 (mf (T.1 8) 5 b) (mf (T.1 8) 6 b)) := by
  unfold p_X12_takesNow
  refine q_for (A := Unit) (fun _ i => nI i) 7 (fun _ i T' => (∃ f, T' = zpr T 24 f) ∧ ∀ v, v < i → mf (T'.1 24) v b = mf (T.1 8) v b) (by omega) ?_ ?_ () 0 T (Nat.zero_le _) ⟨⟨T.1 24, (zpr_id).symm⟩, fun v hv => absurd hv (Nat.not_lt_zero v)⟩
  · rintro _ i T' hi ⟨⟨f, rfl⟩, hI⟩ rc next
    have l7 : ((7 : Int32) ≤ nI i) = False := eq_false (by rw [show (7 : Int32) = nI 7 from rfl, nI_leP (by omega) (by omega)]; omega)
    have h43 : 7 * b + i < 43 := by omega
    unfold p_X12_takesNow_b2
    simp (disch := first | assumption | omega | rfl | (simp only [zpi_d, zpl_d, zpr_1, zpr_2, zpq_1, zpq_2, zpr_o, zpq_o, Nat.reduceAdd, Nat.reduceEqDiff, Nat.reduceMul, reduceIte, ite_true, ite_false, if_true, if_false, reduceCtorEq, eq_self, iff_self, i_T, i_F, implies_true, false_and, and_false, ne_m5_m4, ne_m5_m3, ne_m5_m2, ne_m5_m1, ne_m5_0, ne_m5_1, ne_m5_2, ne_m5_3, ne_m4_m5, ne_m4_m3, ne_m4_m2, ne_m4_m1, ne_m4_0, ne_m4_1, ne_m4_2, ne_m4_3, ne_m3_m5, ne_m3_m4, ne_m3_m2, ne_m3_m1, ne_m3_0, ne_m3_1, ne_m3_2, ne_m3_3, ne_m2_m5, ne_m2_m4, ne_m2_m3, ne_m2_m1, ne_m2_0, ne_m2_1, ne_m2_2, ne_m2_3, ne_m1_m5, ne_m1_m4, ne_m1_m3, ne_m1_m2, ne_m1_0, ne_m1_1, ne_m1_2, ne_m1_3, ne_0_m5, ne_0_m4, ne_0_m3, ne_0_m2, ne_0_m1, ne_0_1, ne_0_2, ne_0_3, ne_1_m5, ne_1_m4, ne_1_m3, ne_1_m2, ne_1_m1, ne_1_0, ne_1_2, ne_1_3, ne_2_m5, ne_2_m4, ne_2_m3, ne_2_m2, ne_2_m1, ne_2_0, ne_2_1, ne_2_3, ne_3_m5, ne_3_m4, ne_3_m3, ne_3_m2, ne_3_m1, ne_3_0, ne_3_1, ne_3_2, le0_m5, lt0_m5, le0_m4, lt0_m4, le0_m3, lt0_m3, le0_m2, lt0_m2, le0_m1, lt0_m1, le0_0, lt0_0, le0_1, lt0_1, le0_2, lt0_2, le0_3, lt0_3, Nat.reduceLT, Nat.reduceLeDiff, ne_eq, not_true_eq_false, not_false_eq_true, true_and, and_true, Nat.succ_ne_self, upd_ap] <;> assumption) | fail) only [q_le, l7, i_F, true_and, not_false_eq_true, i_T, i7x, q_alN, q_asN, zpi_d, nI_1]
    refine next () _ ⟨⟨_, zpr_o⟩, fun v hv => ?_⟩
    unfold mf
    simp only [zpi_d, zpl_d, zpr_1, zpr_2, zpq_1, zpq_2, zpr_o, zpq_o, Nat.reduceAdd, Nat.reduceEqDiff, Nat.reduceMul, reduceIte, ite_true, ite_false, if_true, if_false, reduceCtorEq, eq_self, iff_self, i_T, i_F, implies_true, false_and, and_false, ne_m5_m4, ne_m5_m3, ne_m5_m2, ne_m5_m1, ne_m5_0, ne_m5_1, ne_m5_2, ne_m5_3, ne_m4_m5, ne_m4_m3, ne_m4_m2, ne_m4_m1, ne_m4_0, ne_m4_1, ne_m4_2, ne_m4_3, ne_m3_m5, ne_m3_m4, ne_m3_m2, ne_m3_m1, ne_m3_0, ne_m3_1, ne_m3_2, ne_m3_3, ne_m2_m5, ne_m2_m4, ne_m2_m3, ne_m2_m1, ne_m2_0, ne_m2_1, ne_m2_2, ne_m2_3, ne_m1_m5, ne_m1_m4, ne_m1_m3, ne_m1_m2, ne_m1_0, ne_m1_1, ne_m1_2, ne_m1_3, ne_0_m5, ne_0_m4, ne_0_m3, ne_0_m2, ne_0_m1, ne_0_1, ne_0_2, ne_0_3, ne_1_m5, ne_1_m4, ne_1_m3, ne_1_m2, ne_1_m1, ne_1_0, ne_1_2, ne_1_3, ne_2_m5, ne_2_m4, ne_2_m3, ne_2_m2, ne_2_m1, ne_2_0, ne_2_1, ne_2_3, ne_3_m5, ne_3_m4, ne_3_m3, ne_3_m2, ne_3_m1, ne_3_0, ne_3_1, ne_3_2, le0_m5, lt0_m5, le0_m4, lt0_m4, le0_m3, lt0_m3, le0_m2, lt0_m2, le0_m1, lt0_m1, le0_0, lt0_0, le0_1, lt0_1, le0_2, lt0_2, le0_3, lt0_3, Nat.reduceLT, Nat.reduceLeDiff, ne_eq, not_true_eq_false, not_false_eq_true, true_and, and_true, Nat.succ_ne_self, upd_ap]
    by_cases e : v = i
    · rw [e, if_pos rfl]
    · rw [if_neg (by omega)]
      have := hI v (by omega)
      unfold mf at this
      simp only [zpi_d, zpl_d, zpr_1, zpr_2, zpq_1, zpq_2, zpr_o, zpq_o, Nat.reduceAdd, Nat.reduceEqDiff, Nat.reduceMul, reduceIte, ite_true, ite_false, if_true, if_false, reduceCtorEq, eq_self, iff_self, i_T, i_F, implies_true, false_and, and_false, ne_m5_m4, ne_m5_m3, ne_m5_m2, ne_m5_m1, ne_m5_0, ne_m5_1, ne_m5_2, ne_m5_3, ne_m4_m5, ne_m4_m3, ne_m4_m2, ne_m4_m1, ne_m4_0, ne_m4_1, ne_m4_2, ne_m4_3, ne_m3_m5, ne_m3_m4, ne_m3_m2, ne_m3_m1, ne_m3_0, ne_m3_1, ne_m3_2, ne_m3_3, ne_m2_m5, ne_m2_m4, ne_m2_m3, ne_m2_m1, ne_m2_0, ne_m2_1, ne_m2_2, ne_m2_3, ne_m1_m5, ne_m1_m4, ne_m1_m3, ne_m1_m2, ne_m1_0, ne_m1_1, ne_m1_2, ne_m1_3, ne_0_m5, ne_0_m4, ne_0_m3, ne_0_m2, ne_0_m1, ne_0_1, ne_0_2, ne_0_3, ne_1_m5, ne_1_m4, ne_1_m3, ne_1_m2, ne_1_m1, ne_1_0, ne_1_2, ne_1_3, ne_2_m5, ne_2_m4, ne_2_m3, ne_2_m2, ne_2_m1, ne_2_0, ne_2_1, ne_2_3, ne_3_m5, ne_3_m4, ne_3_m3, ne_3_m2, ne_3_m1, ne_3_0, ne_3_1, ne_3_2, le0_m5, lt0_m5, le0_m4, lt0_m4, le0_m3, lt0_m3, le0_m2, lt0_m2, le0_m1, lt0_m1, le0_0, lt0_0, le0_1, lt0_1, le0_2, lt0_2, le0_3, lt0_3, Nat.reduceLT, Nat.reduceLeDiff, ne_eq, not_true_eq_false, not_false_eq_true, true_and, and_true, Nat.succ_ne_self] at this
      exact this
  · rintro _ T' ⟨⟨f, hT'⟩, hI⟩ rc
    have l7 : ((7 : Int32) ≤ nI 7) = True := eq_true (by decide)
    unfold p_X12_takesNow_b2
    simp only [q_le, l7, i_T, not_true_eq_false, i_F, and_true]
    rw [q_b]
    refine q_mono (m_sets (t := 0) hb (by omega)) ?_
    rintro _ T2 ⟨⟨f2, hT2⟩, s1, -⟩
    rw [q_ret]
    refine ⟨?_, (s1 0 (by omega)).trans ((hI 0 (by omega)).trans (by rw [eG, Nat.zero_mul]; rfl)), (s1 1 (by omega)).trans ((hI 1 (by omega)).trans es), (s1 2 (by omega)).trans (hI 2 (by omega)), (s1 5 (by omega)).trans (hI 5 (by omega)), (s1 6 (by omega)).trans (hI 6 (by omega))⟩
    rw [hT2, hT']
    exact f9R_t (f9R_w (by omega)) (f9R_w (by omega))
theorem m_canl {v : z8} {T : zS} {b G l s q R n : Nat} (hM : RLm v T) (hb : b < 6) (hG : G ≤ 99) (eG : mf (T.1 8) 0 b = nI G) (hl : l ≤ 9) (el : T.1 5 b = nI l) (hs9 : s ≤ 9) (es : mf (T.1 8) 1 b = nI s) (hq : q < R) (hR : R ≤ 8) (hn : n ≤ 6) :
    zq (p_X12_canLand (nI b) (nI q) (nI n)) T (fun r T' => f9L T T' ∧ ((r = 0 ∧ ∀ K h, K ≤ s → h ≤ n → ¬ cn9 (L9 v T b G l s) (ex9 v T b G l s) (sy9 v T b G l s) (T.1 4 b) (mf (T.1 8) 5 b) (mf (T.1 8) 6 b) (T.1 2 q) K h) ∨ (r = 1 ∧ ∃ K h, K ≤ s ∧ h ≤ n ∧ T'.1 0 45 = nI K ∧ T'.1 0 46 = nI h ∧ fs9 (cn9 (L9 v T b G l s) (ex9 v T b G l s) (sy9 v T b G l s) (T.1 4 b) (mf (T.1 8) 5 b) (mf (T.1 8) 6 b) (T.1 2 q)) n K h ∧ ∃ g, pf9 (L9 v T b G l s) (ex9 v T b G l s) (sy9 v T b G l s) (T.1 4 b) K h 0 0 (mf (T.1 8) 5 b) (mf (T.1 8) 6 b) = some g ∧ ∀ j, j ≤ h → T'.1 25 j = nI (g j)))) := by
  obtain ⟨C, hC⟩ : ∃ C, C = cn9 (L9 v T b G l s) (ex9 v T b G l s) (sy9 v T b G l s) (T.1 4 b) (mf (T.1 8) 5 b) (mf (T.1 8) 6 b) (T.1 2 q) := ⟨_, rfl⟩
  rw [← hC]
  unfold p_X12_canLand
  refine q_for (A := Unit) (fun _ i => nI i) 43 (fun _ _ T1 => f9R T T1) (by omega) ?_ ?_ () 0 T (Nat.zero_le _) f9R_r
  · rintro _ i T1 hiK hf rc next
    have l43 : ((43 : Int32) ≤ nI i) = False := eq_false (by rw [show (43 : Int32) = nI 43 from rfl, nI_leP (by omega) (by omega)]; omega)
    unfold p_X12_canLand_b3
    simp (disch := first | assumption | omega | rfl | (simp only [zpi_d, zpl_d, zpr_1, zpr_2, zpq_1, zpq_2, zpr_o, zpq_o, Nat.reduceAdd, Nat.reduceEqDiff, Nat.reduceMul, reduceIte, ite_true, ite_false, if_true, if_false, reduceCtorEq, eq_self, iff_self, i_T, i_F, implies_true, false_and, and_false, ne_m5_m4, ne_m5_m3, ne_m5_m2, ne_m5_m1, ne_m5_0, ne_m5_1, ne_m5_2, ne_m5_3, ne_m4_m5, ne_m4_m3, ne_m4_m2, ne_m4_m1, ne_m4_0, ne_m4_1, ne_m4_2, ne_m4_3, ne_m3_m5, ne_m3_m4, ne_m3_m2, ne_m3_m1, ne_m3_0, ne_m3_1, ne_m3_2, ne_m3_3, ne_m2_m5, ne_m2_m4, ne_m2_m3, ne_m2_m1, ne_m2_0, ne_m2_1, ne_m2_2, ne_m2_3, ne_m1_m5, ne_m1_m4, ne_m1_m3, ne_m1_m2, ne_m1_0, ne_m1_1, ne_m1_2, ne_m1_3, ne_0_m5, ne_0_m4, ne_0_m3, ne_0_m2, ne_0_m1, ne_0_1, ne_0_2, ne_0_3, ne_1_m5, ne_1_m4, ne_1_m3, ne_1_m2, ne_1_m1, ne_1_0, ne_1_2, ne_1_3, ne_2_m5, ne_2_m4, ne_2_m3, ne_2_m2, ne_2_m1, ne_2_0, ne_2_1, ne_2_3, ne_3_m5, ne_3_m4, ne_3_m3, ne_3_m2, ne_3_m1, ne_3_0, ne_3_1, ne_3_2, le0_m5, lt0_m5, le0_m4, lt0_m4, le0_m3, lt0_m3, le0_m2, lt0_m2, le0_m1, lt0_m1, le0_0, lt0_0, le0_1, lt0_1, le0_2, lt0_2, le0_3, lt0_3, Nat.reduceLT, Nat.reduceLeDiff, ne_eq, not_true_eq_false, not_false_eq_true, true_and, and_true, Nat.succ_ne_self, upd_ap] <;> assumption) | fail) only [q_le, l43, i_F, true_and, not_false_eq_true, i_T, q_alN, q_asN, zpi_d, nI_1]
    exact next () _ (f9R_t hf (f9R_w (by omega)))
  · rintro _ T1 hf rc
    have l43 : ((43 : Int32) ≤ nI 43) = True := eq_true (by decide)
    unfold p_X12_canLand_b3
    simp only [q_le, l43, i_T, not_true_eq_false, i_F, and_true, q_si, zpi_d]
    refine q_for (A := Unit) (fun _ _ => ()) (s + 1) (fun _ K T2 => f9L T T2 ∧ T2.1 0 45 = nI K ∧ ∀ K' h, K' < K → h ≤ n → ¬ C K' h) (by omega) ?_ ?_ () 0 _ (Nat.zero_le _) ⟨f9L_t (f9L_R hf) (f9L_w (by omega)), by simp only [zpi_d, zpl_d, zpr_1, zpr_2, zpq_1, zpq_2, zpr_o, zpq_o, Nat.reduceAdd, Nat.reduceEqDiff, Nat.reduceMul, reduceIte, ite_true, ite_false, if_true, if_false, reduceCtorEq, eq_self, iff_self, i_T, i_F, implies_true, false_and, and_false, ne_m5_m4, ne_m5_m3, ne_m5_m2, ne_m5_m1, ne_m5_0, ne_m5_1, ne_m5_2, ne_m5_3, ne_m4_m5, ne_m4_m3, ne_m4_m2, ne_m4_m1, ne_m4_0, ne_m4_1, ne_m4_2, ne_m4_3, ne_m3_m5, ne_m3_m4, ne_m3_m2, ne_m3_m1, ne_m3_0, ne_m3_1, ne_m3_2, ne_m3_3, ne_m2_m5, ne_m2_m4, ne_m2_m3, ne_m2_m1, ne_m2_0, ne_m2_1, ne_m2_2, ne_m2_3, ne_m1_m5, ne_m1_m4, ne_m1_m3, ne_m1_m2, ne_m1_0, ne_m1_1, ne_m1_2, ne_m1_3, ne_0_m5, ne_0_m4, ne_0_m3, ne_0_m2, ne_0_m1, ne_0_1, ne_0_2, ne_0_3, ne_1_m5, ne_1_m4, ne_1_m3, ne_1_m2, ne_1_m1, ne_1_0, ne_1_2, ne_1_3, ne_2_m5, ne_2_m4, ne_2_m3, ne_2_m2, ne_2_m1, ne_2_0, ne_2_1, ne_2_3, ne_3_m5, ne_3_m4, ne_3_m3, ne_3_m2, ne_3_m1, ne_3_0, ne_3_1, ne_3_2, le0_m5, lt0_m5, le0_m4, lt0_m4, le0_m3, lt0_m3, le0_m2, lt0_m2, le0_m1, lt0_m1, le0_0, lt0_0, le0_1, lt0_1, le0_2, lt0_2, le0_3, lt0_3, Nat.reduceLT, Nat.reduceLeDiff, ne_eq, not_true_eq_false, not_false_eq_true, true_and, and_true, Nat.succ_ne_self, upd_ap]; rfl, fun K' h hK => absurd hK (Nat.not_lt_zero K')⟩
    · rintro _ K T2 hK ⟨c1, c2, c3⟩ rc next
      have lk : (nI s < nI K) = False := eq_false (by rw [nI_ltP (by omega) (by omega)]; omega)
      have e8 : mf (T2.1 8) 1 b = nI s := by rw [c1.1 8 (by omega) (by omega) (by omega) (by omega) (by omega) (by omega)]; exact es
      rw [p_X12_canLand_b35]
      simp (disch := first | assumption | omega | rfl | (simp only [zpi_d, zpl_d, zpr_1, zpr_2, zpq_1, zpq_2, zpr_o, zpq_o, Nat.reduceAdd, Nat.reduceEqDiff, Nat.reduceMul, reduceIte, ite_true, ite_false, if_true, if_false, reduceCtorEq, eq_self, iff_self, i_T, i_F, implies_true, false_and, and_false, ne_m5_m4, ne_m5_m3, ne_m5_m2, ne_m5_m1, ne_m5_0, ne_m5_1, ne_m5_2, ne_m5_3, ne_m4_m5, ne_m4_m3, ne_m4_m2, ne_m4_m1, ne_m4_0, ne_m4_1, ne_m4_2, ne_m4_3, ne_m3_m5, ne_m3_m4, ne_m3_m2, ne_m3_m1, ne_m3_0, ne_m3_1, ne_m3_2, ne_m3_3, ne_m2_m5, ne_m2_m4, ne_m2_m3, ne_m2_m1, ne_m2_0, ne_m2_1, ne_m2_2, ne_m2_3, ne_m1_m5, ne_m1_m4, ne_m1_m3, ne_m1_m2, ne_m1_0, ne_m1_1, ne_m1_2, ne_m1_3, ne_0_m5, ne_0_m4, ne_0_m3, ne_0_m2, ne_0_m1, ne_0_1, ne_0_2, ne_0_3, ne_1_m5, ne_1_m4, ne_1_m3, ne_1_m2, ne_1_m1, ne_1_0, ne_1_2, ne_1_3, ne_2_m5, ne_2_m4, ne_2_m3, ne_2_m2, ne_2_m1, ne_2_0, ne_2_1, ne_2_3, ne_3_m5, ne_3_m4, ne_3_m3, ne_3_m2, ne_3_m1, ne_3_0, ne_3_1, ne_3_2, le0_m5, lt0_m5, le0_m4, lt0_m4, le0_m3, lt0_m3, le0_m2, lt0_m2, le0_m1, lt0_m1, le0_0, lt0_0, le0_1, lt0_1, le0_2, lt0_2, le0_3, lt0_3, Nat.reduceLT, Nat.reduceLeDiff, ne_eq, not_true_eq_false, not_false_eq_true, true_and, and_true, Nat.succ_ne_self, upd_ap] <;> assumption) | fail) only [q_gi, c2, q_am_0, q_am_1, q_am_2, q_am_3, q_am_4, q_am_5, q_am_6, q_ms_0, q_ms_1, q_ms_2, q_ms_3, q_ms_4, q_ms_5, q_ms_6, e8, q_lt, lk, i_F, true_and, not_false_eq_true, i_T, q_si, zpi_d]
      refine q_for (A := Unit) (fun _ _ => ()) (n + 1) (fun _ h T3 => f9L T T3 ∧ T3.1 0 45 = nI K ∧ T3.1 0 46 = nI h ∧ ∀ h', h' < h → ¬ C K h') (by omega) ?_ ?_ () 0 _ (Nat.zero_le _) ⟨f9L_t c1 (f9L_w (by omega)), by simp only [zpi_d, zpl_d, zpr_1, zpr_2, zpq_1, zpq_2, zpr_o, zpq_o, Nat.reduceAdd, Nat.reduceEqDiff, Nat.reduceMul, reduceIte, ite_true, ite_false, if_true, if_false, reduceCtorEq, eq_self, iff_self, i_T, i_F, implies_true, false_and, and_false, ne_m5_m4, ne_m5_m3, ne_m5_m2, ne_m5_m1, ne_m5_0, ne_m5_1, ne_m5_2, ne_m5_3, ne_m4_m5, ne_m4_m3, ne_m4_m2, ne_m4_m1, ne_m4_0, ne_m4_1, ne_m4_2, ne_m4_3, ne_m3_m5, ne_m3_m4, ne_m3_m2, ne_m3_m1, ne_m3_0, ne_m3_1, ne_m3_2, ne_m3_3, ne_m2_m5, ne_m2_m4, ne_m2_m3, ne_m2_m1, ne_m2_0, ne_m2_1, ne_m2_2, ne_m2_3, ne_m1_m5, ne_m1_m4, ne_m1_m3, ne_m1_m2, ne_m1_0, ne_m1_1, ne_m1_2, ne_m1_3, ne_0_m5, ne_0_m4, ne_0_m3, ne_0_m2, ne_0_m1, ne_0_1, ne_0_2, ne_0_3, ne_1_m5, ne_1_m4, ne_1_m3, ne_1_m2, ne_1_m1, ne_1_0, ne_1_2, ne_1_3, ne_2_m5, ne_2_m4, ne_2_m3, ne_2_m2, ne_2_m1, ne_2_0, ne_2_1, ne_2_3, ne_3_m5, ne_3_m4, ne_3_m3, ne_3_m2, ne_3_m1, ne_3_0, ne_3_1, ne_3_2, le0_m5, lt0_m5, le0_m4, lt0_m4, le0_m3, lt0_m3, le0_m2, lt0_m2, le0_m1, lt0_m1, le0_0, lt0_0, le0_1, lt0_1, le0_2, lt0_2, le0_3, lt0_3, Nat.reduceLT, Nat.reduceLeDiff, ne_eq, not_true_eq_false, not_false_eq_true, true_and, and_true, Nat.succ_ne_self, upd_ap]; exact c2, by simp only [zpi_d, zpl_d, zpr_1, zpr_2, zpq_1, zpq_2, zpr_o, zpq_o, Nat.reduceAdd, Nat.reduceEqDiff, Nat.reduceMul, reduceIte, ite_true, ite_false, if_true, if_false, reduceCtorEq, eq_self, iff_self, i_T, i_F, implies_true, false_and, and_false, ne_m5_m4, ne_m5_m3, ne_m5_m2, ne_m5_m1, ne_m5_0, ne_m5_1, ne_m5_2, ne_m5_3, ne_m4_m5, ne_m4_m3, ne_m4_m2, ne_m4_m1, ne_m4_0, ne_m4_1, ne_m4_2, ne_m4_3, ne_m3_m5, ne_m3_m4, ne_m3_m2, ne_m3_m1, ne_m3_0, ne_m3_1, ne_m3_2, ne_m3_3, ne_m2_m5, ne_m2_m4, ne_m2_m3, ne_m2_m1, ne_m2_0, ne_m2_1, ne_m2_2, ne_m2_3, ne_m1_m5, ne_m1_m4, ne_m1_m3, ne_m1_m2, ne_m1_0, ne_m1_1, ne_m1_2, ne_m1_3, ne_0_m5, ne_0_m4, ne_0_m3, ne_0_m2, ne_0_m1, ne_0_1, ne_0_2, ne_0_3, ne_1_m5, ne_1_m4, ne_1_m3, ne_1_m2, ne_1_m1, ne_1_0, ne_1_2, ne_1_3, ne_2_m5, ne_2_m4, ne_2_m3, ne_2_m2, ne_2_m1, ne_2_0, ne_2_1, ne_2_3, ne_3_m5, ne_3_m4, ne_3_m3, ne_3_m2, ne_3_m1, ne_3_0, ne_3_1, ne_3_2, le0_m5, lt0_m5, le0_m4, lt0_m4, le0_m3, lt0_m3, le0_m2, lt0_m2, le0_m1, lt0_m1, le0_0, lt0_0, le0_1, lt0_1, le0_2, lt0_2, le0_3, lt0_3, Nat.reduceLT, Nat.reduceLeDiff, ne_eq, not_true_eq_false, not_false_eq_true, true_and, and_true, Nat.succ_ne_self, upd_ap]; rfl, fun h' hh => absurd hh (Nat.not_lt_zero h')⟩
      · rintro _ h T3 hh ⟨d1, d2, d3, d4⟩ rc2 next2
        have lh : (nI n < nI h) = False := eq_false (by rw [nI_ltP (by omega) (by omega)]; omega)
        have w8 : T3.1 8 = T.1 8 := d1.1 8 (by omega) (by omega) (by omega) (by omega) (by omega) (by omega)
        rw [p_X12_canLand_b58]
        simp only [q_gi, d3, q_lt (x := nI n), lh, i_F, true_and, not_false_eq_true, i_T]
        rw [q_b]
        refine q_mono (m_now (T := T3) (G := G) (l := l) (s := s) hb (by rw [w8]; exact eG) (by rw [w8]; exact es)) ?_
        rintro _ T4 ⟨g1, g2⟩
        have e0 : T4.1 0 = T3.1 0 := g1.1 0 (by omega) (by omega) (by omega) (by omega) (by omega)
        simp only [q_gi, e0, d2, d3]
        have hM3 : RLm v T3 := by
          unfold RLm
          rw [d1.2.1 24 (by omega) (by omega), d1.1 12 (by omega) (by omega) (by omega) (by omega) (by omega) (by omega)]
          exact hM
        have hz := zDP_eq
        have key := m_lands (v := v) (T0 := T3) (K := K) (h := h) (n := n) hM3 hb hG hl (by rw [d1.1 5 (by omega) (by omega) (by omega) (by omega) (by omega) (by omega)]; exact el) hq hR hs9 (by omega) (by omega) h 0 zDP (by omega) (by omega) 0 _ _ T4 (Nat.zero_le _) g1 g2
        rw [L9_c d1, ex9_c d1, sy9_c d1, w8, d1.1 2 (by omega) (by omega) (by omega) (by omega) (by omega) (by omega), d1.1 4 (by omega) (by omega) (by omega) (by omega) (by omega) (by omega), Nat.sub_zero] at key
        rw [q_b]
        unfold p_X12_landsBy
        refine q_mono key ?_
        rintro r T5 ⟨n1, -, -, hor⟩
        have f5 : f9L T T5 := f9L_t d1 (f9L_R n1)
        have e05 : T5.1 0 = T3.1 0 := n1.1 0 (by omega) (by omega) (by omega) (by omega) (by omega)
        rcases hor with ⟨rfl, hno⟩ | ⟨rfl, h1, g, h2, h3⟩
        · simp only [q_eq, i_T, not_true_eq_false, i_F, and_true, q_gi, e05, d3, q_si, zpi_d, nI_1]
          refine next2 () _ ⟨f9L_t f5 (by rw [← e05]; exact f9L_w (by omega)), by simp only [zpi_d, zpl_d, zpr_1, zpr_2, zpq_1, zpq_2, zpr_o, zpq_o, Nat.reduceAdd, Nat.reduceEqDiff, Nat.reduceMul, reduceIte, ite_true, ite_false, if_true, if_false, reduceCtorEq, eq_self, iff_self, i_T, i_F, implies_true, false_and, and_false, ne_m5_m4, ne_m5_m3, ne_m5_m2, ne_m5_m1, ne_m5_0, ne_m5_1, ne_m5_2, ne_m5_3, ne_m4_m5, ne_m4_m3, ne_m4_m2, ne_m4_m1, ne_m4_0, ne_m4_1, ne_m4_2, ne_m4_3, ne_m3_m5, ne_m3_m4, ne_m3_m2, ne_m3_m1, ne_m3_0, ne_m3_1, ne_m3_2, ne_m3_3, ne_m2_m5, ne_m2_m4, ne_m2_m3, ne_m2_m1, ne_m2_0, ne_m2_1, ne_m2_2, ne_m2_3, ne_m1_m5, ne_m1_m4, ne_m1_m3, ne_m1_m2, ne_m1_0, ne_m1_1, ne_m1_2, ne_m1_3, ne_0_m5, ne_0_m4, ne_0_m3, ne_0_m2, ne_0_m1, ne_0_1, ne_0_2, ne_0_3, ne_1_m5, ne_1_m4, ne_1_m3, ne_1_m2, ne_1_m1, ne_1_0, ne_1_2, ne_1_3, ne_2_m5, ne_2_m4, ne_2_m3, ne_2_m2, ne_2_m1, ne_2_0, ne_2_1, ne_2_3, ne_3_m5, ne_3_m4, ne_3_m3, ne_3_m2, ne_3_m1, ne_3_0, ne_3_1, ne_3_2, le0_m5, lt0_m5, le0_m4, lt0_m4, le0_m3, lt0_m3, le0_m2, lt0_m2, le0_m1, lt0_m1, le0_0, lt0_0, le0_1, lt0_1, le0_2, lt0_2, le0_3, lt0_3, Nat.reduceLT, Nat.reduceLeDiff, ne_eq, not_true_eq_false, not_false_eq_true, true_and, and_true, Nat.succ_ne_self, upd_ap]; exact d2, by simp only [zpi_d, zpl_d, zpr_1, zpr_2, zpq_1, zpq_2, zpr_o, zpq_o, Nat.reduceAdd, Nat.reduceEqDiff, Nat.reduceMul, reduceIte, ite_true, ite_false, if_true, if_false, reduceCtorEq, eq_self, iff_self, i_T, i_F, implies_true, false_and, and_false, ne_m5_m4, ne_m5_m3, ne_m5_m2, ne_m5_m1, ne_m5_0, ne_m5_1, ne_m5_2, ne_m5_3, ne_m4_m5, ne_m4_m3, ne_m4_m2, ne_m4_m1, ne_m4_0, ne_m4_1, ne_m4_2, ne_m4_3, ne_m3_m5, ne_m3_m4, ne_m3_m2, ne_m3_m1, ne_m3_0, ne_m3_1, ne_m3_2, ne_m3_3, ne_m2_m5, ne_m2_m4, ne_m2_m3, ne_m2_m1, ne_m2_0, ne_m2_1, ne_m2_2, ne_m2_3, ne_m1_m5, ne_m1_m4, ne_m1_m3, ne_m1_m2, ne_m1_0, ne_m1_1, ne_m1_2, ne_m1_3, ne_0_m5, ne_0_m4, ne_0_m3, ne_0_m2, ne_0_m1, ne_0_1, ne_0_2, ne_0_3, ne_1_m5, ne_1_m4, ne_1_m3, ne_1_m2, ne_1_m1, ne_1_0, ne_1_2, ne_1_3, ne_2_m5, ne_2_m4, ne_2_m3, ne_2_m2, ne_2_m1, ne_2_0, ne_2_1, ne_2_3, ne_3_m5, ne_3_m4, ne_3_m3, ne_3_m2, ne_3_m1, ne_3_0, ne_3_1, ne_3_2, le0_m5, lt0_m5, le0_m4, lt0_m4, le0_m3, lt0_m3, le0_m2, lt0_m2, le0_m1, lt0_m1, le0_0, lt0_0, le0_1, lt0_1, le0_2, lt0_2, le0_3, lt0_3, Nat.reduceLT, Nat.reduceLeDiff, ne_eq, not_true_eq_false, not_false_eq_true, true_and, and_true, Nat.succ_ne_self, upd_ap], fun h' hlt => ?_⟩
          by_cases e : h' = h
          · rw [e, hC]
            rintro ⟨z1, z2⟩
            rcases hno with w | w
            · exact z2 w
            · have := (pf9_ex (Nat.zero_le K)).mpr z1
              rw [w] at this
              cases this
          · exact d4 h' (by omega)
        · simp only [q_eq, ne_1_0, i_F, true_and, not_false_eq_true, i_T, q_rz1]
          refine ⟨f5, Or.inr ⟨K, h, by omega, by omega, by rw [e05]; exact d2, by rw [e05]; exact d3, ⟨?_, fun K' h' p1 p2 => ?_⟩, g, h2, fun j hj => h3 j (Nat.zero_le _) hj⟩⟩
          · rw [hC]
            exact ⟨(pf9_ex (Nat.zero_le K)).mp (by rw [h2]; rfl), h1⟩
          · rcases p2 with z | ⟨rfl, z⟩
            · exact c3 K' h' z p1
            · exact d4 h' z
      · rintro _ T3 ⟨d1, d2, d3, d4⟩ rc2
        have lh : (nI n < nI (n + 1)) = True := eq_true (by rw [nI_ltP (by omega) (by omega)]; omega)
        rw [p_X12_canLand_b58]
        simp only [q_gi, d3, q_lt (x := nI n), lh, i_T, not_true_eq_false, i_F, and_true, d2, q_si, zpi_d, nI_1]
        refine next () _ ⟨f9L_t d1 (f9L_w (by omega)), by simp only [zpi_d, zpl_d, zpr_1, zpr_2, zpq_1, zpq_2, zpr_o, zpq_o, Nat.reduceAdd, Nat.reduceEqDiff, Nat.reduceMul, reduceIte, ite_true, ite_false, if_true, if_false, reduceCtorEq, eq_self, iff_self, i_T, i_F, implies_true, false_and, and_false, ne_m5_m4, ne_m5_m3, ne_m5_m2, ne_m5_m1, ne_m5_0, ne_m5_1, ne_m5_2, ne_m5_3, ne_m4_m5, ne_m4_m3, ne_m4_m2, ne_m4_m1, ne_m4_0, ne_m4_1, ne_m4_2, ne_m4_3, ne_m3_m5, ne_m3_m4, ne_m3_m2, ne_m3_m1, ne_m3_0, ne_m3_1, ne_m3_2, ne_m3_3, ne_m2_m5, ne_m2_m4, ne_m2_m3, ne_m2_m1, ne_m2_0, ne_m2_1, ne_m2_2, ne_m2_3, ne_m1_m5, ne_m1_m4, ne_m1_m3, ne_m1_m2, ne_m1_0, ne_m1_1, ne_m1_2, ne_m1_3, ne_0_m5, ne_0_m4, ne_0_m3, ne_0_m2, ne_0_m1, ne_0_1, ne_0_2, ne_0_3, ne_1_m5, ne_1_m4, ne_1_m3, ne_1_m2, ne_1_m1, ne_1_0, ne_1_2, ne_1_3, ne_2_m5, ne_2_m4, ne_2_m3, ne_2_m2, ne_2_m1, ne_2_0, ne_2_1, ne_2_3, ne_3_m5, ne_3_m4, ne_3_m3, ne_3_m2, ne_3_m1, ne_3_0, ne_3_1, ne_3_2, le0_m5, lt0_m5, le0_m4, lt0_m4, le0_m3, lt0_m3, le0_m2, lt0_m2, le0_m1, lt0_m1, le0_0, lt0_0, le0_1, lt0_1, le0_2, lt0_2, le0_3, lt0_3, Nat.reduceLT, Nat.reduceLeDiff, ne_eq, not_true_eq_false, not_false_eq_true, true_and, and_true, Nat.succ_ne_self, upd_ap], fun K' h hlt hh => ?_⟩
        by_cases e : K' = K
        · rw [e]; exact d4 h (by omega)
        · exact c3 K' h (by omega) hh
    · rintro _ T2 ⟨c1, c2, c3⟩ rc
      have lk : (nI s < nI (s + 1)) = True := eq_true (by rw [nI_ltP (by omega) (by omega)]; omega)
      have e8 : mf (T2.1 8) 1 b = nI s := by rw [c1.1 8 (by omega) (by omega) (by omega) (by omega) (by omega) (by omega)]; exact es
      rw [p_X12_canLand_b35]
      simp (disch := first | assumption | omega | rfl | (simp only [zpi_d, zpl_d, zpr_1, zpr_2, zpq_1, zpq_2, zpr_o, zpq_o, Nat.reduceAdd, Nat.reduceEqDiff, Nat.reduceMul, reduceIte, ite_true, ite_false, if_true, if_false, reduceCtorEq, eq_self, iff_self, i_T, i_F, implies_true, false_and, and_false, ne_m5_m4, ne_m5_m3, ne_m5_m2, ne_m5_m1, ne_m5_0, ne_m5_1, ne_m5_2, ne_m5_3, ne_m4_m5, ne_m4_m3, ne_m4_m2, ne_m4_m1, ne_m4_0, ne_m4_1, ne_m4_2, ne_m4_3, ne_m3_m5, ne_m3_m4, ne_m3_m2, ne_m3_m1, ne_m3_0, ne_m3_1, ne_m3_2, ne_m3_3, ne_m2_m5, ne_m2_m4, ne_m2_m3, ne_m2_m1, ne_m2_0, ne_m2_1, ne_m2_2, ne_m2_3, ne_m1_m5, ne_m1_m4, ne_m1_m3, ne_m1_m2, ne_m1_0, ne_m1_1, ne_m1_2, ne_m1_3, ne_0_m5, ne_0_m4, ne_0_m3, ne_0_m2, ne_0_m1, ne_0_1, ne_0_2, ne_0_3, ne_1_m5, ne_1_m4, ne_1_m3, ne_1_m2, ne_1_m1, ne_1_0, ne_1_2, ne_1_3, ne_2_m5, ne_2_m4, ne_2_m3, ne_2_m2, ne_2_m1, ne_2_0, ne_2_1, ne_2_3, ne_3_m5, ne_3_m4, ne_3_m3, ne_3_m2, ne_3_m1, ne_3_0, ne_3_1, ne_3_2, le0_m5, lt0_m5, le0_m4, lt0_m4, le0_m3, lt0_m3, le0_m2, lt0_m2, le0_m1, lt0_m1, le0_0, lt0_0, le0_1, lt0_1, le0_2, lt0_2, le0_3, lt0_3, Nat.reduceLT, Nat.reduceLeDiff, ne_eq, not_true_eq_false, not_false_eq_true, true_and, and_true, Nat.succ_ne_self, upd_ap] <;> assumption) | fail) only [q_gi, c2, q_am_0, q_am_1, q_am_2, q_am_3, q_am_4, q_am_5, q_am_6, q_ms_0, q_ms_1, q_ms_2, q_ms_3, q_ms_4, q_ms_5, q_ms_6, e8, q_lt, lk, i_T, not_true_eq_false, i_F, and_true, q_rz0]
      exact ⟨c1, Or.inl ⟨trivial, fun K h h1 h2 => c3 K h (by omega) h2⟩⟩
