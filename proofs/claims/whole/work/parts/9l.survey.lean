/-! ===== the class: survey ===== -/
noncomputable def hN (x : Int32) : Nat := Classical.choose (hi_nI x)
theorem hN_s (x : Int32) : hN x < 10 ∧ hi x = nI (hN x) := Classical.choose_spec (hi_nI x)
def L9 (v : z8) (T : zS) (b G l mo : Nat) (t k : Nat) : Int32 := v (nI (G - t * l)) (nI (mo - k)) (mf (T.1 8) 2 b) (T.1 5 b) (T.1 4 b) (T.1 0 6) (rm24 (T.1 8 42 + nI t)) (nI b)
noncomputable def ex9 (v : z8) (T : zS) (b G l mo : Nat) (t k : Nat) : Int32 := dxm T (hN (L9 v T b G l mo t k))
noncomputable def sy9 (v : z8) (T : zS) (b G l mo : Nat) (t k : Nat) : Int32 := dym T (hN (L9 v T b G l mo t k))
def f9S (S S' : zS) : Prop := (∀ c, c ≠ 19 → c ≠ 21 → c ≠ 66 → c ≠ 67 → c ≠ 68 → c ≠ 70 → S'.1 c = S.1 c) ∧ ∀ c, c ≠ 69 → S'.2 c = S.2 c
theorem f9S_t {S S1 S2 : zS} (h : f9S S S1) (g : f9S S1 S2) : f9S S S2 := ⟨fun c a1 a2 a3 a4 a5 a6 => (g.1 c a1 a2 a3 a4 a5 a6).trans (h.1 c a1 a2 a3 a4 a5 a6), fun c a => (g.2 c a).trans (h.2 c a)⟩
theorem f9S_r {S : zS} : f9S S S := ⟨fun _ _ _ _ _ _ _ => rfl, fun _ _ => rfl⟩
theorem f9S_w {S : zS} {c : Nat} {f : Nat → Int32} (h : c = 19 ∨ c = 21 ∨ c = 66 ∨ c = 67 ∨ c = 68 ∨ c = 70) : f9S S (zpr S c f) := ⟨fun c' a1 a2 a3 a4 a5 a6 => zpr_n (by omega), fun _ _ => rfl⟩
theorem f9S_D {S S' : zS} (h : f9D S S') : f9S S S' := ⟨fun c _ _ _ _ a _ => h.1 c a, h.2⟩
theorem f9S_k {S S' : zS} (h : f9S S S') : kH S S' ∧ kQ S S' ∧ kP S S' ∧ kA S S' := by
  obtain ⟨h1, h2⟩ := h
  refine ⟨?_, ?_, ?_, ?_⟩
  · unfold kH
    simp only [h1 3 (by omega) (by omega) (by omega) (by omega) (by omega) (by omega), h1 4 (by omega) (by omega) (by omega) (by omega) (by omega) (by omega), h1 5 (by omega) (by omega) (by omega) (by omega) (by omega) (by omega), h1 7 (by omega) (by omega) (by omega) (by omega) (by omega) (by omega), h1 8 (by omega) (by omega) (by omega) (by omega) (by omega) (by omega), h1 9 (by omega) (by omega) (by omega) (by omega) (by omega) (by omega), h1 11 (by omega) (by omega) (by omega) (by omega) (by omega) (by omega), h1 12 (by omega) (by omega) (by omega) (by omega) (by omega) (by omega), h1 13 (by omega) (by omega) (by omega) (by omega) (by omega) (by omega), h1 14 (by omega) (by omega) (by omega) (by omega) (by omega) (by omega), h1 16 (by omega) (by omega) (by omega) (by omega) (by omega) (by omega), h1 17 (by omega) (by omega) (by omega) (by omega) (by omega) (by omega), h1 20 (by omega) (by omega) (by omega) (by omega) (by omega) (by omega), h1 23 (by omega) (by omega) (by omega) (by omega) (by omega) (by omega), h1 24 (by omega) (by omega) (by omega) (by omega) (by omega) (by omega), h1 25 (by omega) (by omega) (by omega) (by omega) (by omega) (by omega), h1 26 (by omega) (by omega) (by omega) (by omega) (by omega) (by omega), h1 27 (by omega) (by omega) (by omega) (by omega) (by omega) (by omega), h1 28 (by omega) (by omega) (by omega) (by omega) (by omega) (by omega), h1 29 (by omega) (by omega) (by omega) (by omega) (by omega) (by omega), h1 30 (by omega) (by omega) (by omega) (by omega) (by omega) (by omega), h1 31 (by omega) (by omega) (by omega) (by omega) (by omega) (by omega), and_self]
  · unfold kQ
    simp only [h1 1 (by omega) (by omega) (by omega) (by omega) (by omega) (by omega), h1 2 (by omega) (by omega) (by omega) (by omega) (by omega) (by omega), h1 46 (by omega) (by omega) (by omega) (by omega) (by omega) (by omega), h1 47 (by omega) (by omega) (by omega) (by omega) (by omega) (by omega), h1 50 (by omega) (by omega) (by omega) (by omega) (by omega) (by omega), h1 51 (by omega) (by omega) (by omega) (by omega) (by omega) (by omega), h1 52 (by omega) (by omega) (by omega) (by omega) (by omega) (by omega), h1 53 (by omega) (by omega) (by omega) (by omega) (by omega) (by omega), and_self]
  · unfold kP
    simp only [h1 44 (by omega) (by omega) (by omega) (by omega) (by omega) (by omega), h1 45 (by omega) (by omega) (by omega) (by omega) (by omega) (by omega), and_self]
  · unfold kA
    simp only [h1 48 (by omega) (by omega) (by omega) (by omega) (by omega) (by omega), h2 49 (by omega), and_self]
theorem x_fill0 {S : zS} {Q : Unit → zS → Prop} (h : ∀ S', S'.1 = S.1 → (∀ c, c ≠ 69 → S'.2 c = S.2 c) → (∀ i, i < 420 → S'.2 69 i = 0) → Q () S') : zq (p_J7_fill_d0a16 69 420 (0 : Int64)) S Q := by
  unfold p_J7_fill_d0a16
  refine q_for (A := Unit) (fun _ i => nI i) 420 (fun _ i S' => S'.1 = S.1 ∧ (∀ c, c ≠ 69 → S'.2 c = S.2 c) ∧ ∀ j, j < i → S'.2 69 j = 0) (by omega) ?_ ?_ () 0 S (Nat.zero_le _) ⟨rfl, fun _ _ => rfl, fun j hj => absurd hj (Nat.not_lt_zero j)⟩
  · rintro _ i S' hi ⟨a, b, c⟩ rc next
    have l : (Int32.ofNat 420 ≤ nI i) = False := eq_false (by rw [show Int32.ofNat 420 = nI 420 from rfl, nI_leP (by omega) (by omega)]; omega)
    unfold p_J7_fill_d0a16_b6
    simp (disch := first | assumption | omega | rfl | (simp only [zpi_d, zpl_d, zpr_1, zpr_2, zpq_1, zpq_2, zpr_o, zpq_o, Nat.reduceAdd, Nat.reduceEqDiff, Nat.reduceMul, reduceIte, ite_true, ite_false, if_true, if_false, reduceCtorEq, eq_self, iff_self, i_T, i_F, implies_true, false_and, and_false, ne_m5_m4, ne_m5_m3, ne_m5_m2, ne_m5_m1, ne_m5_0, ne_m5_1, ne_m5_2, ne_m5_3, ne_m4_m5, ne_m4_m3, ne_m4_m2, ne_m4_m1, ne_m4_0, ne_m4_1, ne_m4_2, ne_m4_3, ne_m3_m5, ne_m3_m4, ne_m3_m2, ne_m3_m1, ne_m3_0, ne_m3_1, ne_m3_2, ne_m3_3, ne_m2_m5, ne_m2_m4, ne_m2_m3, ne_m2_m1, ne_m2_0, ne_m2_1, ne_m2_2, ne_m2_3, ne_m1_m5, ne_m1_m4, ne_m1_m3, ne_m1_m2, ne_m1_0, ne_m1_1, ne_m1_2, ne_m1_3, ne_0_m5, ne_0_m4, ne_0_m3, ne_0_m2, ne_0_m1, ne_0_1, ne_0_2, ne_0_3, ne_1_m5, ne_1_m4, ne_1_m3, ne_1_m2, ne_1_m1, ne_1_0, ne_1_2, ne_1_3, ne_2_m5, ne_2_m4, ne_2_m3, ne_2_m2, ne_2_m1, ne_2_0, ne_2_1, ne_2_3, ne_3_m5, ne_3_m4, ne_3_m3, ne_3_m2, ne_3_m1, ne_3_0, ne_3_1, ne_3_2, le0_m5, lt0_m5, le0_m4, lt0_m4, le0_m3, lt0_m3, le0_m2, lt0_m2, le0_m1, lt0_m1, le0_0, lt0_0, le0_1, lt0_1, le0_2, lt0_2, le0_3, lt0_3, Nat.reduceLT, Nat.reduceLeDiff, ne_eq, not_true_eq_false, not_false_eq_true, true_and, and_true, Nat.succ_ne_self, upd_ap] <;> assumption) | fail) only [q_le, l, i_F, true_and, not_false_eq_true, i_T, q_aslN, zpl_d, nI_1]
    refine next () _ ⟨by simp only [zpi_d, zpl_d, zpr_1, zpr_2, zpq_1, zpq_2, zpr_o, zpq_o, Nat.reduceAdd, Nat.reduceEqDiff, Nat.reduceMul, reduceIte, ite_true, ite_false, if_true, if_false, reduceCtorEq, eq_self, iff_self, i_T, i_F, implies_true, false_and, and_false, ne_m5_m4, ne_m5_m3, ne_m5_m2, ne_m5_m1, ne_m5_0, ne_m5_1, ne_m5_2, ne_m5_3, ne_m4_m5, ne_m4_m3, ne_m4_m2, ne_m4_m1, ne_m4_0, ne_m4_1, ne_m4_2, ne_m4_3, ne_m3_m5, ne_m3_m4, ne_m3_m2, ne_m3_m1, ne_m3_0, ne_m3_1, ne_m3_2, ne_m3_3, ne_m2_m5, ne_m2_m4, ne_m2_m3, ne_m2_m1, ne_m2_0, ne_m2_1, ne_m2_2, ne_m2_3, ne_m1_m5, ne_m1_m4, ne_m1_m3, ne_m1_m2, ne_m1_0, ne_m1_1, ne_m1_2, ne_m1_3, ne_0_m5, ne_0_m4, ne_0_m3, ne_0_m2, ne_0_m1, ne_0_1, ne_0_2, ne_0_3, ne_1_m5, ne_1_m4, ne_1_m3, ne_1_m2, ne_1_m1, ne_1_0, ne_1_2, ne_1_3, ne_2_m5, ne_2_m4, ne_2_m3, ne_2_m2, ne_2_m1, ne_2_0, ne_2_1, ne_2_3, ne_3_m5, ne_3_m4, ne_3_m3, ne_3_m2, ne_3_m1, ne_3_0, ne_3_1, ne_3_2, le0_m5, lt0_m5, le0_m4, lt0_m4, le0_m3, lt0_m3, le0_m2, lt0_m2, le0_m1, lt0_m1, le0_0, lt0_0, le0_1, lt0_1, le0_2, lt0_2, le0_3, lt0_3, Nat.reduceLT, Nat.reduceLeDiff, ne_eq, not_true_eq_false, not_false_eq_true, true_and, and_true, Nat.succ_ne_self]; exact a, fun c' hc => by simp only [zpq_2, if_neg hc]; exact b c' hc, fun j hj => ?_⟩
    simp only [zpi_d, zpl_d, zpr_1, zpr_2, zpq_1, zpq_2, zpr_o, zpq_o, Nat.reduceAdd, Nat.reduceEqDiff, Nat.reduceMul, reduceIte, ite_true, ite_false, if_true, if_false, reduceCtorEq, eq_self, iff_self, i_T, i_F, implies_true, false_and, and_false, ne_m5_m4, ne_m5_m3, ne_m5_m2, ne_m5_m1, ne_m5_0, ne_m5_1, ne_m5_2, ne_m5_3, ne_m4_m5, ne_m4_m3, ne_m4_m2, ne_m4_m1, ne_m4_0, ne_m4_1, ne_m4_2, ne_m4_3, ne_m3_m5, ne_m3_m4, ne_m3_m2, ne_m3_m1, ne_m3_0, ne_m3_1, ne_m3_2, ne_m3_3, ne_m2_m5, ne_m2_m4, ne_m2_m3, ne_m2_m1, ne_m2_0, ne_m2_1, ne_m2_2, ne_m2_3, ne_m1_m5, ne_m1_m4, ne_m1_m3, ne_m1_m2, ne_m1_0, ne_m1_1, ne_m1_2, ne_m1_3, ne_0_m5, ne_0_m4, ne_0_m3, ne_0_m2, ne_0_m1, ne_0_1, ne_0_2, ne_0_3, ne_1_m5, ne_1_m4, ne_1_m3, ne_1_m2, ne_1_m1, ne_1_0, ne_1_2, ne_1_3, ne_2_m5, ne_2_m4, ne_2_m3, ne_2_m2, ne_2_m1, ne_2_0, ne_2_1, ne_2_3, ne_3_m5, ne_3_m4, ne_3_m3, ne_3_m2, ne_3_m1, ne_3_0, ne_3_1, ne_3_2, le0_m5, lt0_m5, le0_m4, lt0_m4, le0_m3, lt0_m3, le0_m2, lt0_m2, le0_m1, lt0_m1, le0_0, lt0_0, le0_1, lt0_1, le0_2, lt0_2, le0_3, lt0_3, Nat.reduceLT, Nat.reduceLeDiff, ne_eq, not_true_eq_false, not_false_eq_true, true_and, and_true, Nat.succ_ne_self, updL_ap]
    by_cases e : j = i
    · rw [if_pos e]
    · rw [if_neg e]; exact c j (by omega)
  · rintro _ S' ⟨a, b, c⟩ rc
    have l : (Int32.ofNat 420 ≤ nI 420) = True := eq_true (by decide)
    unfold p_J7_fill_d0a16_b6
    simp only [q_le, l, i_T, not_true_eq_false, i_F, and_true, q_ret]
    exact h S' a b c
/-- where it is, of the class's lists -/
theorem x_survey {m R n b G l mo : Nat} {v : z8} {S T : zS} (h : RH m R v 20 8 S T) (hb : b < m) (hn : n ≤ 6) (r3 : mf (T.1 8) 3 b = 1) (hG : G ≤ 99) (eG : mf (T.1 8) 0 b = nI G) (hmo : mo ≤ 9) (emo : mf (T.1 8) 1 b = nI mo) (hl : l ≤ 9) (el : T.1 5 b = nI l) : zq (p_X4_survey (nI b) (nI n)) S (fun _ S' => f9S S S' ∧ LX n mo (T.1 4 b) (L9 v T b G l mo) (ex9 v T b G l mo) (sy9 v T b G l mo) S' ∧ S'.1 66 6 = nI b ∧ ∀ t g, t ≤ n → g ≤ mo → (S'.1 68 (t * 10 + g) = 0 ∨ S'.1 68 (t * 10 + g) = 1) ∧ (S'.1 68 (t * 10 + g) = 1 ↔ ∃ x y, wy9 (L9 v T b G l mo) (ex9 v T b G l mo) (sy9 v T b G l mo) t 0 0 (mf (T.1 8) 5 b) (mf (T.1 8) 6 b) g x y ∧ near9 (T.1 4 b) x y)) := by
  obtain ⟨hc, ⟨f1, f2, f3, f4, f5, f6⟩, hT, hW, hX, hM⟩ := id h
  have hm6 : m ≤ 6 := hc.1
  have hb6 : b < 6 := by omega
  obtain ⟨g0, g1, g2, g3, g4, g5, g6, g7, g8, g9⟩ := f6.1 b hb
  obtain ⟨g5a, g5b, g5c, g5d⟩ := g5 r3
  have g0 : S.1 23 b = mf (T.1 8) 0 b := g0
  have g1 : S.1 24 b = mf (T.1 8) 1 b := g1
  have g2 : S.1 25 b = mf (T.1 8) 2 b := g2
  have g5a : S.1 30 b = mf (T.1 8) 5 b := g5a
  have g5b : S.1 31 b = mf (T.1 8) 6 b := g5b
  obtain ⟨f51, f52⟩ := f5 b hb
  have f51 : S.1 26 b = T.1 4 b := f51
  have f52 : S.1 27 b = T.1 5 b := f52
  have n0 : (nI n < 0) = False := nI_lt0 (by omega)
  have n6 : (nI n ≤ 6) = True := eq_true (by rw [show (6 : Int32) = nI 6 from rfl, nI_leP (by omega) (by omega)]; exact hn)
  unfold p_X4_survey
  simp (disch := first | assumption | omega | rfl | (simp only [zpi_d, zpl_d, zpr_1, zpr_2, zpq_1, zpq_2, zpr_o, zpq_o, Nat.reduceAdd, Nat.reduceEqDiff, Nat.reduceMul, reduceIte, ite_true, ite_false, if_true, if_false, reduceCtorEq, eq_self, iff_self, i_T, i_F, implies_true, false_and, and_false, ne_m5_m4, ne_m5_m3, ne_m5_m2, ne_m5_m1, ne_m5_0, ne_m5_1, ne_m5_2, ne_m5_3, ne_m4_m5, ne_m4_m3, ne_m4_m2, ne_m4_m1, ne_m4_0, ne_m4_1, ne_m4_2, ne_m4_3, ne_m3_m5, ne_m3_m4, ne_m3_m2, ne_m3_m1, ne_m3_0, ne_m3_1, ne_m3_2, ne_m3_3, ne_m2_m5, ne_m2_m4, ne_m2_m3, ne_m2_m1, ne_m2_0, ne_m2_1, ne_m2_2, ne_m2_3, ne_m1_m5, ne_m1_m4, ne_m1_m3, ne_m1_m2, ne_m1_0, ne_m1_1, ne_m1_2, ne_m1_3, ne_0_m5, ne_0_m4, ne_0_m3, ne_0_m2, ne_0_m1, ne_0_1, ne_0_2, ne_0_3, ne_1_m5, ne_1_m4, ne_1_m3, ne_1_m2, ne_1_m1, ne_1_0, ne_1_2, ne_1_3, ne_2_m5, ne_2_m4, ne_2_m3, ne_2_m2, ne_2_m1, ne_2_0, ne_2_1, ne_2_3, ne_3_m5, ne_3_m4, ne_3_m3, ne_3_m2, ne_3_m1, ne_3_0, ne_3_1, ne_3_2, le0_m5, lt0_m5, le0_m4, lt0_m4, le0_m3, lt0_m3, le0_m2, lt0_m2, le0_m1, lt0_m1, le0_0, lt0_0, le0_1, lt0_1, le0_2, lt0_2, le0_3, lt0_3, Nat.reduceLT, Nat.reduceLeDiff, ne_eq, not_true_eq_false, not_false_eq_true, true_and, and_true, Nat.succ_ne_self, upd_ap] <;> assumption) | fail) only [q_b (f := p_X3_has _ _), q_has_t hb (show m ≤ 1000 by omega) f1, q_eq (x := (1 : Int32)), ne_1_0, i_T, i_F, true_and, not_false_eq_true, not_true_eq_false, and_true, q_lt, n0, q_le, n6, q_si, zpi_d, q_alN, zpi_d, zpl_d, zpr_1, zpr_2, zpq_1, zpq_2, zpr_o, zpq_o, Nat.reduceAdd, Nat.reduceEqDiff, Nat.reduceMul, reduceIte, ite_true, ite_false, if_true, if_false, reduceCtorEq, eq_self, iff_self, i_T, i_F, implies_true, false_and, and_false, ne_m5_m4, ne_m5_m3, ne_m5_m2, ne_m5_m1, ne_m5_0, ne_m5_1, ne_m5_2, ne_m5_3, ne_m4_m5, ne_m4_m3, ne_m4_m2, ne_m4_m1, ne_m4_0, ne_m4_1, ne_m4_2, ne_m4_3, ne_m3_m5, ne_m3_m4, ne_m3_m2, ne_m3_m1, ne_m3_0, ne_m3_1, ne_m3_2, ne_m3_3, ne_m2_m5, ne_m2_m4, ne_m2_m3, ne_m2_m1, ne_m2_0, ne_m2_1, ne_m2_2, ne_m2_3, ne_m1_m5, ne_m1_m4, ne_m1_m3, ne_m1_m2, ne_m1_0, ne_m1_1, ne_m1_2, ne_m1_3, ne_0_m5, ne_0_m4, ne_0_m3, ne_0_m2, ne_0_m1, ne_0_1, ne_0_2, ne_0_3, ne_1_m5, ne_1_m4, ne_1_m3, ne_1_m2, ne_1_m1, ne_1_0, ne_1_2, ne_1_3, ne_2_m5, ne_2_m4, ne_2_m3, ne_2_m2, ne_2_m1, ne_2_0, ne_2_1, ne_2_3, ne_3_m5, ne_3_m4, ne_3_m3, ne_3_m2, ne_3_m1, ne_3_0, ne_3_1, ne_3_2, le0_m5, lt0_m5, le0_m4, lt0_m4, le0_m3, lt0_m3, le0_m2, lt0_m2, le0_m1, lt0_m1, le0_0, lt0_0, le0_1, lt0_1, le0_2, lt0_2, le0_3, lt0_3, Nat.reduceLT, Nat.reduceLeDiff, ne_eq, not_true_eq_false, not_false_eq_true, true_and, and_true, Nat.succ_ne_self, g1, emo, f51]
  obtain ⟨S1, hS1⟩ : ∃ S1, S1 = zpr S 66 (upd (upd (upd (upd (S.1 66) 6 (nI b)) 7 (nI n)) 8 (nI mo)) 9 (T.1 4 b)) := ⟨_, rfl⟩
  rw [← hS1]
  have f1S : f9S S S1 := by rw [hS1]; exact f9S_w (by omega)
  have e66 : S1.1 66 7 = nI n ∧ S1.1 66 8 = nI mo ∧ S1.1 66 9 = T.1 4 b ∧ S1.1 66 6 = nI b := by
    rw [hS1]
    simp only [zpi_d, zpl_d, zpr_1, zpr_2, zpq_1, zpq_2, zpr_o, zpq_o, Nat.reduceAdd, Nat.reduceEqDiff, Nat.reduceMul, reduceIte, ite_true, ite_false, if_true, if_false, reduceCtorEq, eq_self, iff_self, i_T, i_F, implies_true, false_and, and_false, ne_m5_m4, ne_m5_m3, ne_m5_m2, ne_m5_m1, ne_m5_0, ne_m5_1, ne_m5_2, ne_m5_3, ne_m4_m5, ne_m4_m3, ne_m4_m2, ne_m4_m1, ne_m4_0, ne_m4_1, ne_m4_2, ne_m4_3, ne_m3_m5, ne_m3_m4, ne_m3_m2, ne_m3_m1, ne_m3_0, ne_m3_1, ne_m3_2, ne_m3_3, ne_m2_m5, ne_m2_m4, ne_m2_m3, ne_m2_m1, ne_m2_0, ne_m2_1, ne_m2_2, ne_m2_3, ne_m1_m5, ne_m1_m4, ne_m1_m3, ne_m1_m2, ne_m1_0, ne_m1_1, ne_m1_2, ne_m1_3, ne_0_m5, ne_0_m4, ne_0_m3, ne_0_m2, ne_0_m1, ne_0_1, ne_0_2, ne_0_3, ne_1_m5, ne_1_m4, ne_1_m3, ne_1_m2, ne_1_m1, ne_1_0, ne_1_2, ne_1_3, ne_2_m5, ne_2_m4, ne_2_m3, ne_2_m2, ne_2_m1, ne_2_0, ne_2_1, ne_2_3, ne_3_m5, ne_3_m4, ne_3_m3, ne_3_m2, ne_3_m1, ne_3_0, ne_3_1, ne_3_2, le0_m5, lt0_m5, le0_m4, lt0_m4, le0_m3, lt0_m3, le0_m2, lt0_m2, le0_m1, lt0_m1, le0_0, lt0_0, le0_1, lt0_1, le0_2, lt0_2, le0_3, lt0_3, Nat.reduceLT, Nat.reduceLeDiff, ne_eq, not_true_eq_false, not_false_eq_true, true_and, and_true, Nat.succ_ne_self, upd_ap, and_self]
  obtain ⟨e667, e668, e669, e666⟩ := e66
  have ix : ∀ a c : Nat, (nI a * (10 : Int32)) + nI c = nI (a * 10 + c) := fun a c => by rw [show (10 : Int32) = nI 10 from rfl, pk_mul, nI_add]
  refine q_for (A := Unit) (fun _ i => nI i) (n + 1) (fun _ i S2 => f9S S S2 ∧ S2.1 66 = S1.1 66 ∧ ∀ t, t < i → ∀ k, k ≤ mo → S2.1 67 (t * 10 + k) = L9 v T b G l mo t k) (by omega) ?_ ?_ () 0 S1 (Nat.zero_le _) ⟨f1S, rfl, fun t ht => absurd ht (Nat.not_lt_zero t)⟩
  · rintro _ t S2 ht ⟨a1, a2, a3⟩ rc next
    have lt : (nI n < nI t) = False := eq_false (by rw [nI_ltP (by omega) (by omega)]; omega)
    have e23 : S2.1 23 b = nI G := by rw [a1.1 23 (by omega) (by omega) (by omega) (by omega) (by omega) (by omega), g0, eG]
    have e27 : S2.1 27 b = nI l := by rw [a1.1 27 (by omega) (by omega) (by omega) (by omega) (by omega) (by omega), f52, el]
    rw [p_X4_survey_b60]
    simp (disch := first | assumption | omega | rfl | (simp only [zpi_d, zpl_d, zpr_1, zpr_2, zpq_1, zpq_2, zpr_o, zpq_o, Nat.reduceAdd, Nat.reduceEqDiff, Nat.reduceMul, reduceIte, ite_true, ite_false, if_true, if_false, reduceCtorEq, eq_self, iff_self, i_T, i_F, implies_true, false_and, and_false, ne_m5_m4, ne_m5_m3, ne_m5_m2, ne_m5_m1, ne_m5_0, ne_m5_1, ne_m5_2, ne_m5_3, ne_m4_m5, ne_m4_m3, ne_m4_m2, ne_m4_m1, ne_m4_0, ne_m4_1, ne_m4_2, ne_m4_3, ne_m3_m5, ne_m3_m4, ne_m3_m2, ne_m3_m1, ne_m3_0, ne_m3_1, ne_m3_2, ne_m3_3, ne_m2_m5, ne_m2_m4, ne_m2_m3, ne_m2_m1, ne_m2_0, ne_m2_1, ne_m2_2, ne_m2_3, ne_m1_m5, ne_m1_m4, ne_m1_m3, ne_m1_m2, ne_m1_0, ne_m1_1, ne_m1_2, ne_m1_3, ne_0_m5, ne_0_m4, ne_0_m3, ne_0_m2, ne_0_m1, ne_0_1, ne_0_2, ne_0_3, ne_1_m5, ne_1_m4, ne_1_m3, ne_1_m2, ne_1_m1, ne_1_0, ne_1_2, ne_1_3, ne_2_m5, ne_2_m4, ne_2_m3, ne_2_m2, ne_2_m1, ne_2_0, ne_2_1, ne_2_3, ne_3_m5, ne_3_m4, ne_3_m3, ne_3_m2, ne_3_m1, ne_3_0, ne_3_1, ne_3_2, le0_m5, lt0_m5, le0_m4, lt0_m4, le0_m3, lt0_m3, le0_m2, lt0_m2, le0_m1, lt0_m1, le0_0, lt0_0, le0_1, lt0_1, le0_2, lt0_2, le0_3, lt0_3, Nat.reduceLT, Nat.reduceLeDiff, ne_eq, not_true_eq_false, not_false_eq_true, true_and, and_true, Nat.succ_ne_self, upd_ap] <;> assumption) | fail) only [q_lt, lt, i_F, true_and, not_false_eq_true, i_T, q_alN, e23, e27]
    refine q_for (A := Unit) (fun _ i => nI i) (mo + 1) (fun _ i S3 => f9S S S3 ∧ S3.1 66 = S1.1 66 ∧ (∀ t', t' < t → ∀ k, k ≤ mo → S3.1 67 (t' * 10 + k) = L9 v T b G l mo t' k) ∧ ∀ k, k < i → S3.1 67 (t * 10 + k) = L9 v T b G l mo t k) (by omega) ?_ ?_ () 0 S2 (Nat.zero_le _) ⟨a1, a2, a3, fun k hk => absurd hk (Nat.not_lt_zero k)⟩
    · rintro _ k S3 hk ⟨b1, b2, b3, b4⟩ rc2 next2
      have lk : (nI mo < nI k) = False := eq_false (by rw [nI_ltP (by omega) (by omega)]; omega)
      have e8 : S3.1 66 8 = nI mo := by rw [b2]; exact e668
      have w : ∀ c, c ≠ 19 → c ≠ 21 → c ≠ 66 → c ≠ 67 → c ≠ 68 → c ≠ 70 → S3.1 c = S.1 c := b1.1
      have hmul : t * l ≤ 6 * 9 := Nat.mul_le_mul (by omega) hl
      have eg : zmx 0 (nI G - nI t * nI l) = nI (G - t * l) := by rw [pk_mul, zmx_sub (by omega) (by omega)]
      have es : nI mo - nI k = nI (mo - k) := pk_sub (by omega)
      have eL : lfx v 20 S3 b (nI (G - t * l)) (nI (mo - k)) (nI t) = L9 v T b G l mo t k := by
        unfold lfx L9
        rw [w (20 + 5) (by omega) (by omega) (by omega) (by omega) (by omega) (by omega), w (20 + 7) (by omega) (by omega) (by omega) (by omega) (by omega) (by omega), w (20 + 6) (by omega) (by omega) (by omega) (by omega) (by omega) (by omega), w 20 (by omega) (by omega) (by omega) (by omega) (by omega) (by omega), f3, f4, g2, f51, f52]
      have e14 : S3.1 20 14 = nI m := by rw [w 20 (by omega) (by omega) (by omega) (by omega) (by omega) (by omega)]; exact f1
      have e16 : S3.1 16 = S.1 16 := w 16 (by omega) (by omega) (by omega) (by omega) (by omega) (by omega)
      have e17 : S3.1 17 = S.1 17 := w 17 (by omega) (by omega) (by omega) (by omega) (by omega) (by omega)
      have h70 : t * 10 + k < 70 := by omega
      rw [p_X4_survey_b95]
      simp (disch := first | assumption | omega | rfl | (simp only [zpi_d, zpl_d, zpr_1, zpr_2, zpq_1, zpq_2, zpr_o, zpq_o, Nat.reduceAdd, Nat.reduceEqDiff, Nat.reduceMul, reduceIte, ite_true, ite_false, if_true, if_false, reduceCtorEq, eq_self, iff_self, i_T, i_F, implies_true, false_and, and_false, ne_m5_m4, ne_m5_m3, ne_m5_m2, ne_m5_m1, ne_m5_0, ne_m5_1, ne_m5_2, ne_m5_3, ne_m4_m5, ne_m4_m3, ne_m4_m2, ne_m4_m1, ne_m4_0, ne_m4_1, ne_m4_2, ne_m4_3, ne_m3_m5, ne_m3_m4, ne_m3_m2, ne_m3_m1, ne_m3_0, ne_m3_1, ne_m3_2, ne_m3_3, ne_m2_m5, ne_m2_m4, ne_m2_m3, ne_m2_m1, ne_m2_0, ne_m2_1, ne_m2_2, ne_m2_3, ne_m1_m5, ne_m1_m4, ne_m1_m3, ne_m1_m2, ne_m1_0, ne_m1_1, ne_m1_2, ne_m1_3, ne_0_m5, ne_0_m4, ne_0_m3, ne_0_m2, ne_0_m1, ne_0_1, ne_0_2, ne_0_3, ne_1_m5, ne_1_m4, ne_1_m3, ne_1_m2, ne_1_m1, ne_1_0, ne_1_2, ne_1_3, ne_2_m5, ne_2_m4, ne_2_m3, ne_2_m2, ne_2_m1, ne_2_0, ne_2_1, ne_2_3, ne_3_m5, ne_3_m4, ne_3_m3, ne_3_m2, ne_3_m1, ne_3_0, ne_3_1, ne_3_2, le0_m5, lt0_m5, le0_m4, lt0_m4, le0_m3, lt0_m3, le0_m2, lt0_m2, le0_m1, lt0_m1, le0_0, lt0_0, le0_1, lt0_1, le0_2, lt0_2, le0_3, lt0_3, Nat.reduceLT, Nat.reduceLeDiff, ne_eq, not_true_eq_false, not_false_eq_true, true_and, and_true, Nat.succ_ne_self, upd_ap] <;> assumption) | fail) only [q_gi, e8, q_lt, lk, i_F, true_and, not_false_eq_true, i_T, eg, es, q_b, q_liftAs_20 hX hb hm6 e16 e17 e14, eL, ix, q_asN, zpi_d, nI_1]
      refine next2 () _ ⟨?_, ?_, ?_, ?_⟩
      · exact f9S_t (f9S_t (f9S_t b1 (f9S_w (by omega))) (f9S_w (by omega))) (f9S_w (by omega))
      · simp only [zpi_d, zpl_d, zpr_1, zpr_2, zpq_1, zpq_2, zpr_o, zpq_o, Nat.reduceAdd, Nat.reduceEqDiff, Nat.reduceMul, reduceIte, ite_true, ite_false, if_true, if_false, reduceCtorEq, eq_self, iff_self, i_T, i_F, implies_true, false_and, and_false, ne_m5_m4, ne_m5_m3, ne_m5_m2, ne_m5_m1, ne_m5_0, ne_m5_1, ne_m5_2, ne_m5_3, ne_m4_m5, ne_m4_m3, ne_m4_m2, ne_m4_m1, ne_m4_0, ne_m4_1, ne_m4_2, ne_m4_3, ne_m3_m5, ne_m3_m4, ne_m3_m2, ne_m3_m1, ne_m3_0, ne_m3_1, ne_m3_2, ne_m3_3, ne_m2_m5, ne_m2_m4, ne_m2_m3, ne_m2_m1, ne_m2_0, ne_m2_1, ne_m2_2, ne_m2_3, ne_m1_m5, ne_m1_m4, ne_m1_m3, ne_m1_m2, ne_m1_0, ne_m1_1, ne_m1_2, ne_m1_3, ne_0_m5, ne_0_m4, ne_0_m3, ne_0_m2, ne_0_m1, ne_0_1, ne_0_2, ne_0_3, ne_1_m5, ne_1_m4, ne_1_m3, ne_1_m2, ne_1_m1, ne_1_0, ne_1_2, ne_1_3, ne_2_m5, ne_2_m4, ne_2_m3, ne_2_m2, ne_2_m1, ne_2_0, ne_2_1, ne_2_3, ne_3_m5, ne_3_m4, ne_3_m3, ne_3_m2, ne_3_m1, ne_3_0, ne_3_1, ne_3_2, le0_m5, lt0_m5, le0_m4, lt0_m4, le0_m3, lt0_m3, le0_m2, lt0_m2, le0_m1, lt0_m1, le0_0, lt0_0, le0_1, lt0_1, le0_2, lt0_2, le0_3, lt0_3, Nat.reduceLT, Nat.reduceLeDiff, ne_eq, not_true_eq_false, not_false_eq_true, true_and, and_true, Nat.succ_ne_self]; exact b2
      · intro t' h1 k' h2
        simp only [zpi_d, zpl_d, zpr_1, zpr_2, zpq_1, zpq_2, zpr_o, zpq_o, Nat.reduceAdd, Nat.reduceEqDiff, Nat.reduceMul, reduceIte, ite_true, ite_false, if_true, if_false, reduceCtorEq, eq_self, iff_self, i_T, i_F, implies_true, false_and, and_false, ne_m5_m4, ne_m5_m3, ne_m5_m2, ne_m5_m1, ne_m5_0, ne_m5_1, ne_m5_2, ne_m5_3, ne_m4_m5, ne_m4_m3, ne_m4_m2, ne_m4_m1, ne_m4_0, ne_m4_1, ne_m4_2, ne_m4_3, ne_m3_m5, ne_m3_m4, ne_m3_m2, ne_m3_m1, ne_m3_0, ne_m3_1, ne_m3_2, ne_m3_3, ne_m2_m5, ne_m2_m4, ne_m2_m3, ne_m2_m1, ne_m2_0, ne_m2_1, ne_m2_2, ne_m2_3, ne_m1_m5, ne_m1_m4, ne_m1_m3, ne_m1_m2, ne_m1_0, ne_m1_1, ne_m1_2, ne_m1_3, ne_0_m5, ne_0_m4, ne_0_m3, ne_0_m2, ne_0_m1, ne_0_1, ne_0_2, ne_0_3, ne_1_m5, ne_1_m4, ne_1_m3, ne_1_m2, ne_1_m1, ne_1_0, ne_1_2, ne_1_3, ne_2_m5, ne_2_m4, ne_2_m3, ne_2_m2, ne_2_m1, ne_2_0, ne_2_1, ne_2_3, ne_3_m5, ne_3_m4, ne_3_m3, ne_3_m2, ne_3_m1, ne_3_0, ne_3_1, ne_3_2, le0_m5, lt0_m5, le0_m4, lt0_m4, le0_m3, lt0_m3, le0_m2, lt0_m2, le0_m1, lt0_m1, le0_0, lt0_0, le0_1, lt0_1, le0_2, lt0_2, le0_3, lt0_3, Nat.reduceLT, Nat.reduceLeDiff, ne_eq, not_true_eq_false, not_false_eq_true, true_and, and_true, Nat.succ_ne_self, upd_ap]
        rw [if_neg (by omega)]
        exact b3 t' h1 k' h2
      · intro k' h1
        simp only [zpi_d, zpl_d, zpr_1, zpr_2, zpq_1, zpq_2, zpr_o, zpq_o, Nat.reduceAdd, Nat.reduceEqDiff, Nat.reduceMul, reduceIte, ite_true, ite_false, if_true, if_false, reduceCtorEq, eq_self, iff_self, i_T, i_F, implies_true, false_and, and_false, ne_m5_m4, ne_m5_m3, ne_m5_m2, ne_m5_m1, ne_m5_0, ne_m5_1, ne_m5_2, ne_m5_3, ne_m4_m5, ne_m4_m3, ne_m4_m2, ne_m4_m1, ne_m4_0, ne_m4_1, ne_m4_2, ne_m4_3, ne_m3_m5, ne_m3_m4, ne_m3_m2, ne_m3_m1, ne_m3_0, ne_m3_1, ne_m3_2, ne_m3_3, ne_m2_m5, ne_m2_m4, ne_m2_m3, ne_m2_m1, ne_m2_0, ne_m2_1, ne_m2_2, ne_m2_3, ne_m1_m5, ne_m1_m4, ne_m1_m3, ne_m1_m2, ne_m1_0, ne_m1_1, ne_m1_2, ne_m1_3, ne_0_m5, ne_0_m4, ne_0_m3, ne_0_m2, ne_0_m1, ne_0_1, ne_0_2, ne_0_3, ne_1_m5, ne_1_m4, ne_1_m3, ne_1_m2, ne_1_m1, ne_1_0, ne_1_2, ne_1_3, ne_2_m5, ne_2_m4, ne_2_m3, ne_2_m2, ne_2_m1, ne_2_0, ne_2_1, ne_2_3, ne_3_m5, ne_3_m4, ne_3_m3, ne_3_m2, ne_3_m1, ne_3_0, ne_3_1, ne_3_2, le0_m5, lt0_m5, le0_m4, lt0_m4, le0_m3, lt0_m3, le0_m2, lt0_m2, le0_m1, lt0_m1, le0_0, lt0_0, le0_1, lt0_1, le0_2, lt0_2, le0_3, lt0_3, Nat.reduceLT, Nat.reduceLeDiff, ne_eq, not_true_eq_false, not_false_eq_true, true_and, and_true, Nat.succ_ne_self, upd_ap]
        by_cases e : k' = k
        · rw [e, if_pos rfl]
        · rw [if_neg (by omega)]
          exact b4 k' (by omega)
    · rintro _ S3 ⟨b1, b2, b3, b4⟩ rc2
      have lk : (nI mo < nI (mo + 1)) = True := eq_true (by rw [nI_ltP (by omega) (by omega)]; omega)
      have e8 : S3.1 66 8 = nI mo := by rw [b2]; exact e668
      rw [p_X4_survey_b95]
      simp only [q_gi, e8, q_lt, lk, i_T, not_true_eq_false, i_F, and_true, nI_1]
      refine next () S3 ⟨b1, b2, fun t' h1 k h2 => ?_⟩
      by_cases e : t' = t
      · rw [e]; exact b4 k (by omega)
      · exact b3 t' (by omega) k h2
  · rintro _ S2 ⟨a1, a2, a3⟩ rc
    have lt : (nI n < nI (n + 1)) = True := eq_true (by rw [nI_ltP (by omega) (by omega)]; omega)
    rw [p_X4_survey_b60]
    simp only [q_lt, lt, i_T, not_true_eq_false, i_F, and_true]
    rw [q_b]
    refine x_fill0 (fun S3 c1 c2 c3 => ?_)
    have f3S : f9S S S3 := ⟨fun c p1 p2 p3 p4 p5 p6 => by rw [c1]; exact a1.1 c p1 p2 p3 p4 p5 p6, fun c p => (c2 c p).trans (a1.2 c p)⟩
    refine q_for (A := Unit) (fun _ i => nI i) 70 (fun _ i S4 => (∀ c, c ≠ 68 → S4.1 c = S3.1 c) ∧ S4.2 = S3.2 ∧ ∀ j, j < i → S4.1 68 j = 0) (by omega) ?_ ?_ () 0 S3 (Nat.zero_le _) ⟨fun _ _ => rfl, rfl, fun j hj => absurd hj (Nat.not_lt_zero j)⟩
    · rintro _ i S4 hi ⟨d1, d2, d3⟩ rc next
      have l : ((70 : Int32) ≤ nI i) = False := eq_false (by rw [show (70 : Int32) = nI 70 from rfl, nI_leP (by omega) (by omega)]; omega)
      have e0 : vp_nar .boolean (0 : Int32) = 0 := rfl
      unfold p_X4_survey_b156
      simp (disch := first | assumption | omega | rfl | (simp only [zpi_d, zpl_d, zpr_1, zpr_2, zpq_1, zpq_2, zpr_o, zpq_o, Nat.reduceAdd, Nat.reduceEqDiff, Nat.reduceMul, reduceIte, ite_true, ite_false, if_true, if_false, reduceCtorEq, eq_self, iff_self, i_T, i_F, implies_true, false_and, and_false, ne_m5_m4, ne_m5_m3, ne_m5_m2, ne_m5_m1, ne_m5_0, ne_m5_1, ne_m5_2, ne_m5_3, ne_m4_m5, ne_m4_m3, ne_m4_m2, ne_m4_m1, ne_m4_0, ne_m4_1, ne_m4_2, ne_m4_3, ne_m3_m5, ne_m3_m4, ne_m3_m2, ne_m3_m1, ne_m3_0, ne_m3_1, ne_m3_2, ne_m3_3, ne_m2_m5, ne_m2_m4, ne_m2_m3, ne_m2_m1, ne_m2_0, ne_m2_1, ne_m2_2, ne_m2_3, ne_m1_m5, ne_m1_m4, ne_m1_m3, ne_m1_m2, ne_m1_0, ne_m1_1, ne_m1_2, ne_m1_3, ne_0_m5, ne_0_m4, ne_0_m3, ne_0_m2, ne_0_m1, ne_0_1, ne_0_2, ne_0_3, ne_1_m5, ne_1_m4, ne_1_m3, ne_1_m2, ne_1_m1, ne_1_0, ne_1_2, ne_1_3, ne_2_m5, ne_2_m4, ne_2_m3, ne_2_m2, ne_2_m1, ne_2_0, ne_2_1, ne_2_3, ne_3_m5, ne_3_m4, ne_3_m3, ne_3_m2, ne_3_m1, ne_3_0, ne_3_1, ne_3_2, le0_m5, lt0_m5, le0_m4, lt0_m4, le0_m3, lt0_m3, le0_m2, lt0_m2, le0_m1, lt0_m1, le0_0, lt0_0, le0_1, lt0_1, le0_2, lt0_2, le0_3, lt0_3, Nat.reduceLT, Nat.reduceLeDiff, ne_eq, not_true_eq_false, not_false_eq_true, true_and, and_true, Nat.succ_ne_self, upd_ap] <;> assumption) | fail) only [q_le, l, i_F, true_and, not_false_eq_true, i_T, q_asN, zpi_d, nI_1, e0]
      refine next () _ ⟨fun c hc => by rw [zpr_n hc]; exact d1 c hc, d2, fun j hj => ?_⟩
      simp only [zpi_d, zpl_d, zpr_1, zpr_2, zpq_1, zpq_2, zpr_o, zpq_o, Nat.reduceAdd, Nat.reduceEqDiff, Nat.reduceMul, reduceIte, ite_true, ite_false, if_true, if_false, reduceCtorEq, eq_self, iff_self, i_T, i_F, implies_true, false_and, and_false, ne_m5_m4, ne_m5_m3, ne_m5_m2, ne_m5_m1, ne_m5_0, ne_m5_1, ne_m5_2, ne_m5_3, ne_m4_m5, ne_m4_m3, ne_m4_m2, ne_m4_m1, ne_m4_0, ne_m4_1, ne_m4_2, ne_m4_3, ne_m3_m5, ne_m3_m4, ne_m3_m2, ne_m3_m1, ne_m3_0, ne_m3_1, ne_m3_2, ne_m3_3, ne_m2_m5, ne_m2_m4, ne_m2_m3, ne_m2_m1, ne_m2_0, ne_m2_1, ne_m2_2, ne_m2_3, ne_m1_m5, ne_m1_m4, ne_m1_m3, ne_m1_m2, ne_m1_0, ne_m1_1, ne_m1_2, ne_m1_3, ne_0_m5, ne_0_m4, ne_0_m3, ne_0_m2, ne_0_m1, ne_0_1, ne_0_2, ne_0_3, ne_1_m5, ne_1_m4, ne_1_m3, ne_1_m2, ne_1_m1, ne_1_0, ne_1_2, ne_1_3, ne_2_m5, ne_2_m4, ne_2_m3, ne_2_m2, ne_2_m1, ne_2_0, ne_2_1, ne_2_3, ne_3_m5, ne_3_m4, ne_3_m3, ne_3_m2, ne_3_m1, ne_3_0, ne_3_1, ne_3_2, le0_m5, lt0_m5, le0_m4, lt0_m4, le0_m3, lt0_m3, le0_m2, lt0_m2, le0_m1, lt0_m1, le0_0, lt0_0, le0_1, lt0_1, le0_2, lt0_2, le0_3, lt0_3, Nat.reduceLT, Nat.reduceLeDiff, ne_eq, not_true_eq_false, not_false_eq_true, true_and, and_true, Nat.succ_ne_self, upd_ap]
      by_cases e : j = i
      · rw [if_pos e]
      · rw [if_neg e]; exact d3 j (by omega)
    · rintro _ S4 ⟨d1, d2, d3⟩ rc
      have l70 : ((70 : Int32) ≤ nI 70) = True := eq_true (by decide)
      have f4S : f9S S S4 := f9S_t f3S ⟨fun c p1 p2 p3 p4 p5 p6 => d1 c p5, fun c _ => by rw [d2]⟩
      have w : ∀ c, c ≠ 19 → c ≠ 21 → c ≠ 66 → c ≠ 67 → c ≠ 68 → c ≠ 70 → S4.1 c = S.1 c := f4S.1
      have e66 : S4.1 66 = S1.1 66 := by rw [d1 66 (by omega), c1]; exact a2
      have e30 : S4.1 30 b = mf (T.1 8) 5 b := by rw [w 30 (by omega) (by omega) (by omega) (by omega) (by omega) (by omega)]; exact g5a
      have e31 : S4.1 31 b = mf (T.1 8) 6 b := by rw [w 31 (by omega) (by omega) (by omega) (by omega) (by omega) (by omega)]; exact g5b
      have z2 : ∀ t g q, t ≤ n → g ≤ mo → q < 361 → sn9 S4 t g q = false := fun t g q h1 h2 h3 => by
        unfold sn9
        rw [d2, c3 _ (by omega)]
        exact BitVec.getLsbD_zero
      unfold p_X4_survey_b156
      simp (disch := first | assumption | omega | rfl | (simp only [zpi_d, zpl_d, zpr_1, zpr_2, zpq_1, zpq_2, zpr_o, zpq_o, Nat.reduceAdd, Nat.reduceEqDiff, Nat.reduceMul, reduceIte, ite_true, ite_false, if_true, if_false, reduceCtorEq, eq_self, iff_self, i_T, i_F, implies_true, false_and, and_false, ne_m5_m4, ne_m5_m3, ne_m5_m2, ne_m5_m1, ne_m5_0, ne_m5_1, ne_m5_2, ne_m5_3, ne_m4_m5, ne_m4_m3, ne_m4_m2, ne_m4_m1, ne_m4_0, ne_m4_1, ne_m4_2, ne_m4_3, ne_m3_m5, ne_m3_m4, ne_m3_m2, ne_m3_m1, ne_m3_0, ne_m3_1, ne_m3_2, ne_m3_3, ne_m2_m5, ne_m2_m4, ne_m2_m3, ne_m2_m1, ne_m2_0, ne_m2_1, ne_m2_2, ne_m2_3, ne_m1_m5, ne_m1_m4, ne_m1_m3, ne_m1_m2, ne_m1_0, ne_m1_1, ne_m1_2, ne_m1_3, ne_0_m5, ne_0_m4, ne_0_m3, ne_0_m2, ne_0_m1, ne_0_1, ne_0_2, ne_0_3, ne_1_m5, ne_1_m4, ne_1_m3, ne_1_m2, ne_1_m1, ne_1_0, ne_1_2, ne_1_3, ne_2_m5, ne_2_m4, ne_2_m3, ne_2_m2, ne_2_m1, ne_2_0, ne_2_1, ne_2_3, ne_3_m5, ne_3_m4, ne_3_m3, ne_3_m2, ne_3_m1, ne_3_0, ne_3_1, ne_3_2, le0_m5, lt0_m5, le0_m4, lt0_m4, le0_m3, lt0_m3, le0_m2, lt0_m2, le0_m1, lt0_m1, le0_0, lt0_0, le0_1, lt0_1, le0_2, lt0_2, le0_3, lt0_3, Nat.reduceLT, Nat.reduceLeDiff, ne_eq, not_true_eq_false, not_false_eq_true, true_and, and_true, Nat.succ_ne_self, upd_ap] <;> assumption) | fail) only [q_le, l70, i_T, not_true_eq_false, i_F, and_true, q_alN, e30, e31]
      unfold p_X4_explore
      rw [q_b]
      have hz := zDP_eq
      have hLX : LX n mo (T.1 4 b) (L9 v T b G l mo) (ex9 v T b G l mo) (sy9 v T b G l mo) S4 := by
        refine ⟨by rw [e66]; exact e667, by rw [e66]; exact e668, by rw [e66]; exact e669, fun t k ht hk => ⟨?_, hN (L9 v T b G l mo t k), (hN_s _).1, (hN_s _).2, ?_, ?_⟩⟩
        · rw [d1 67 (by omega), c1]
          exact a3 t (by omega) k hk
        · rw [w 13 (by omega) (by omega) (by omega) (by omega) (by omega) (by omega)]
          exact (hW _ (hN_s _).1).2.2.2.1
        · rw [w 14 (by omega) (by omega) (by omega) (by omega) (by omega) (by omega)]
          exact (hW _ (hN_s _).1).2.2.2.2
      refine q_mono (x_explore (n := n) (mo := mo) (rp := T.1 4 b) (L := L9 v T b G l mo) (ex := ex9 v T b G l mo) (sy := sy9 v T b G l mo) (x0 := mf (T.1 8) 5 b) (y0 := mf (T.1 8) 6 b) hn hmo n 0 zDP (by omega) (by omega) 0 (mf (T.1 8) 5 b) (mf (T.1 8) 6 b) S4 (Nat.zero_le _) hLX ?_ ?_ (fun _ _ => ⟨rfl, rfl, rfl⟩)) ?_
      · intro t' g x y h1 h2 h3 hx hy h4
        rw [z2 t' g _ h2 h3 (cN_lt hx hy)] at h4
        cases h4
      · exact fun t g h1 h2 => Or.inl (d3 _ (by omega))
      · rintro _ S5 ⟨k1, k2, k3, k4, k5⟩
        rw [q_ret]
        refine ⟨f9S_t f4S (f9S_D k1), LX_D hLX k1, ?_, fun t g h1 h2 => ⟨?_, ?_⟩⟩
        · rw [k1.1 66 (by omega), e66]; exact e666
        · rcases k3 t g h1 h2 with z | z
          · exact Or.inl z
          · exact Or.inr z.1
        · constructor
          · intro z
            rcases k3 t g h1 h2 with z2 | z2
            · rw [z] at z2
              exact absurd z2 (by decide)
            · exact z2.2
          · rintro ⟨x, y, hw, hne⟩
            have := Jc_way k2 hw (by omega) h2 g5c g5d (k5 g5c g5d) hne
            rw [Nat.zero_add] at this
            exact this
