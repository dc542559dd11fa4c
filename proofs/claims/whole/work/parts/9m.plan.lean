/-! ===== the class: plan, retrace ===== -/
def cn9 (L ex sy : Nat → Nat → Int32) (rp x0 y0 H : Int32) (K h : Nat) : Prop := (∃ g x y, g ≤ K ∧ wy9 L ex sy h 0 0 x0 y0 g x y ∧ near9 rp x y) ∧ ¬ 1 < zab (hi (L h K) - H)
/-- the fewest SACKS, of these the fewest HOURS -/
def fs9 (C : Nat → Nat → Prop) (n K h : Nat) : Prop := C K h ∧ ∀ K' h', h' ≤ n → (K' < K ∨ K' = K ∧ h' < h) → ¬ C K' h'
theorem x_near {S : zS} {n mo t K : Nat} {P : Nat → Nat → Prop} (hn : n ≤ 6) (hmo : mo ≤ 9) (ht : t ≤ n) (hK : K ≤ mo) (hP : ∀ t g, t ≤ n → g ≤ mo → (S.1 68 (t * 10 + g) = 0 ∨ S.1 68 (t * 10 + g) = 1) ∧ (S.1 68 (t * 10 + g) = 1 ↔ P t g)) : zq (p_X4_canBeNear (nI t) (nI K)) S (fun r S' => S' = S ∧ ((r = 1 ∧ ∃ g, g ≤ K ∧ P t g) ∨ (r = 0 ∧ ∀ g, g ≤ K → ¬ P t g))) := by
  have ix : ∀ a c : Nat, (nI a * (10 : Int32)) + nI c = nI (a * 10 + c) := fun a c => by rw [show (10 : Int32) = nI 10 from rfl, pk_mul, nI_add]
  unfold p_X4_canBeNear
  refine q_for (A := Unit) (fun _ i => nI i) (K + 1) (fun _ i S' => S' = S ∧ ∀ g, g < i → ¬ P t g) (by omega) ?_ ?_ () 0 S (Nat.zero_le _) ⟨rfl, fun g hg => absurd hg (Nat.not_lt_zero g)⟩
  · rintro _ i S' hi ⟨rfl, hI⟩ rc next
    have lk : (nI K < nI i) = False := eq_false (by rw [nI_ltP (by omega) (by omega)]; omega)
    have h70 : t * 10 + i < 70 := by omega
    obtain ⟨h1, h2⟩ := hP t i ht (by omega)
    unfold p_X4_canBeNear_b2
    simp (disch := first | assumption | omega | rfl | (simp only [zpi_d, zpl_d, zpr_1, zpr_2, zpq_1, zpq_2, zpr_o, zpq_o, Nat.reduceAdd, Nat.reduceEqDiff, Nat.reduceMul, reduceIte, ite_true, ite_false, if_true, if_false, reduceCtorEq, eq_self, iff_self, i_T, i_F, implies_true, false_and, and_false, ne_m5_m4, ne_m5_m3, ne_m5_m2, ne_m5_m1, ne_m5_0, ne_m5_1, ne_m5_2, ne_m5_3, ne_m4_m5, ne_m4_m3, ne_m4_m2, ne_m4_m1, ne_m4_0, ne_m4_1, ne_m4_2, ne_m4_3, ne_m3_m5, ne_m3_m4, ne_m3_m2, ne_m3_m1, ne_m3_0, ne_m3_1, ne_m3_2, ne_m3_3, ne_m2_m5, ne_m2_m4, ne_m2_m3, ne_m2_m1, ne_m2_0, ne_m2_1, ne_m2_2, ne_m2_3, ne_m1_m5, ne_m1_m4, ne_m1_m3, ne_m1_m2, ne_m1_0, ne_m1_1, ne_m1_2, ne_m1_3, ne_0_m5, ne_0_m4, ne_0_m3, ne_0_m2, ne_0_m1, ne_0_1, ne_0_2, ne_0_3, ne_1_m5, ne_1_m4, ne_1_m3, ne_1_m2, ne_1_m1, ne_1_0, ne_1_2, ne_1_3, ne_2_m5, ne_2_m4, ne_2_m3, ne_2_m2, ne_2_m1, ne_2_0, ne_2_1, ne_2_3, ne_3_m5, ne_3_m4, ne_3_m3, ne_3_m2, ne_3_m1, ne_3_0, ne_3_1, ne_3_2, le0_m5, lt0_m5, le0_m4, lt0_m4, le0_m3, lt0_m3, le0_m2, lt0_m2, le0_m1, lt0_m1, le0_0, lt0_0, le0_1, lt0_1, le0_2, lt0_2, le0_3, lt0_3, Nat.reduceLT, Nat.reduceLeDiff, ne_eq, not_true_eq_false, not_false_eq_true, true_and, and_true, Nat.succ_ne_self, upd_ap] <;> assumption) | fail) only [q_lt, lk, i_F, true_and, not_false_eq_true, i_T, ix, q_alN, nI_1]
    rcases h1 with z | z
    · simp only [z, q_eq, i_T, not_true_eq_false, i_F, and_true]
      refine next () S' ⟨rfl, fun g hg => ?_⟩
      by_cases e : g = i
      · rw [e]
        intro w
        rw [h2.mpr w] at z
        exact absurd z (by decide)
      · exact hI g (by omega)
    · simp only [z, q_eq, ne_1_0, i_F, true_and, not_false_eq_true, i_T, q_rz1]
      exact Or.inl ⟨i, by omega, h2.mp z⟩
  · rintro _ S' ⟨rfl, hI⟩ rc
    have lk : (nI K < nI (K + 1)) = True := eq_true (by rw [nI_ltP (by omega) (by omega)]; omega)
    unfold p_X4_canBeNear_b2
    simp only [q_lt, lk, i_T, not_true_eq_false, i_F, and_true, q_rz0]
    exact ⟨trivial, Or.inr ⟨trivial, fun g hg => hI g (by omega)⟩⟩
theorem x_plan {n mo : Nat} {rp x0 y0 H : Int32} {L ex sy : Nat → Nat → Int32} {S : zS} (hn : n ≤ 6) (hmo : mo ≤ 9) (hL : LX n mo rp L ex sy S) (hP : ∀ t g, t ≤ n → g ≤ mo → (S.1 68 (t * 10 + g) = 0 ∨ S.1 68 (t * 10 + g) = 1) ∧ (S.1 68 (t * 10 + g) = 1 ↔ ∃ x y, wy9 L ex sy t 0 0 x0 y0 g x y ∧ near9 rp x y)) : zq (p_X4_plan H) S (fun r S' => (r = 0 ∧ S' = S ∧ ∀ K h, K ≤ mo → h ≤ n → ¬ cn9 L ex sy rp x0 y0 H K h) ∨ (r = 1 ∧ ∃ K h, K ≤ mo ∧ h ≤ n ∧ S' = zpr S 66 (upd (upd (S.1 66) 10 (nI K)) 11 (nI h)) ∧ fs9 (cn9 L ex sy rp x0 y0 H) n K h)) := by
  have ix : ∀ a c : Nat, (nI a * (10 : Int32)) + nI c = nI (a * 10 + c) := fun a c => by rw [show (10 : Int32) = nI 10 from rfl, pk_mul, nI_add]
  obtain ⟨e7, e8, e9, eL⟩ := id hL
  unfold p_X4_plan
  refine q_for (A := Unit) (fun _ i => nI i) (mo + 1) (fun _ i S' => S' = S ∧ ∀ K h, K < i → h ≤ n → ¬ cn9 L ex sy rp x0 y0 H K h) (by omega) ?_ ?_ () 0 S (Nat.zero_le _) ⟨rfl, fun K h hg => absurd hg (Nat.not_lt_zero K)⟩
  · rintro _ K S' hK ⟨rfl, hI⟩ rc next
    have lk : (nI mo < nI K) = False := eq_false (by rw [nI_ltP (by omega) (by omega)]; omega)
    rw [p_X4_plan_b2]
    simp only [q_gi, e8, q_lt, lk, i_F, true_and, not_false_eq_true, i_T]
    refine q_for (A := Unit) (fun _ i => nI i) (n + 1) (fun _ i S1 => S1 = S' ∧ ∀ h, h < i → ¬ cn9 L ex sy rp x0 y0 H K h) (by omega) ?_ ?_ () 0 S' (Nat.zero_le _) ⟨rfl, fun h hg => absurd hg (Nat.not_lt_zero h)⟩
    · rintro _ h S1 hh ⟨rfl, hJ⟩ rc2 next2
      have lh : (nI n < nI h) = False := eq_false (by rw [nI_ltP (by omega) (by omega)]; omega)
      have h70 : h * 10 + K < 70 := by omega
      have eLk := (eL h K (by omega) (by omega)).1
      have skip : ¬ cn9 L ex sy rp x0 y0 H K h → zq (rc2 (nI (h + 1))) S1 _ := fun z => next2 () S1 ⟨rfl, fun h' h1 => by
        by_cases e : h' = h
        · rw [e]; exact z
        · exact hJ h' (by omega)⟩
      rw [p_X4_plan_b12]
      simp only [q_gi, e7, q_lt (x := nI n), lh, i_F, true_and, not_false_eq_true, i_T, nI_1]
      rw [q_b]
      refine q_mono (x_near (t := h) (K := K) hn hmo (by omega) (by omega) hP) ?_
      rintro r _ ⟨rfl, ⟨rfl, g, hg, x, y, hw⟩ | ⟨rfl, hno⟩⟩
      · simp (disch := first | assumption | omega | rfl | (simp only [zpi_d, zpl_d, zpr_1, zpr_2, zpq_1, zpq_2, zpr_o, zpq_o, Nat.reduceAdd, Nat.reduceEqDiff, Nat.reduceMul, reduceIte, ite_true, ite_false, if_true, if_false, reduceCtorEq, eq_self, iff_self, i_T, i_F, implies_true, false_and, and_false, ne_m5_m4, ne_m5_m3, ne_m5_m2, ne_m5_m1, ne_m5_0, ne_m5_1, ne_m5_2, ne_m5_3, ne_m4_m5, ne_m4_m3, ne_m4_m2, ne_m4_m1, ne_m4_0, ne_m4_1, ne_m4_2, ne_m4_3, ne_m3_m5, ne_m3_m4, ne_m3_m2, ne_m3_m1, ne_m3_0, ne_m3_1, ne_m3_2, ne_m3_3, ne_m2_m5, ne_m2_m4, ne_m2_m3, ne_m2_m1, ne_m2_0, ne_m2_1, ne_m2_2, ne_m2_3, ne_m1_m5, ne_m1_m4, ne_m1_m3, ne_m1_m2, ne_m1_0, ne_m1_1, ne_m1_2, ne_m1_3, ne_0_m5, ne_0_m4, ne_0_m3, ne_0_m2, ne_0_m1, ne_0_1, ne_0_2, ne_0_3, ne_1_m5, ne_1_m4, ne_1_m3, ne_1_m2, ne_1_m1, ne_1_0, ne_1_2, ne_1_3, ne_2_m5, ne_2_m4, ne_2_m3, ne_2_m2, ne_2_m1, ne_2_0, ne_2_1, ne_2_3, ne_3_m5, ne_3_m4, ne_3_m3, ne_3_m2, ne_3_m1, ne_3_0, ne_3_1, ne_3_2, le0_m5, lt0_m5, le0_m4, lt0_m4, le0_m3, lt0_m3, le0_m2, lt0_m2, le0_m1, lt0_m1, le0_0, lt0_0, le0_1, lt0_1, le0_2, lt0_2, le0_3, lt0_3, Nat.reduceLT, Nat.reduceLeDiff, ne_eq, not_true_eq_false, not_false_eq_true, true_and, and_true, Nat.succ_ne_self, upd_ap] <;> assumption) | fail) only [q_j, q_eq, ne_1_0, i_F, true_and, not_false_eq_true, i_T, ix, q_alN, eLk, q_b, q_highBy, q_lt]
        by_cases hab : 1 < zab (hi (L h K) - H)
        · simp only [hab, i_T, not_true_eq_false, i_F, and_true]
          exact skip (fun z => z.2 hab)
        · simp only [hab, i_F, true_and, not_false_eq_true, i_T, q_si, zpi_d, q_rz1, zpi_d, zpl_d, zpr_1, zpr_2, zpq_1, zpq_2, zpr_o, zpq_o, Nat.reduceAdd, Nat.reduceEqDiff, Nat.reduceMul, reduceIte, ite_true, ite_false, if_true, if_false, reduceCtorEq, eq_self, iff_self, i_T, i_F, implies_true, false_and, and_false, ne_m5_m4, ne_m5_m3, ne_m5_m2, ne_m5_m1, ne_m5_0, ne_m5_1, ne_m5_2, ne_m5_3, ne_m4_m5, ne_m4_m3, ne_m4_m2, ne_m4_m1, ne_m4_0, ne_m4_1, ne_m4_2, ne_m4_3, ne_m3_m5, ne_m3_m4, ne_m3_m2, ne_m3_m1, ne_m3_0, ne_m3_1, ne_m3_2, ne_m3_3, ne_m2_m5, ne_m2_m4, ne_m2_m3, ne_m2_m1, ne_m2_0, ne_m2_1, ne_m2_2, ne_m2_3, ne_m1_m5, ne_m1_m4, ne_m1_m3, ne_m1_m2, ne_m1_0, ne_m1_1, ne_m1_2, ne_m1_3, ne_0_m5, ne_0_m4, ne_0_m3, ne_0_m2, ne_0_m1, ne_0_1, ne_0_2, ne_0_3, ne_1_m5, ne_1_m4, ne_1_m3, ne_1_m2, ne_1_m1, ne_1_0, ne_1_2, ne_1_3, ne_2_m5, ne_2_m4, ne_2_m3, ne_2_m2, ne_2_m1, ne_2_0, ne_2_1, ne_2_3, ne_3_m5, ne_3_m4, ne_3_m3, ne_3_m2, ne_3_m1, ne_3_0, ne_3_1, ne_3_2, le0_m5, lt0_m5, le0_m4, lt0_m4, le0_m3, lt0_m3, le0_m2, lt0_m2, le0_m1, lt0_m1, le0_0, lt0_0, le0_1, lt0_1, le0_2, lt0_2, le0_3, lt0_3, Nat.reduceLT, Nat.reduceLeDiff, ne_eq, not_true_eq_false, not_false_eq_true, true_and, and_true, Nat.succ_ne_self]
          refine Or.inr ⟨K, h, by omega, by omega, rfl, ⟨⟨g, x, y, hg, hw⟩, hab⟩, fun K' h' h1 h2 => ?_⟩
          rcases h2 with z | ⟨rfl, z⟩
          · exact hI K' h' z h1
          · exact hJ h' z
      · simp only [q_j, q_eq, i_T, not_true_eq_false, i_F, and_true]
        exact skip (fun ⟨⟨g, x, y, hg, hw⟩, _⟩ => hno g hg ⟨x, y, hw⟩)
    · rintro _ S1 ⟨rfl, hJ⟩ rc2
      have lh : (nI n < nI (n + 1)) = True := eq_true (by rw [nI_ltP (by omega) (by omega)]; omega)
      rw [p_X4_plan_b12]
      simp only [q_gi, e7, q_lt (x := nI n), lh, i_T, not_true_eq_false, i_F, and_true, nI_1]
      refine next () S1 ⟨rfl, fun K' h' h1 h2 => ?_⟩
      by_cases e : K' = K
      · rw [e]; exact hJ h' (by omega)
      · exact hI K' h' (by omega) h2
  · rintro _ S' ⟨rfl, hI⟩ rc
    have lk : (nI mo < nI (mo + 1)) = True := eq_true (by rw [nI_ltP (by omega) (by omega)]; omega)
    rw [p_X4_plan_b2]
    simp only [q_gi, e8, q_lt, lk, i_T, not_true_eq_false, i_F, and_true, q_rz0]
    exact Or.inl ⟨trivial, trivial, fun K h h1 h2 => hI K h (by omega) h2⟩
def f70 (t : Nat) (S S' : zS) : Prop := (∀ c, c ≠ 70 → S'.1 c = S.1 c) ∧ S'.2 = S.2 ∧ ∀ j, j < t → S'.1 70 j = S.1 70 j
theorem f70_t {t t' : Nat} {S S1 S2 : zS} (h : f70 t S S1) (g : f70 t' S1 S2) (ht : t ≤ t') : f70 t S S2 := ⟨fun c a => (g.1 c a).trans (h.1 c a), g.2.1.trans h.2.1, fun j hj => (g.2.2 j (by omega)).trans (h.2.2 j hj)⟩
theorem f70_r {t : Nat} {S : zS} : f70 t S S := ⟨fun _ _ => rfl, rfl, fun _ _ => rfl⟩
theorem f70_w {t : Nat} {S : zS} {v : Int32} : f70 t S (zpr S 70 (upd (S.1 70) t v)) := ⟨fun c hc => zpr_n hc, rfl, fun j hj => by simp only [zpi_d, zpl_d, zpr_1, zpr_2, zpq_1, zpq_2, zpr_o, zpq_o, Nat.reduceAdd, Nat.reduceEqDiff, Nat.reduceMul, reduceIte, ite_true, ite_false, if_true, if_false, reduceCtorEq, eq_self, iff_self, i_T, i_F, implies_true, false_and, and_false, ne_m5_m4, ne_m5_m3, ne_m5_m2, ne_m5_m1, ne_m5_0, ne_m5_1, ne_m5_2, ne_m5_3, ne_m4_m5, ne_m4_m3, ne_m4_m2, ne_m4_m1, ne_m4_0, ne_m4_1, ne_m4_2, ne_m4_3, ne_m3_m5, ne_m3_m4, ne_m3_m2, ne_m3_m1, ne_m3_0, ne_m3_1, ne_m3_2, ne_m3_3, ne_m2_m5, ne_m2_m4, ne_m2_m3, ne_m2_m1, ne_m2_0, ne_m2_1, ne_m2_2, ne_m2_3, ne_m1_m5, ne_m1_m4, ne_m1_m3, ne_m1_m2, ne_m1_0, ne_m1_1, ne_m1_2, ne_m1_3, ne_0_m5, ne_0_m4, ne_0_m3, ne_0_m2, ne_0_m1, ne_0_1, ne_0_2, ne_0_3, ne_1_m5, ne_1_m4, ne_1_m3, ne_1_m2, ne_1_m1, ne_1_0, ne_1_2, ne_1_3, ne_2_m5, ne_2_m4, ne_2_m3, ne_2_m2, ne_2_m1, ne_2_0, ne_2_1, ne_2_3, ne_3_m5, ne_3_m4, ne_3_m3, ne_3_m2, ne_3_m1, ne_3_0, ne_3_1, ne_3_2, le0_m5, lt0_m5, le0_m4, lt0_m4, le0_m3, lt0_m3, le0_m2, lt0_m2, le0_m1, lt0_m1, le0_0, lt0_0, le0_1, lt0_1, le0_2, lt0_2, le0_3, lt0_3, Nat.reduceLT, Nat.reduceLeDiff, ne_eq, not_true_eq_false, not_false_eq_true, true_and, and_true, Nat.succ_ne_self, upd_ap]; rw [if_neg (by omega)]⟩
theorem x_retr {n mo K h : Nat} {rp : Int32} {L ex sy : Nat → Nat → Int32} (hn : n ≤ 6) (hmo : mo ≤ 9) (hK : K ≤ mo) (hh : h ≤ n) : ∀ d t N, t + d = h → 2 * d + 2 ≤ N → ∀ (k : Nat) (x y : Int32) (S : zS), k ≤ K → LX n mo rp L ex sy S → S.1 66 10 = nI K → S.1 66 11 = nI h →
    zq ((p_X4_retraceFrom_g N).1 (nI t, nI k, x, y)) S (fun r S' => f70 t S S' ∧ ((r = 0 ∧ (in9 x → in9 y → pf9 L ex sy rp K d t k x y = none)) ∨ (r = 1 ∧ in9 x ∧ in9 y ∧ ∃ g, pf9 L ex sy rp K d t k x y = some g ∧ ∀ j, t ≤ j → j ≤ h → S'.1 70 j = nI (g j)))) := by
  have ix : ∀ a c : Nat, (nI a * (10 : Int32)) + nI c = nI (a * 10 + c) := fun a c => by rw [show (10 : Int32) = nI 10 from rfl, pk_mul, nI_add]
  intro d
  induction d with
  | zero =>
    intro t N ht hN k x y S hk hL e10 e11
    obtain ⟨M, rfl⟩ : ∃ M, N = M + 1 := ⟨N - 1, by omega⟩
    obtain ⟨e7, e8, e9, eL⟩ := id hL
    have lt : (nI n < nI t) = False := eq_false (by rw [nI_ltP (by omega) (by omega)]; omega)
    have et : t = h := by omega
    have h7 : t < 7 := by omega
    show zq (p_X4_retraceFrom_s (p_X4_retraceFrom_g M) (nI t) (nI k) x y) S _
    unfold p_X4_retraceFrom_s
    simp only [q_gi, e7, q_lt (x := nI n), lt, i_F, true_and, not_false_eq_true, i_T, q_b (f := p_X11_isOver _ _), q_isOver]
    by_cases hov : in9 x ∧ in9 y
    · rw [bI_f (fun z => z hov)]
      have e9' : (zpr S 70 (upd (S.1 70) t (nI (K - k)))).1 66 9 = rp := by simp only [zpi_d, zpl_d, zpr_1, zpr_2, zpq_1, zpq_2, zpr_o, zpq_o, Nat.reduceAdd, Nat.reduceEqDiff, Nat.reduceMul, reduceIte, ite_true, ite_false, if_true, if_false, reduceCtorEq, eq_self, iff_self, i_T, i_F, implies_true, false_and, and_false, ne_m5_m4, ne_m5_m3, ne_m5_m2, ne_m5_m1, ne_m5_0, ne_m5_1, ne_m5_2, ne_m5_3, ne_m4_m5, ne_m4_m3, ne_m4_m2, ne_m4_m1, ne_m4_0, ne_m4_1, ne_m4_2, ne_m4_3, ne_m3_m5, ne_m3_m4, ne_m3_m2, ne_m3_m1, ne_m3_0, ne_m3_1, ne_m3_2, ne_m3_3, ne_m2_m5, ne_m2_m4, ne_m2_m3, ne_m2_m1, ne_m2_0, ne_m2_1, ne_m2_2, ne_m2_3, ne_m1_m5, ne_m1_m4, ne_m1_m3, ne_m1_m2, ne_m1_0, ne_m1_1, ne_m1_2, ne_m1_3, ne_0_m5, ne_0_m4, ne_0_m3, ne_0_m2, ne_0_m1, ne_0_1, ne_0_2, ne_0_3, ne_1_m5, ne_1_m4, ne_1_m3, ne_1_m2, ne_1_m1, ne_1_0, ne_1_2, ne_1_3, ne_2_m5, ne_2_m4, ne_2_m3, ne_2_m2, ne_2_m1, ne_2_0, ne_2_1, ne_2_3, ne_3_m5, ne_3_m4, ne_3_m3, ne_3_m2, ne_3_m1, ne_3_0, ne_3_1, ne_3_2, le0_m5, lt0_m5, le0_m4, lt0_m4, le0_m3, lt0_m3, le0_m2, lt0_m2, le0_m1, lt0_m1, le0_0, lt0_0, le0_1, lt0_1, le0_2, lt0_2, le0_3, lt0_3, Nat.reduceLT, Nat.reduceLeDiff, ne_eq, not_true_eq_false, not_false_eq_true, true_and, and_true, Nat.succ_ne_self]; exact e9
      simp (disch := first | assumption | omega | rfl | (simp only [zpi_d, zpl_d, zpr_1, zpr_2, zpq_1, zpq_2, zpr_o, zpq_o, Nat.reduceAdd, Nat.reduceEqDiff, Nat.reduceMul, reduceIte, ite_true, ite_false, if_true, if_false, reduceCtorEq, eq_self, iff_self, i_T, i_F, implies_true, false_and, and_false, ne_m5_m4, ne_m5_m3, ne_m5_m2, ne_m5_m1, ne_m5_0, ne_m5_1, ne_m5_2, ne_m5_3, ne_m4_m5, ne_m4_m3, ne_m4_m2, ne_m4_m1, ne_m4_0, ne_m4_1, ne_m4_2, ne_m4_3, ne_m3_m5, ne_m3_m4, ne_m3_m2, ne_m3_m1, ne_m3_0, ne_m3_1, ne_m3_2, ne_m3_3, ne_m2_m5, ne_m2_m4, ne_m2_m3, ne_m2_m1, ne_m2_0, ne_m2_1, ne_m2_2, ne_m2_3, ne_m1_m5, ne_m1_m4, ne_m1_m3, ne_m1_m2, ne_m1_0, ne_m1_1, ne_m1_2, ne_m1_3, ne_0_m5, ne_0_m4, ne_0_m3, ne_0_m2, ne_0_m1, ne_0_1, ne_0_2, ne_0_3, ne_1_m5, ne_1_m4, ne_1_m3, ne_1_m2, ne_1_m1, ne_1_0, ne_1_2, ne_1_3, ne_2_m5, ne_2_m4, ne_2_m3, ne_2_m2, ne_2_m1, ne_2_0, ne_2_1, ne_2_3, ne_3_m5, ne_3_m4, ne_3_m3, ne_3_m2, ne_3_m1, ne_3_0, ne_3_1, ne_3_2, le0_m5, lt0_m5, le0_m4, lt0_m4, le0_m3, lt0_m3, le0_m2, lt0_m2, le0_m1, lt0_m1, le0_0, lt0_0, le0_1, lt0_1, le0_2, lt0_2, le0_3, lt0_3, Nat.reduceLT, Nat.reduceLeDiff, ne_eq, not_true_eq_false, not_false_eq_true, true_and, and_true, Nat.succ_ne_self, upd_ap] <;> assumption) | fail) only [q_eq, i_T, not_true_eq_false, i_F, and_true, e11, et, e10, pk_sub hk, q_asN, zpi_d, q_gi, zpi_d, zpl_d, zpr_1, zpr_2, zpq_1, zpq_2, zpr_o, zpq_o, Nat.reduceAdd, Nat.reduceEqDiff, Nat.reduceMul, reduceIte, ite_true, ite_false, if_true, if_false, reduceCtorEq, eq_self, iff_self, i_T, i_F, implies_true, false_and, and_false, ne_m5_m4, ne_m5_m3, ne_m5_m2, ne_m5_m1, ne_m5_0, ne_m5_1, ne_m5_2, ne_m5_3, ne_m4_m5, ne_m4_m3, ne_m4_m2, ne_m4_m1, ne_m4_0, ne_m4_1, ne_m4_2, ne_m4_3, ne_m3_m5, ne_m3_m4, ne_m3_m2, ne_m3_m1, ne_m3_0, ne_m3_1, ne_m3_2, ne_m3_3, ne_m2_m5, ne_m2_m4, ne_m2_m3, ne_m2_m1, ne_m2_0, ne_m2_1, ne_m2_2, ne_m2_3, ne_m1_m5, ne_m1_m4, ne_m1_m3, ne_m1_m2, ne_m1_0, ne_m1_1, ne_m1_2, ne_m1_3, ne_0_m5, ne_0_m4, ne_0_m3, ne_0_m2, ne_0_m1, ne_0_1, ne_0_2, ne_0_3, ne_1_m5, ne_1_m4, ne_1_m3, ne_1_m2, ne_1_m1, ne_1_0, ne_1_2, ne_1_3, ne_2_m5, ne_2_m4, ne_2_m3, ne_2_m2, ne_2_m1, ne_2_0, ne_2_1, ne_2_3, ne_3_m5, ne_3_m4, ne_3_m3, ne_3_m2, ne_3_m1, ne_3_0, ne_3_1, ne_3_2, le0_m5, lt0_m5, le0_m4, lt0_m4, le0_m3, lt0_m3, le0_m2, lt0_m2, le0_m1, lt0_m1, le0_0, lt0_0, le0_1, lt0_1, le0_2, lt0_2, le0_3, lt0_3, Nat.reduceLT, Nat.reduceLeDiff, ne_eq, not_true_eq_false, not_false_eq_true, true_and, and_true, Nat.succ_ne_self, e9, q_lt]
      unfold pf9
      by_cases hne : rp < zab x + zab y
      · simp only [hne, i_T, not_true_eq_false, i_F, and_true, q_rz0]
        exact ⟨f70_w, Or.inl ⟨trivial, fun _ _ => if_neg (fun z => z hne)⟩⟩
      · simp only [hne, i_F, true_and, not_false_eq_true, i_T, q_rz1]
        refine ⟨f70_w, Or.inr ⟨hov.1, hov.2, _, if_pos hne, fun j h1 h2 => ?_⟩⟩
        simp only [zpi_d, zpl_d, zpr_1, zpr_2, zpq_1, zpq_2, zpr_o, zpq_o, Nat.reduceAdd, Nat.reduceEqDiff, Nat.reduceMul, reduceIte, ite_true, ite_false, if_true, if_false, reduceCtorEq, eq_self, iff_self, i_T, i_F, implies_true, false_and, and_false, ne_m5_m4, ne_m5_m3, ne_m5_m2, ne_m5_m1, ne_m5_0, ne_m5_1, ne_m5_2, ne_m5_3, ne_m4_m5, ne_m4_m3, ne_m4_m2, ne_m4_m1, ne_m4_0, ne_m4_1, ne_m4_2, ne_m4_3, ne_m3_m5, ne_m3_m4, ne_m3_m2, ne_m3_m1, ne_m3_0, ne_m3_1, ne_m3_2, ne_m3_3, ne_m2_m5, ne_m2_m4, ne_m2_m3, ne_m2_m1, ne_m2_0, ne_m2_1, ne_m2_2, ne_m2_3, ne_m1_m5, ne_m1_m4, ne_m1_m3, ne_m1_m2, ne_m1_0, ne_m1_1, ne_m1_2, ne_m1_3, ne_0_m5, ne_0_m4, ne_0_m3, ne_0_m2, ne_0_m1, ne_0_1, ne_0_2, ne_0_3, ne_1_m5, ne_1_m4, ne_1_m3, ne_1_m2, ne_1_m1, ne_1_0, ne_1_2, ne_1_3, ne_2_m5, ne_2_m4, ne_2_m3, ne_2_m2, ne_2_m1, ne_2_0, ne_2_1, ne_2_3, ne_3_m5, ne_3_m4, ne_3_m3, ne_3_m2, ne_3_m1, ne_3_0, ne_3_1, ne_3_2, le0_m5, lt0_m5, le0_m4, lt0_m4, le0_m3, lt0_m3, le0_m2, lt0_m2, le0_m1, lt0_m1, le0_0, lt0_0, le0_1, lt0_1, le0_2, lt0_2, le0_3, lt0_3, Nat.reduceLT, Nat.reduceLeDiff, ne_eq, not_true_eq_false, not_false_eq_true, true_and, and_true, Nat.succ_ne_self, upd_ap]
        rw [if_pos (by omega)]
    · rw [bI_t hov]
      simp only [q_eq, ne_1_0, i_F, true_and, not_false_eq_true, i_T, q_rz0]
      exact ⟨f70_r, Or.inl (fun a b => absurd ⟨a, b⟩ hov)⟩
  | succ d ih =>
    intro t N ht hN k x y S hk hL e10 e11
    obtain ⟨M, rfl⟩ : ∃ M, N = M + 1 + 1 := ⟨N - 2, by omega⟩
    obtain ⟨e7, e8, e9, eL⟩ := id hL
    have lt : (nI n < nI t) = False := eq_false (by rw [nI_ltP (by omega) (by omega)]; omega)
    have et : (nI t = nI h) = False := eq_false (by rw [nI_eqP (by omega) (by omega)]; omega)
    have h7 : t < 7 := by omega
    show zq (p_X4_retraceFrom_s (p_X4_retraceFrom_g (M + 1)) (nI t) (nI k) x y) S _
    unfold p_X4_retraceFrom_s
    simp only [q_gi, e7, q_lt (x := nI n), lt, i_F, true_and, not_false_eq_true, i_T, q_b (f := p_X11_isOver _ _), q_isOver]
    by_cases hov : in9 x ∧ in9 y
    · rw [bI_f (fun z => z hov)]
      simp only [q_eq, i_T, not_true_eq_false, i_F, and_true, true_and, not_false_eq_true, q_gi, e11, et]
      obtain ⟨f, hf⟩ : ∃ f, f = (fun j => @ite _ (stp9 L ex sy t j x y) (Classical.propDecidable _) ((pf9 L ex sy rp K d (t + 1) j (x + ex t j) (y + sy t j)).map fun g i => if i = t then j - k else g i) none) := ⟨_, rfl⟩
      have hpf : pf9 L ex sy rp K (d + 1) t k x y = ffst f k (K + 1 - k) := by rw [hf]; rfl
      rw [hpf]
      have fT : ∀ j, stp9 L ex sy t j x y → f j = (pf9 L ex sy rp K d (t + 1) j (x + ex t j) (y + sy t j)).map fun g i => if i = t then j - k else g i := fun j z => by rw [hf]; exact if_pos z
      have fF : ∀ j, ¬ stp9 L ex sy t j x y → f j = none := fun j z => by rw [hf]; exact if_neg z
      refine q_for (A := Unit) (fun _ i => nI i) (K + 1) (fun _ i S1 => k ≤ i ∧ f70 t S S1 ∧ ffst f k (K + 1 - k) = ffst f i (K + 1 - i)) (by omega) ?_ ?_ () k S (by omega) ⟨Nat.le_refl _, f70_r, rfl⟩
      · rintro _ i S1 hi ⟨hki, hf1, hff⟩ rc next
        have lk : (nI K < nI i) = False := eq_false (by rw [nI_ltP (by omega) (by omega)]; omega)
        have e66 : S1.1 66 = S.1 66 := hf1.1 66 (by omega)
        obtain ⟨S2, hS2⟩ : ∃ S2, S2 = zpr S1 70 (upd (S1.1 70) t (nI (i - k))) := ⟨_, rfl⟩
        have hf2 : f70 t S S2 := by rw [hS2]; exact f70_t hf1 f70_w (Nat.le_refl _)
        have e702 : S2.1 70 t = nI (i - k) := by rw [hS2]; simp only [zpi_d, zpl_d, zpr_1, zpr_2, zpq_1, zpq_2, zpr_o, zpq_o, Nat.reduceAdd, Nat.reduceEqDiff, Nat.reduceMul, reduceIte, ite_true, ite_false, if_true, if_false, reduceCtorEq, eq_self, iff_self, i_T, i_F, implies_true, false_and, and_false, ne_m5_m4, ne_m5_m3, ne_m5_m2, ne_m5_m1, ne_m5_0, ne_m5_1, ne_m5_2, ne_m5_3, ne_m4_m5, ne_m4_m3, ne_m4_m2, ne_m4_m1, ne_m4_0, ne_m4_1, ne_m4_2, ne_m4_3, ne_m3_m5, ne_m3_m4, ne_m3_m2, ne_m3_m1, ne_m3_0, ne_m3_1, ne_m3_2, ne_m3_3, ne_m2_m5, ne_m2_m4, ne_m2_m3, ne_m2_m1, ne_m2_0, ne_m2_1, ne_m2_2, ne_m2_3, ne_m1_m5, ne_m1_m4, ne_m1_m3, ne_m1_m2, ne_m1_0, ne_m1_1, ne_m1_2, ne_m1_3, ne_0_m5, ne_0_m4, ne_0_m3, ne_0_m2, ne_0_m1, ne_0_1, ne_0_2, ne_0_3, ne_1_m5, ne_1_m4, ne_1_m3, ne_1_m2, ne_1_m1, ne_1_0, ne_1_2, ne_1_3, ne_2_m5, ne_2_m4, ne_2_m3, ne_2_m2, ne_2_m1, ne_2_0, ne_2_1, ne_2_3, ne_3_m5, ne_3_m4, ne_3_m3, ne_3_m2, ne_3_m1, ne_3_0, ne_3_1, ne_3_2, le0_m5, lt0_m5, le0_m4, lt0_m4, le0_m3, lt0_m3, le0_m2, lt0_m2, le0_m1, lt0_m1, le0_0, lt0_0, le0_1, lt0_1, le0_2, lt0_2, le0_3, lt0_3, Nat.reduceLT, Nat.reduceLeDiff, ne_eq, not_true_eq_false, not_false_eq_true, true_and, and_true, Nat.succ_ne_self, upd_ap]
        have hL2 : LX n mo rp L ex sy S2 := LX_c hL (fun j _ _ => by rw [hf2.1 66 (by omega)]) (hf2.1 67 (by omega)) (hf2.1 13 (by omega)) (hf2.1 14 (by omega))
        have e102 : S2.1 66 10 = nI K := by rw [hf2.1 66 (by omega)]; exact e10
        have e112 : S2.1 66 11 = nI h := by rw [hf2.1 66 (by omega)]; exact e11
        have hsi : K + 1 - i = (K - i) + 1 := by omega
        rw [p_X4_retraceFrom_b65]
        simp (disch := first | assumption | omega | rfl | (simp only [zpi_d, zpl_d, zpr_1, zpr_2, zpq_1, zpq_2, zpr_o, zpq_o, Nat.reduceAdd, Nat.reduceEqDiff, Nat.reduceMul, reduceIte, ite_true, ite_false, if_true, if_false, reduceCtorEq, eq_self, iff_self, i_T, i_F, implies_true, false_and, and_false, ne_m5_m4, ne_m5_m3, ne_m5_m2, ne_m5_m1, ne_m5_0, ne_m5_1, ne_m5_2, ne_m5_3, ne_m4_m5, ne_m4_m3, ne_m4_m2, ne_m4_m1, ne_m4_0, ne_m4_1, ne_m4_2, ne_m4_3, ne_m3_m5, ne_m3_m4, ne_m3_m2, ne_m3_m1, ne_m3_0, ne_m3_1, ne_m3_2, ne_m3_3, ne_m2_m5, ne_m2_m4, ne_m2_m3, ne_m2_m1, ne_m2_0, ne_m2_1, ne_m2_2, ne_m2_3, ne_m1_m5, ne_m1_m4, ne_m1_m3, ne_m1_m2, ne_m1_0, ne_m1_1, ne_m1_2, ne_m1_3, ne_0_m5, ne_0_m4, ne_0_m3, ne_0_m2, ne_0_m1, ne_0_1, ne_0_2, ne_0_3, ne_1_m5, ne_1_m4, ne_1_m3, ne_1_m2, ne_1_m1, ne_1_0, ne_1_2, ne_1_3, ne_2_m5, ne_2_m4, ne_2_m3, ne_2_m2, ne_2_m1, ne_2_0, ne_2_1, ne_2_3, ne_3_m5, ne_3_m4, ne_3_m3, ne_3_m2, ne_3_m1, ne_3_0, ne_3_1, ne_3_2, le0_m5, lt0_m5, le0_m4, lt0_m4, le0_m3, lt0_m3, le0_m2, lt0_m2, le0_m1, lt0_m1, le0_0, lt0_0, le0_1, lt0_1, le0_2, lt0_2, le0_3, lt0_3, Nat.reduceLT, Nat.reduceLeDiff, ne_eq, not_true_eq_false, not_false_eq_true, true_and, and_true, Nat.succ_ne_self, upd_ap] <;> assumption) | fail) only [q_gi, e66, e10, q_lt, lk, i_F, true_and, not_false_eq_true, i_T, pk_sub hki, q_asN, zpi_d, nI_1, ← hS2]
        rw [q_b]
        have hour : zq ((p_X4_retraceFrom_g (M + 1)).2 (nI t, nI i, x, y)) S2 (fun r S' => f70 (t + 1) S2 S' ∧ ((r = 0 ∧ f i = none) ∨ (r = 1 ∧ ∃ g, f i = some g ∧ ∀ j, t ≤ j → j ≤ h → S'.1 70 j = nI (g j)))) := by
          show zq (p_X4_retraceHour_s (p_X4_retraceFrom_g M) (nI t) (nI i) x y) S2 _
          obtain ⟨q1, hq, hh10, q2, q3, q4⟩ := hL2.2.2.2 t i (by omega) (by omega)
          have q5 := (hL2.2.2.2 (t + 1) i (by omega) (by omega)).1
          have h70 : (t + 1) * 10 + i < 70 := by omega
          have h70' : t * 10 + i < 70 := by omega
          unfold p_X4_retraceHour_s
          simp (disch := first | assumption | omega | rfl | (simp only [zpi_d, zpl_d, zpr_1, zpr_2, zpq_1, zpq_2, zpr_o, zpq_o, Nat.reduceAdd, Nat.reduceEqDiff, Nat.reduceMul, reduceIte, ite_true, ite_false, if_true, if_false, reduceCtorEq, eq_self, iff_self, i_T, i_F, implies_true, false_and, and_false, ne_m5_m4, ne_m5_m3, ne_m5_m2, ne_m5_m1, ne_m5_0, ne_m5_1, ne_m5_2, ne_m5_3, ne_m4_m5, ne_m4_m3, ne_m4_m2, ne_m4_m1, ne_m4_0, ne_m4_1, ne_m4_2, ne_m4_3, ne_m3_m5, ne_m3_m4, ne_m3_m2, ne_m3_m1, ne_m3_0, ne_m3_1, ne_m3_2, ne_m3_3, ne_m2_m5, ne_m2_m4, ne_m2_m3, ne_m2_m1, ne_m2_0, ne_m2_1, ne_m2_2, ne_m2_3, ne_m1_m5, ne_m1_m4, ne_m1_m3, ne_m1_m2, ne_m1_0, ne_m1_1, ne_m1_2, ne_m1_3, ne_0_m5, ne_0_m4, ne_0_m3, ne_0_m2, ne_0_m1, ne_0_1, ne_0_2, ne_0_3, ne_1_m5, ne_1_m4, ne_1_m3, ne_1_m2, ne_1_m1, ne_1_0, ne_1_2, ne_1_3, ne_2_m5, ne_2_m4, ne_2_m3, ne_2_m2, ne_2_m1, ne_2_0, ne_2_1, ne_2_3, ne_3_m5, ne_3_m4, ne_3_m3, ne_3_m2, ne_3_m1, ne_3_0, ne_3_1, ne_3_2, le0_m5, lt0_m5, le0_m4, lt0_m4, le0_m3, lt0_m3, le0_m2, lt0_m2, le0_m1, lt0_m1, le0_0, lt0_0, le0_1, lt0_1, le0_2, lt0_2, le0_3, lt0_3, Nat.reduceLT, Nat.reduceLeDiff, ne_eq, not_true_eq_false, not_false_eq_true, true_and, and_true, Nat.succ_ne_self, upd_ap] <;> assumption) | fail) only [nI_1, ix, q_alN, q1, q_b (f := p_X11_highBy _), q_highBy, q2, q5]
          by_cases hL0 : L (t + 1) i < 0
          · simp only [q_lt, hL0, i_T, not_true_eq_false, i_F, and_true, q_rz0]
            exact ⟨f70_r, Or.inl ⟨trivial, fF i (fun z => z.1 hL0)⟩⟩
          · simp (disch := first | assumption | omega | rfl | (simp only [zpi_d, zpl_d, zpr_1, zpr_2, zpq_1, zpq_2, zpr_o, zpq_o, Nat.reduceAdd, Nat.reduceEqDiff, Nat.reduceMul, reduceIte, ite_true, ite_false, if_true, if_false, reduceCtorEq, eq_self, iff_self, i_T, i_F, implies_true, false_and, and_false, ne_m5_m4, ne_m5_m3, ne_m5_m2, ne_m5_m1, ne_m5_0, ne_m5_1, ne_m5_2, ne_m5_3, ne_m4_m5, ne_m4_m3, ne_m4_m2, ne_m4_m1, ne_m4_0, ne_m4_1, ne_m4_2, ne_m4_3, ne_m3_m5, ne_m3_m4, ne_m3_m2, ne_m3_m1, ne_m3_0, ne_m3_1, ne_m3_2, ne_m3_3, ne_m2_m5, ne_m2_m4, ne_m2_m3, ne_m2_m1, ne_m2_0, ne_m2_1, ne_m2_2, ne_m2_3, ne_m1_m5, ne_m1_m4, ne_m1_m3, ne_m1_m2, ne_m1_0, ne_m1_1, ne_m1_2, ne_m1_3, ne_0_m5, ne_0_m4, ne_0_m3, ne_0_m2, ne_0_m1, ne_0_1, ne_0_2, ne_0_3, ne_1_m5, ne_1_m4, ne_1_m3, ne_1_m2, ne_1_m1, ne_1_0, ne_1_2, ne_1_3, ne_2_m5, ne_2_m4, ne_2_m3, ne_2_m2, ne_2_m1, ne_2_0, ne_2_1, ne_2_3, ne_3_m5, ne_3_m4, ne_3_m3, ne_3_m2, ne_3_m1, ne_3_0, ne_3_1, ne_3_2, le0_m5, lt0_m5, le0_m4, lt0_m4, le0_m3, lt0_m3, le0_m2, lt0_m2, le0_m1, lt0_m1, le0_0, lt0_0, le0_1, lt0_1, le0_2, lt0_2, le0_3, lt0_3, Nat.reduceLT, Nat.reduceLeDiff, ne_eq, not_true_eq_false, not_false_eq_true, true_and, and_true, Nat.succ_ne_self, upd_ap] <;> assumption) | fail) only [q_lt, hL0, i_F, true_and, not_false_eq_true, i_T, q_alN, q3, q4]
            rw [q_b]
            refine q_mono (ih (t + 1) M (by omega) (by omega) i (x + ex t i) (y + sy t i) S2 (by omega) hL2 e102 e112) ?_
            rintro r S3 ⟨a1, ⟨rfl, a2⟩ | ⟨rfl, a2, a3, g, a4, a5⟩⟩
            · simp only [q_eq, i_T, not_true_eq_false, i_F, and_true, q_rz0]
              refine ⟨a1, Or.inl ⟨trivial, ?_⟩⟩
              by_cases hs : stp9 L ex sy t i x y
              · rw [fT i hs, a2 hs.2.1 hs.2.2]; rfl
              · exact fF i hs
            · simp only [q_eq, ne_1_0, i_F, true_and, not_false_eq_true, i_T, q_rz1]
              refine ⟨a1, Or.inr ⟨fun j => if j = t then i - k else g j, ?_, fun j h1 h2 => ?_⟩⟩
              · rw [fT i ⟨hL0, a2, a3⟩, a4]; rfl
              · show S3.1 70 j = nI (if j = t then i - k else g j)
                by_cases e : j = t
                · rw [if_pos e, e, a1.2.2 t (Nat.lt_succ_self t), e702]
                · rw [if_neg e]; exact a5 j (by omega) h2
        refine q_mono hour ?_
        rintro r S3 ⟨a1, ⟨rfl, a2⟩ | ⟨rfl, g, a2, a3⟩⟩
        · simp only [q_eq, i_T, not_true_eq_false, i_F, and_true]
          refine next () S3 ⟨by omega, f70_t hf2 a1 (Nat.le_succ t), ?_⟩
          rw [hff, hsi, ffst_n a2, show K + 1 - (i + 1) = K - i by omega]
        · simp only [q_eq, ne_1_0, i_F, true_and, not_false_eq_true, i_T, q_rz1]
          refine ⟨f70_t hf2 a1 (Nat.le_succ t), Or.inr ⟨hov.1, hov.2, g, ?_, a3⟩⟩
          rw [hff, hsi, ffst_s a2]
      · rintro _ S1 ⟨hki, hf1, hff⟩ rc
        have lk : (nI K < nI (K + 1)) = True := eq_true (by rw [nI_ltP (by omega) (by omega)]; omega)
        have e66 : S1.1 66 = S.1 66 := hf1.1 66 (by omega)
        rw [p_X4_retraceFrom_b65]
        simp only [q_gi, e66, e10, q_lt, lk, i_T, not_true_eq_false, i_F, and_true, q_rz0]
        refine ⟨hf1, Or.inl ⟨trivial, fun _ _ => ?_⟩⟩
        rw [hff, Nat.sub_self]
        rfl
    · rw [bI_t hov]
      simp only [q_eq, ne_1_0, i_F, true_and, not_false_eq_true, i_T, q_rz0]
      exact ⟨f70_r, Or.inl (fun a b => absurd ⟨a, b⟩ hov)⟩
