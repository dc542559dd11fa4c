/-! ===== the class: which cells can be come to ===== -/
theorem q_seen {S : zS} {Q : Int32 → zS → Prop} {t g : Nat} {x y : Int32} (ht : t ≤ 6) (hg : g ≤ 9) (hx : in9 x) (hy : in9 y) : zq (p_X4_wasSeen (nI t) (nI g) x y) S Q = Q (if sn9 S t g (cN x y) = true then 1 else 0) (zpq S 69 (vp_updL (S.2 69) ((t * 10 + g) * 6 + cN x y / 64) (S.2 69 ((t * 10 + g) * 6 + cN x y / 64) ||| ((1 : Int64) <<< ((nI (cN x y) &&& (63 : Int32)).toInt64 &&& 63))))) := by
  have hq := cN_lt hx hy
  have ew : (((nI t * (10 : Int32)) + nI g) * (6 : Int32)) + nI (cN x y / 64) = nI ((t * 10 + g) * 6 + cN x y / 64) := by
    rw [show (10 : Int32) = nI 10 from rfl, show (6 : Int32) = nI 6 from rfl, pk_mul, nI_add, pk_mul, nI_add]
  have h420 : (t * 10 + g) * 6 + cN x y / 64 < 420 := by omega
  have l1 : (nI ((t * 10 + g) * 6 + cN x y / 64) < 420) = True := eq_true (by rw [show (420 : Int32) = nI 420 from rfl, nI_ltP (by omega) (by omega)]; exact h420)
  unfold p_X4_wasSeen
  rw [cN_e hx hy, q_shr6 _ hq, ew]
  simp (disch := first | assumption | omega | rfl | (simp only [zpi_d, zpl_d, zpr_1, zpr_2, zpq_1, zpq_2, zpr_o, zpq_o, Nat.reduceAdd, Nat.reduceEqDiff, Nat.reduceMul, reduceIte, ite_true, ite_false, if_true, if_false, reduceCtorEq, eq_self, iff_self, i_T, i_F, implies_true, false_and, and_false, ne_m5_m4, ne_m5_m3, ne_m5_m2, ne_m5_m1, ne_m5_0, ne_m5_1, ne_m5_2, ne_m5_3, ne_m4_m5, ne_m4_m3, ne_m4_m2, ne_m4_m1, ne_m4_0, ne_m4_1, ne_m4_2, ne_m4_3, ne_m3_m5, ne_m3_m4, ne_m3_m2, ne_m3_m1, ne_m3_0, ne_m3_1, ne_m3_2, ne_m3_3, ne_m2_m5, ne_m2_m4, ne_m2_m3, ne_m2_m1, ne_m2_0, ne_m2_1, ne_m2_2, ne_m2_3, ne_m1_m5, ne_m1_m4, ne_m1_m3, ne_m1_m2, ne_m1_0, ne_m1_1, ne_m1_2, ne_m1_3, ne_0_m5, ne_0_m4, ne_0_m3, ne_0_m2, ne_0_m1, ne_0_1, ne_0_2, ne_0_3, ne_1_m5, ne_1_m4, ne_1_m3, ne_1_m2, ne_1_m1, ne_1_0, ne_1_2, ne_1_3, ne_2_m5, ne_2_m4, ne_2_m3, ne_2_m2, ne_2_m1, ne_2_0, ne_2_1, ne_2_3, ne_3_m5, ne_3_m4, ne_3_m3, ne_3_m2, ne_3_m1, ne_3_0, ne_3_1, ne_3_2, le0_m5, lt0_m5, le0_m4, lt0_m4, le0_m3, lt0_m3, le0_m2, lt0_m2, le0_m1, lt0_m1, le0_0, lt0_0, le0_1, lt0_1, le0_2, lt0_2, le0_3, lt0_3, Nat.reduceLT, Nat.reduceLeDiff, ne_eq, not_true_eq_false, not_false_eq_true, true_and, and_true, Nat.succ_ne_self, upd_ap] <;> assumption) | fail) only [q_lt, nI_lt0, l1, i_F, i_T, true_and, and_true, not_true_eq_false, not_false_eq_true, q_allN, q_j, q_eq, q_aslN, zpl_d]
  rw [sn9_z hq]
  show ((sn9 S t g (cN x y) = false → _) ∧ (¬ sn9 S t g (cN x y) = false → _)) = _
  by_cases h : sn9 S t g (cN x y) = true
  · simp only [h, if_true, q_rz1, Bool.true_eq_false, i_F, true_and, not_false_eq_true, i_T]
  · have h : sn9 S t g (cN x y) = false := Bool.eq_false_iff.mpr h
    simp only [h, q_rz0, Bool.false_eq_true, if_false, i_F, and_true, not_true_eq_false, i_T]
def f9D (S S' : zS) : Prop := (∀ c, c ≠ 68 → S'.1 c = S.1 c) ∧ ∀ c, c ≠ 69 → S'.2 c = S.2 c
theorem f9D_t {S S1 S2 : zS} (h : f9D S S1) (g : f9D S1 S2) : f9D S S2 := ⟨fun c a => (g.1 c a).trans (h.1 c a), fun c a => (g.2 c a).trans (h.2 c a)⟩
theorem f9D_r {S : zS} : f9D S S := ⟨fun _ _ => rfl, fun _ _ => rfl⟩
def LX (n mo : Nat) (rp : Int32) (L ex sy : Nat → Nat → Int32) (S : zS) : Prop := S.1 66 7 = nI n ∧ S.1 66 8 = nI mo ∧ S.1 66 9 = rp ∧ ∀ t k, t ≤ n → k ≤ mo → S.1 67 (t * 10 + k) = L t k ∧ ∃ h, h < 10 ∧ hi (L t k) = nI h ∧ S.1 13 h = ex t k ∧ S.1 14 h = sy t k
theorem LX_c {n mo : Nat} {rp : Int32} {L ex sy : Nat → Nat → Int32} {S S' : zS} (h : LX n mo rp L ex sy S) (e : ∀ j, 7 ≤ j → j ≤ 9 → S'.1 66 j = S.1 66 j) (e2 : S'.1 67 = S.1 67) (e3 : S'.1 13 = S.1 13) (e4 : S'.1 14 = S.1 14) : LX n mo rp L ex sy S' := by
  unfold LX
  rw [e 7 (by omega) (by omega), e 8 (by omega) (by omega), e 9 (by omega) (by omega), e2, e3, e4]
  exact h
theorem LX_D {n mo : Nat} {rp : Int32} {L ex sy : Nat → Nat → Int32} {S S' : zS} (h : LX n mo rp L ex sy S) (f : f9D S S') : LX n mo rp L ex sy S' := LX_c h (fun j _ _ => by rw [f.1 66 (by omega)]) (f.1 67 (by omega)) (f.1 13 (by omega)) (f.1 14 (by omega))
section DFS
variable (n mo : Nat) (rp : Int32) (L ex sy : Nat → Nat → Int32) (x0 y0 : Int32)
/-- what is seen from time t on is closed -/
def Jc (t : Nat) (S : zS) : Prop := ∀ t' g x y, t ≤ t' → t' ≤ n → g ≤ mo → in9 x → in9 y → sn9 S t' g (cN x y) = true → (near9 rp x y → S.1 68 (t' * 10 + g) = 1) ∧ (t' < n → ∀ k, g ≤ k → k ≤ mo → stp9 L ex sy t' k x y → sn9 S (t' + 1) k (cN (x + ex t' k) (y + sy t' k)) = true)
/-- what is marked can be come to -/
def Js (S : zS) : Prop := ∀ t g, t ≤ n → g ≤ mo → S.1 68 (t * 10 + g) = 0 ∨ S.1 68 (t * 10 + g) = 1 ∧ ∃ x y, wy9 L ex sy t 0 0 x0 y0 g x y ∧ near9 rp x y
/-- more than before, and below t the same -/
def Jm (t : Nat) (S S' : zS) : Prop := (∀ t' g q, t' ≤ n → g ≤ mo → q < 361 → sn9 S t' g q = true → sn9 S' t' g q = true) ∧ (∀ t' g q, t' < t → g ≤ mo → q < 361 → sn9 S' t' g q = sn9 S t' g q) ∧ ∀ i, S.1 68 i = 1 → S'.1 68 i = 1
theorem Jm_r {n mo t : Nat} {S : zS} : Jm n mo t S S := ⟨fun _ _ _ _ _ _ h => h, fun _ _ _ _ _ _ => rfl, fun _ h => h⟩
theorem Jm_t {n mo t t' : Nat} {S S1 S2 : zS} (h : Jm n mo t S S1) (g : Jm n mo t' S1 S2) (ht : t ≤ t') : Jm n mo t S S2 := ⟨fun a b c d e f z => g.1 a b c d e f (h.1 a b c d e f z), fun a b c d e f => (g.2.1 a b c (by omega) e f).trans (h.2.1 a b c d e f), fun i z => g.2.2 i (h.2.2 i z)⟩
end DFS
theorem x_exploreB {n mo : Nat} {rp : Int32} {L ex sy : Nat → Nat → Int32} {x0 y0 : Int32} {t M g : Nat} {x y : Int32} {S : zS} (hn : n ≤ 6) (hmo : mo ≤ 9) (ht : t ≤ n) (hg : g ≤ mo) (hL : LX n mo rp L ex sy S) (hJ : Jc n mo rp L ex sy t S) (hJs : Js n mo rp L ex sy x0 y0 S) (hw : in9 x → in9 y → wy9 L ex sy t 0 0 x0 y0 g x y)
    (hop : in9 x → in9 y → t < n → ∀ (j : Nat) (S1 : zS), g ≤ j → j ≤ mo → LX n mo rp L ex sy S1 → Jc n mo rp L ex sy (t + 1) S1 → Js n mo rp L ex sy x0 y0 S1 → zq ((p_X4_explore_g M).2 (nI t, nI j, x, y)) S1 (fun _ S2 => f9D S1 S2 ∧ Jc n mo rp L ex sy (t + 1) S2 ∧ Js n mo rp L ex sy x0 y0 S2 ∧ Jm n mo (t + 1) S1 S2 ∧ (stp9 L ex sy t j x y → sn9 S2 (t + 1) j (cN (x + ex t j) (y + sy t j)) = true))) :
    zq (p_X4_explore_s (p_X4_explore_g M) (nI t) (nI g) x y) S (fun _ S' => f9D S S' ∧ Jc n mo rp L ex sy t S' ∧ Js n mo rp L ex sy x0 y0 S' ∧ Jm n mo t S S' ∧ (in9 x → in9 y → sn9 S' t g (cN x y) = true)) := by
  have e7 : S.1 66 7 = nI n := hL.1
  have e9 : S.1 66 9 = rp := hL.2.2.1
  have lt : (nI n < nI t) = False := eq_false (by rw [nI_ltP (by omega) (by omega)]; omega)
  unfold p_X4_explore_s
  simp only [q_gi, e7, q_lt, lt, i_F, true_and, not_false_eq_true, i_T, q_b (f := p_X11_isOver _ _), q_isOver]
  by_cases hov : in9 x ∧ in9 y
  · obtain ⟨hx, hy⟩ := hov
    have hq := cN_lt hx hy
    rw [bI_f (fun z => z ⟨hx, hy⟩)]
    simp only [q_eq (x := (0 : Int32)), i_T, not_true_eq_false, i_F, and_true, q_b (f := p_X4_wasSeen _ _ _ _), q_seen (show t ≤ 6 by omega) (show g ≤ 9 by omega) hx hy]
    obtain ⟨S1, hS1⟩ : ∃ S1, S1 = zpq S 69 (vp_updL (S.2 69) ((t * 10 + g) * 6 + cN x y / 64) (S.2 69 ((t * 10 + g) * 6 + cN x y / 64) ||| ((1 : Int64) <<< ((nI (cN x y) &&& (63 : Int32)).toInt64 &&& 63)))) := ⟨_, rfl⟩
    rw [← hS1]
    have hmk : ∀ {t' g' q'}, g' ≤ mo → q' < 361 → sn9 S1 t' g' q' = (sn9 S t' g' q' || decide (t' = t ∧ g' = g ∧ q' = cN x y)) := fun {t' g' q'} h1 h2 => sn9_mark (by omega) (by omega) hq h2 (by rw [hS1]; simp only [zpi_d, zpl_d, zpr_1, zpr_2, zpq_1, zpq_2, zpr_o, zpq_o, Nat.reduceAdd, Nat.reduceEqDiff, Nat.reduceMul, reduceIte, ite_true, ite_false, if_true, if_false, reduceCtorEq, eq_self, iff_self, i_T, i_F, implies_true, false_and, and_false, ne_m5_m4, ne_m5_m3, ne_m5_m2, ne_m5_m1, ne_m5_0, ne_m5_1, ne_m5_2, ne_m5_3, ne_m4_m5, ne_m4_m3, ne_m4_m2, ne_m4_m1, ne_m4_0, ne_m4_1, ne_m4_2, ne_m4_3, ne_m3_m5, ne_m3_m4, ne_m3_m2, ne_m3_m1, ne_m3_0, ne_m3_1, ne_m3_2, ne_m3_3, ne_m2_m5, ne_m2_m4, ne_m2_m3, ne_m2_m1, ne_m2_0, ne_m2_1, ne_m2_2, ne_m2_3, ne_m1_m5, ne_m1_m4, ne_m1_m3, ne_m1_m2, ne_m1_0, ne_m1_1, ne_m1_2, ne_m1_3, ne_0_m5, ne_0_m4, ne_0_m3, ne_0_m2, ne_0_m1, ne_0_1, ne_0_2, ne_0_3, ne_1_m5, ne_1_m4, ne_1_m3, ne_1_m2, ne_1_m1, ne_1_0, ne_1_2, ne_1_3, ne_2_m5, ne_2_m4, ne_2_m3, ne_2_m2, ne_2_m1, ne_2_0, ne_2_1, ne_2_3, ne_3_m5, ne_3_m4, ne_3_m3, ne_3_m2, ne_3_m1, ne_3_0, ne_3_1, ne_3_2, le0_m5, lt0_m5, le0_m4, lt0_m4, le0_m3, lt0_m3, le0_m2, lt0_m2, le0_m1, lt0_m1, le0_0, lt0_0, le0_1, lt0_1, le0_2, lt0_2, le0_3, lt0_3, Nat.reduceLT, Nat.reduceLeDiff, ne_eq, not_true_eq_false, not_false_eq_true, true_and, and_true, Nat.succ_ne_self]; rfl)
    have f1 : f9D S S1 := ⟨fun c a => by rw [hS1]; simp only [zpi_d, zpl_d, zpr_1, zpr_2, zpq_1, zpq_2, zpr_o, zpq_o, Nat.reduceAdd, Nat.reduceEqDiff, Nat.reduceMul, reduceIte, ite_true, ite_false, if_true, if_false, reduceCtorEq, eq_self, iff_self, i_T, i_F, implies_true, false_and, and_false, ne_m5_m4, ne_m5_m3, ne_m5_m2, ne_m5_m1, ne_m5_0, ne_m5_1, ne_m5_2, ne_m5_3, ne_m4_m5, ne_m4_m3, ne_m4_m2, ne_m4_m1, ne_m4_0, ne_m4_1, ne_m4_2, ne_m4_3, ne_m3_m5, ne_m3_m4, ne_m3_m2, ne_m3_m1, ne_m3_0, ne_m3_1, ne_m3_2, ne_m3_3, ne_m2_m5, ne_m2_m4, ne_m2_m3, ne_m2_m1, ne_m2_0, ne_m2_1, ne_m2_2, ne_m2_3, ne_m1_m5, ne_m1_m4, ne_m1_m3, ne_m1_m2, ne_m1_0, ne_m1_1, ne_m1_2, ne_m1_3, ne_0_m5, ne_0_m4, ne_0_m3, ne_0_m2, ne_0_m1, ne_0_1, ne_0_2, ne_0_3, ne_1_m5, ne_1_m4, ne_1_m3, ne_1_m2, ne_1_m1, ne_1_0, ne_1_2, ne_1_3, ne_2_m5, ne_2_m4, ne_2_m3, ne_2_m2, ne_2_m1, ne_2_0, ne_2_1, ne_2_3, ne_3_m5, ne_3_m4, ne_3_m3, ne_3_m2, ne_3_m1, ne_3_0, ne_3_1, ne_3_2, le0_m5, lt0_m5, le0_m4, lt0_m4, le0_m3, lt0_m3, le0_m2, lt0_m2, le0_m1, lt0_m1, le0_0, lt0_0, le0_1, lt0_1, le0_2, lt0_2, le0_3, lt0_3, Nat.reduceLT, Nat.reduceLeDiff, ne_eq, not_true_eq_false, not_false_eq_true, true_and, and_true, Nat.succ_ne_self], fun c a => by rw [hS1]; simp only [zpq_2, if_neg a]⟩
    have e68 : S1.1 68 = S.1 68 := by rw [hS1]; simp only [zpi_d, zpl_d, zpr_1, zpr_2, zpq_1, zpq_2, zpr_o, zpq_o, Nat.reduceAdd, Nat.reduceEqDiff, Nat.reduceMul, reduceIte, ite_true, ite_false, if_true, if_false, reduceCtorEq, eq_self, iff_self, i_T, i_F, implies_true, false_and, and_false, ne_m5_m4, ne_m5_m3, ne_m5_m2, ne_m5_m1, ne_m5_0, ne_m5_1, ne_m5_2, ne_m5_3, ne_m4_m5, ne_m4_m3, ne_m4_m2, ne_m4_m1, ne_m4_0, ne_m4_1, ne_m4_2, ne_m4_3, ne_m3_m5, ne_m3_m4, ne_m3_m2, ne_m3_m1, ne_m3_0, ne_m3_1, ne_m3_2, ne_m3_3, ne_m2_m5, ne_m2_m4, ne_m2_m3, ne_m2_m1, ne_m2_0, ne_m2_1, ne_m2_2, ne_m2_3, ne_m1_m5, ne_m1_m4, ne_m1_m3, ne_m1_m2, ne_m1_0, ne_m1_1, ne_m1_2, ne_m1_3, ne_0_m5, ne_0_m4, ne_0_m3, ne_0_m2, ne_0_m1, ne_0_1, ne_0_2, ne_0_3, ne_1_m5, ne_1_m4, ne_1_m3, ne_1_m2, ne_1_m1, ne_1_0, ne_1_2, ne_1_3, ne_2_m5, ne_2_m4, ne_2_m3, ne_2_m2, ne_2_m1, ne_2_0, ne_2_1, ne_2_3, ne_3_m5, ne_3_m4, ne_3_m3, ne_3_m2, ne_3_m1, ne_3_0, ne_3_1, ne_3_2, le0_m5, lt0_m5, le0_m4, lt0_m4, le0_m3, lt0_m3, le0_m2, lt0_m2, le0_m1, lt0_m1, le0_0, lt0_0, le0_1, lt0_1, le0_2, lt0_2, le0_3, lt0_3, Nat.reduceLT, Nat.reduceLeDiff, ne_eq, not_true_eq_false, not_false_eq_true, true_and, and_true, Nat.succ_ne_self]
    by_cases hs : sn9 S t g (cN x y) = true
    · have same : ∀ {t' g' q'}, g' ≤ mo → q' < 361 → sn9 S1 t' g' q' = sn9 S t' g' q' := fun {t' g' q'} h1 h2 => by
        rw [hmk h1 h2]
        by_cases e : t' = t ∧ g' = g ∧ q' = cN x y
        · obtain ⟨rfl, rfl, rfl⟩ := e
          rw [hs, Bool.true_or]
        · rw [decide_eq_false e, Bool.or_false]
      rw [if_pos hs]
      simp only [q_eq, ne_1_0, i_F, true_and, not_false_eq_true, i_T, q_ret]
      refine ⟨f1, fun t' g' x' y' h1 h2 h3 hx' hy' h4 => ?_, fun t' g' h1 h2 => by rw [e68]; exact hJs t' g' h1 h2, ⟨fun t' g' q h1 h2 h3 h4 => by rw [same h2 h3]; exact h4, fun t' g' q h1 h2 h3 => same h2 h3, fun i h => by rw [e68]; exact h⟩, fun _ _ => by rw [same hg hq]; exact hs⟩
      rw [same h3 (cN_lt hx' hy')] at h4
      obtain ⟨a, b⟩ := hJ t' g' x' y' h1 h2 h3 hx' hy' h4
      exact ⟨fun z => by rw [e68]; exact a z, fun z k k1 k2 k3 => by rw [same k2 (cN_lt k3.2.1 k3.2.2)]; exact b z k k1 k2 k3⟩
    · rw [if_neg hs]
      have ix : (nI t * (10 : Int32)) + nI g = nI (t * 10 + g) := by rw [show (10 : Int32) = nI 10 from rfl, pk_mul, nI_add]
      have e91 : S1.1 66 9 = rp := by rw [hS1]; simp only [zpi_d, zpl_d, zpr_1, zpr_2, zpq_1, zpq_2, zpr_o, zpq_o, Nat.reduceAdd, Nat.reduceEqDiff, Nat.reduceMul, reduceIte, ite_true, ite_false, if_true, if_false, reduceCtorEq, eq_self, iff_self, i_T, i_F, implies_true, false_and, and_false, ne_m5_m4, ne_m5_m3, ne_m5_m2, ne_m5_m1, ne_m5_0, ne_m5_1, ne_m5_2, ne_m5_3, ne_m4_m5, ne_m4_m3, ne_m4_m2, ne_m4_m1, ne_m4_0, ne_m4_1, ne_m4_2, ne_m4_3, ne_m3_m5, ne_m3_m4, ne_m3_m2, ne_m3_m1, ne_m3_0, ne_m3_1, ne_m3_2, ne_m3_3, ne_m2_m5, ne_m2_m4, ne_m2_m3, ne_m2_m1, ne_m2_0, ne_m2_1, ne_m2_2, ne_m2_3, ne_m1_m5, ne_m1_m4, ne_m1_m3, ne_m1_m2, ne_m1_0, ne_m1_1, ne_m1_2, ne_m1_3, ne_0_m5, ne_0_m4, ne_0_m3, ne_0_m2, ne_0_m1, ne_0_1, ne_0_2, ne_0_3, ne_1_m5, ne_1_m4, ne_1_m3, ne_1_m2, ne_1_m1, ne_1_0, ne_1_2, ne_1_3, ne_2_m5, ne_2_m4, ne_2_m3, ne_2_m2, ne_2_m1, ne_2_0, ne_2_1, ne_2_3, ne_3_m5, ne_3_m4, ne_3_m3, ne_3_m2, ne_3_m1, ne_3_0, ne_3_1, ne_3_2, le0_m5, lt0_m5, le0_m4, lt0_m4, le0_m3, lt0_m3, le0_m2, lt0_m2, le0_m1, lt0_m1, le0_0, lt0_0, le0_1, lt0_1, le0_2, lt0_2, le0_3, lt0_3, Nat.reduceLT, Nat.reduceLeDiff, ne_eq, not_true_eq_false, not_false_eq_true, true_and, and_true, Nat.succ_ne_self]; exact e9
      simp only [q_eq, i_F, and_true, not_true_eq_false, i_T, q_gi, q_j, e91, ix]
      -- the mark
      have go : ∀ S2 : zS, f9D S S2 → S2.2 69 = S1.2 69 → (∀ i, (i = t * 10 + g ∧ near9 rp x y → S2.1 68 i = 1) ∧ (¬ (i = t * 10 + g ∧ near9 rp x y) → S2.1 68 i = S.1 68 i)) → zq (zlp (p_X4_explore_b62 (nI t) x y (p_X4_explore_g M)) zNF (nI g) (fun e10 => zret ())) S2 (fun _ S' => f9D S S' ∧ Jc n mo rp L ex sy t S' ∧ Js n mo rp L ex sy x0 y0 S' ∧ Jm n mo t S S' ∧ (in9 x → in9 y → sn9 S' t g (cN x y) = true)) := by
        intro S2 f2 e69 m68
        have sn2 : ∀ {t' g' q'}, sn9 S2 t' g' q' = sn9 S1 t' g' q' := fun {t' g' q'} => by unfold sn9; rw [e69]
        have hm2 : Jm n mo t S S2 := ⟨fun t' g' q h1 h2 h3 h4 => by rw [sn2, hmk h2 h3, h4, Bool.true_or], fun t' g' q h1 h2 h3 => by rw [sn2, hmk h2 h3, decide_eq_false (by omega), Bool.or_false], fun i h => by
          by_cases e : i = t * 10 + g ∧ near9 rp x y
          · exact (m68 i).1 e
          · rw [(m68 i).2 e]; exact h⟩
        have hs2 : Js n mo rp L ex sy x0 y0 S2 := fun t' g' h1 h2 => by
          by_cases e : t' * 10 + g' = t * 10 + g ∧ near9 rp x y
          · rw [(m68 _).1 e]
            obtain ⟨rfl, rfl⟩ : t' = t ∧ g' = g := by omega
            exact Or.inr ⟨rfl, x, y, hw hx hy, e.2⟩
          · rw [(m68 _).2 e]
            exact hJs t' g' h1 h2
        -- after the hops: closed
        have fin : ∀ S3, f9D S S3 → Jc n mo rp L ex sy (t + 1) S3 → Js n mo rp L ex sy x0 y0 S3 → Jm n mo (t + 1) S2 S3 → (t < n → ∀ k, g ≤ k → k ≤ mo → stp9 L ex sy t k x y → sn9 S3 (t + 1) k (cN (x + ex t k) (y + sy t k)) = true) → f9D S S3 ∧ Jc n mo rp L ex sy t S3 ∧ Js n mo rp L ex sy x0 y0 S3 ∧ Jm n mo t S S3 ∧ (in9 x → in9 y → sn9 S3 t g (cN x y) = true) := by
          intro S3 f3 j3 s3 m3 c3
          have mm := Jm_t hm2 m3 (Nat.le_succ t)
          refine ⟨f3, fun t' g' x' y' h1 h2 h3 hx' hy' h4 => ?_, s3, mm, fun _ _ => ?_⟩
          · by_cases e : t' = t
            · subst e
              have hq' := cN_lt hx' hy'
              rw [m3.2.1 t' g' _ (by omega) h3 hq', sn2, hmk h3 hq', Bool.or_eq_true] at h4
              by_cases e2 : t' = t' ∧ g' = g ∧ cN x' y' = cN x y
              · obtain ⟨-, rfl, e2⟩ := e2
                obtain ⟨rfl, rfl⟩ := cN_inj hx' hy' hx hy e2
                exact ⟨fun z => m3.2.2 _ ((m68 _).1 ⟨rfl, z⟩), c3⟩
              · rw [decide_eq_false e2] at h4
                have h4 : sn9 S t' g' (cN x' y') = true := by
                  rcases h4 with z | z
                  · exact z
                  · cases z
                obtain ⟨a, b⟩ := hJ t' g' x' y' h1 h2 h3 hx' hy' h4
                exact ⟨fun z => mm.2.2 _ (a z), fun z k k1 k2 k3 => mm.1 _ _ _ (by omega) k2 (cN_lt k3.2.1 k3.2.2) (b z k k1 k2 k3)⟩
            · exact j3 t' g' x' y' (by omega) h2 h3 hx' hy' h4
          · rw [m3.2.1 t g _ (by omega) hg hq, sn2, hmk hg hq, decide_eq_true ⟨rfl, rfl, rfl⟩, Bool.or_true]
        have jt1 : Jc n mo rp L ex sy (t + 1) S2 := fun t' g' x' y' h1 h2 h3 hx' hy' h4 => by
          rw [sn2, hmk h3 (cN_lt hx' hy'), decide_eq_false (by omega), Bool.or_false] at h4
          obtain ⟨a, b⟩ := hJ t' g' x' y' (by omega) h2 h3 hx' hy' h4
          exact ⟨fun z => hm2.2.2 _ (a z), fun z k k1 k2 k3 => hm2.1 _ _ _ (by omega) k2 (cN_lt k3.2.1 k3.2.2) (b z k k1 k2 k3)⟩
        by_cases htn : t < n
        · have letn : (nI n ≤ nI t) = False := eq_false (by rw [nI_leP (by omega) (by omega)]; omega)
          refine q_for (A := Unit) (fun _ i => nI i) (mo + 1) (fun _ i S3 => g ≤ i ∧ f9D S S3 ∧ Jc n mo rp L ex sy (t + 1) S3 ∧ Js n mo rp L ex sy x0 y0 S3 ∧ Jm n mo (t + 1) S2 S3 ∧ ∀ k, g ≤ k → k < i → stp9 L ex sy t k x y → sn9 S3 (t + 1) k (cN (x + ex t k) (y + sy t k)) = true) (by omega) ?_ ?_ () g S2 (by omega) ⟨Nat.le_refl _, f2, jt1, hs2, Jm_r, fun k k1 k2 => by omega⟩
          · rintro _ i S3 hi ⟨hgi, f3, j3, s3, m3, c3⟩ rc next
            · have e73 : S3.1 66 7 = nI n := by rw [f3.1 66 (by omega)]; exact e7
              have e83 : S3.1 66 8 = nI mo := by rw [f3.1 66 (by omega)]; exact hL.2.1
              have lm : (nI mo < nI i) = False := eq_false (by rw [nI_ltP (by omega) (by omega)]; omega)
              unfold p_X4_explore_b62
              simp only [q_gi, e73, q_le, letn, i_F, true_and, not_false_eq_true, i_T, e83, q_lt, lm]
              rw [q_b]
              refine q_mono (hop hx hy htn i S3 hgi (by omega) (LX_D hL f3) j3 s3) ?_
              rintro _ S4 ⟨f4, j4, s4, m4, c4⟩
              rw [nI_1]
              refine next () S4 ⟨by omega, f9D_t f3 f4, j4, s4, Jm_t m3 m4 (Nat.le_refl _), fun k k1 k2 k3 => ?_⟩
              by_cases e : k = i
              · subst e; exact c4 k3
              · exact m4.1 _ _ _ (by omega) (by omega) (cN_lt k3.2.1 k3.2.2) (c3 k k1 (by omega) k3)
          · rintro _ S3 ⟨-, f3, j3, s3, m3, c3⟩ rc
            have e73 : S3.1 66 7 = nI n := by rw [f3.1 66 (by omega)]; exact e7
            have e83 : S3.1 66 8 = nI mo := by rw [f3.1 66 (by omega)]; exact hL.2.1
            have lm : (nI mo < nI (mo + 1)) = True := eq_true (by rw [nI_ltP (by omega) (by omega)]; omega)
            unfold p_X4_explore_b62
            simp only [q_gi, e73, q_le, letn, i_F, true_and, not_false_eq_true, i_T, e83, q_lt, lm, not_true_eq_false, and_true, q_ret]
            exact fin S3 f3 j3 s3 m3 (fun _ k k1 k2 k3 => c3 k k1 (by omega) k3)
        · have letn : (nI n ≤ nI t) = True := eq_true (by rw [nI_leP (by omega) (by omega)]; omega)
          refine q_zlp (fun N => ?_)
          unfold p_X4_explore_b62
          have e72 : S2.1 66 7 = nI n := by rw [f2.1 66 (by omega)]; exact e7
          simp only [q_gi, e72, q_le, letn, i_T, not_true_eq_false, i_F, and_true, q_ret]
          exact fin S2 f2 jt1 hs2 Jm_r (fun z => absurd z htn)
      by_cases hne : rp < zab x + zab y
      · simp only [q_lt, hne, i_T, not_true_eq_false, i_F, and_true]
        exact go S1 f1 rfl (fun i => ⟨fun z => absurd hne z.2, fun _ => by rw [e68]⟩)
      · simp only [q_lt, hne, i_F, true_and, not_false_eq_true, i_T]
        have e1 : vp_nar .boolean (1 : Int32) = 1 := rfl
        have h70 : t * 10 + g < 70 := by omega
        simp (disch := first | assumption | omega | rfl | (simp only [zpi_d, zpl_d, zpr_1, zpr_2, zpq_1, zpq_2, zpr_o, zpq_o, Nat.reduceAdd, Nat.reduceEqDiff, Nat.reduceMul, reduceIte, ite_true, ite_false, if_true, if_false, reduceCtorEq, eq_self, iff_self, i_T, i_F, implies_true, false_and, and_false, ne_m5_m4, ne_m5_m3, ne_m5_m2, ne_m5_m1, ne_m5_0, ne_m5_1, ne_m5_2, ne_m5_3, ne_m4_m5, ne_m4_m3, ne_m4_m2, ne_m4_m1, ne_m4_0, ne_m4_1, ne_m4_2, ne_m4_3, ne_m3_m5, ne_m3_m4, ne_m3_m2, ne_m3_m1, ne_m3_0, ne_m3_1, ne_m3_2, ne_m3_3, ne_m2_m5, ne_m2_m4, ne_m2_m3, ne_m2_m1, ne_m2_0, ne_m2_1, ne_m2_2, ne_m2_3, ne_m1_m5, ne_m1_m4, ne_m1_m3, ne_m1_m2, ne_m1_0, ne_m1_1, ne_m1_2, ne_m1_3, ne_0_m5, ne_0_m4, ne_0_m3, ne_0_m2, ne_0_m1, ne_0_1, ne_0_2, ne_0_3, ne_1_m5, ne_1_m4, ne_1_m3, ne_1_m2, ne_1_m1, ne_1_0, ne_1_2, ne_1_3, ne_2_m5, ne_2_m4, ne_2_m3, ne_2_m2, ne_2_m1, ne_2_0, ne_2_1, ne_2_3, ne_3_m5, ne_3_m4, ne_3_m3, ne_3_m2, ne_3_m1, ne_3_0, ne_3_1, ne_3_2, le0_m5, lt0_m5, le0_m4, lt0_m4, le0_m3, lt0_m3, le0_m2, lt0_m2, le0_m1, lt0_m1, le0_0, lt0_0, le0_1, lt0_1, le0_2, lt0_2, le0_3, lt0_3, Nat.reduceLT, Nat.reduceLeDiff, ne_eq, not_true_eq_false, not_false_eq_true, true_and, and_true, Nat.succ_ne_self, upd_ap] <;> assumption) | fail) only [q_asN, zpi_d]
        refine go _ ⟨fun c a => ?_, fun c a => ?_⟩ ?_ (fun i => ⟨fun z => ?_, fun z => ?_⟩)
        · simp only [zpi_d, zpl_d, zpr_1, zpr_2, zpq_1, zpq_2, zpr_o, zpq_o, Nat.reduceAdd, Nat.reduceEqDiff, Nat.reduceMul, reduceIte, ite_true, ite_false, if_true, if_false, reduceCtorEq, eq_self, iff_self, i_T, i_F, implies_true, false_and, and_false, ne_m5_m4, ne_m5_m3, ne_m5_m2, ne_m5_m1, ne_m5_0, ne_m5_1, ne_m5_2, ne_m5_3, ne_m4_m5, ne_m4_m3, ne_m4_m2, ne_m4_m1, ne_m4_0, ne_m4_1, ne_m4_2, ne_m4_3, ne_m3_m5, ne_m3_m4, ne_m3_m2, ne_m3_m1, ne_m3_0, ne_m3_1, ne_m3_2, ne_m3_3, ne_m2_m5, ne_m2_m4, ne_m2_m3, ne_m2_m1, ne_m2_0, ne_m2_1, ne_m2_2, ne_m2_3, ne_m1_m5, ne_m1_m4, ne_m1_m3, ne_m1_m2, ne_m1_0, ne_m1_1, ne_m1_2, ne_m1_3, ne_0_m5, ne_0_m4, ne_0_m3, ne_0_m2, ne_0_m1, ne_0_1, ne_0_2, ne_0_3, ne_1_m5, ne_1_m4, ne_1_m3, ne_1_m2, ne_1_m1, ne_1_0, ne_1_2, ne_1_3, ne_2_m5, ne_2_m4, ne_2_m3, ne_2_m2, ne_2_m1, ne_2_0, ne_2_1, ne_2_3, ne_3_m5, ne_3_m4, ne_3_m3, ne_3_m2, ne_3_m1, ne_3_0, ne_3_1, ne_3_2, le0_m5, lt0_m5, le0_m4, lt0_m4, le0_m3, lt0_m3, le0_m2, lt0_m2, le0_m1, lt0_m1, le0_0, lt0_0, le0_1, lt0_1, le0_2, lt0_2, le0_3, lt0_3, Nat.reduceLT, Nat.reduceLeDiff, ne_eq, not_true_eq_false, not_false_eq_true, true_and, and_true, Nat.succ_ne_self, if_neg a]; exact f1.1 c a
        · simp only [zpi_d, zpl_d, zpr_1, zpr_2, zpq_1, zpq_2, zpr_o, zpq_o, Nat.reduceAdd, Nat.reduceEqDiff, Nat.reduceMul, reduceIte, ite_true, ite_false, if_true, if_false, reduceCtorEq, eq_self, iff_self, i_T, i_F, implies_true, false_and, and_false, ne_m5_m4, ne_m5_m3, ne_m5_m2, ne_m5_m1, ne_m5_0, ne_m5_1, ne_m5_2, ne_m5_3, ne_m4_m5, ne_m4_m3, ne_m4_m2, ne_m4_m1, ne_m4_0, ne_m4_1, ne_m4_2, ne_m4_3, ne_m3_m5, ne_m3_m4, ne_m3_m2, ne_m3_m1, ne_m3_0, ne_m3_1, ne_m3_2, ne_m3_3, ne_m2_m5, ne_m2_m4, ne_m2_m3, ne_m2_m1, ne_m2_0, ne_m2_1, ne_m2_2, ne_m2_3, ne_m1_m5, ne_m1_m4, ne_m1_m3, ne_m1_m2, ne_m1_0, ne_m1_1, ne_m1_2, ne_m1_3, ne_0_m5, ne_0_m4, ne_0_m3, ne_0_m2, ne_0_m1, ne_0_1, ne_0_2, ne_0_3, ne_1_m5, ne_1_m4, ne_1_m3, ne_1_m2, ne_1_m1, ne_1_0, ne_1_2, ne_1_3, ne_2_m5, ne_2_m4, ne_2_m3, ne_2_m2, ne_2_m1, ne_2_0, ne_2_1, ne_2_3, ne_3_m5, ne_3_m4, ne_3_m3, ne_3_m2, ne_3_m1, ne_3_0, ne_3_1, ne_3_2, le0_m5, lt0_m5, le0_m4, lt0_m4, le0_m3, lt0_m3, le0_m2, lt0_m2, le0_m1, lt0_m1, le0_0, lt0_0, le0_1, lt0_1, le0_2, lt0_2, le0_3, lt0_3, Nat.reduceLT, Nat.reduceLeDiff, ne_eq, not_true_eq_false, not_false_eq_true, true_and, and_true, Nat.succ_ne_self]; exact f1.2 c a
        · simp only [zpi_d, zpl_d, zpr_1, zpr_2, zpq_1, zpq_2, zpr_o, zpq_o, Nat.reduceAdd, Nat.reduceEqDiff, Nat.reduceMul, reduceIte, ite_true, ite_false, if_true, if_false, reduceCtorEq, eq_self, iff_self, i_T, i_F, implies_true, false_and, and_false, ne_m5_m4, ne_m5_m3, ne_m5_m2, ne_m5_m1, ne_m5_0, ne_m5_1, ne_m5_2, ne_m5_3, ne_m4_m5, ne_m4_m3, ne_m4_m2, ne_m4_m1, ne_m4_0, ne_m4_1, ne_m4_2, ne_m4_3, ne_m3_m5, ne_m3_m4, ne_m3_m2, ne_m3_m1, ne_m3_0, ne_m3_1, ne_m3_2, ne_m3_3, ne_m2_m5, ne_m2_m4, ne_m2_m3, ne_m2_m1, ne_m2_0, ne_m2_1, ne_m2_2, ne_m2_3, ne_m1_m5, ne_m1_m4, ne_m1_m3, ne_m1_m2, ne_m1_0, ne_m1_1, ne_m1_2, ne_m1_3, ne_0_m5, ne_0_m4, ne_0_m3, ne_0_m2, ne_0_m1, ne_0_1, ne_0_2, ne_0_3, ne_1_m5, ne_1_m4, ne_1_m3, ne_1_m2, ne_1_m1, ne_1_0, ne_1_2, ne_1_3, ne_2_m5, ne_2_m4, ne_2_m3, ne_2_m2, ne_2_m1, ne_2_0, ne_2_1, ne_2_3, ne_3_m5, ne_3_m4, ne_3_m3, ne_3_m2, ne_3_m1, ne_3_0, ne_3_1, ne_3_2, le0_m5, lt0_m5, le0_m4, lt0_m4, le0_m3, lt0_m3, le0_m2, lt0_m2, le0_m1, lt0_m1, le0_0, lt0_0, le0_1, lt0_1, le0_2, lt0_2, le0_3, lt0_3, Nat.reduceLT, Nat.reduceLeDiff, ne_eq, not_true_eq_false, not_false_eq_true, true_and, and_true, Nat.succ_ne_self]
        · simp only [zpi_d, zpl_d, zpr_1, zpr_2, zpq_1, zpq_2, zpr_o, zpq_o, Nat.reduceAdd, Nat.reduceEqDiff, Nat.reduceMul, reduceIte, ite_true, ite_false, if_true, if_false, reduceCtorEq, eq_self, iff_self, i_T, i_F, implies_true, false_and, and_false, ne_m5_m4, ne_m5_m3, ne_m5_m2, ne_m5_m1, ne_m5_0, ne_m5_1, ne_m5_2, ne_m5_3, ne_m4_m5, ne_m4_m3, ne_m4_m2, ne_m4_m1, ne_m4_0, ne_m4_1, ne_m4_2, ne_m4_3, ne_m3_m5, ne_m3_m4, ne_m3_m2, ne_m3_m1, ne_m3_0, ne_m3_1, ne_m3_2, ne_m3_3, ne_m2_m5, ne_m2_m4, ne_m2_m3, ne_m2_m1, ne_m2_0, ne_m2_1, ne_m2_2, ne_m2_3, ne_m1_m5, ne_m1_m4, ne_m1_m3, ne_m1_m2, ne_m1_0, ne_m1_1, ne_m1_2, ne_m1_3, ne_0_m5, ne_0_m4, ne_0_m3, ne_0_m2, ne_0_m1, ne_0_1, ne_0_2, ne_0_3, ne_1_m5, ne_1_m4, ne_1_m3, ne_1_m2, ne_1_m1, ne_1_0, ne_1_2, ne_1_3, ne_2_m5, ne_2_m4, ne_2_m3, ne_2_m2, ne_2_m1, ne_2_0, ne_2_1, ne_2_3, ne_3_m5, ne_3_m4, ne_3_m3, ne_3_m2, ne_3_m1, ne_3_0, ne_3_1, ne_3_2, le0_m5, lt0_m5, le0_m4, lt0_m4, le0_m3, lt0_m3, le0_m2, lt0_m2, le0_m1, lt0_m1, le0_0, lt0_0, le0_1, lt0_1, le0_2, lt0_2, le0_3, lt0_3, Nat.reduceLT, Nat.reduceLeDiff, ne_eq, not_true_eq_false, not_false_eq_true, true_and, and_true, Nat.succ_ne_self, upd_ap]; rw [if_pos z.1]; exact e1
        · simp only [zpi_d, zpl_d, zpr_1, zpr_2, zpq_1, zpq_2, zpr_o, zpq_o, Nat.reduceAdd, Nat.reduceEqDiff, Nat.reduceMul, reduceIte, ite_true, ite_false, if_true, if_false, reduceCtorEq, eq_self, iff_self, i_T, i_F, implies_true, false_and, and_false, ne_m5_m4, ne_m5_m3, ne_m5_m2, ne_m5_m1, ne_m5_0, ne_m5_1, ne_m5_2, ne_m5_3, ne_m4_m5, ne_m4_m3, ne_m4_m2, ne_m4_m1, ne_m4_0, ne_m4_1, ne_m4_2, ne_m4_3, ne_m3_m5, ne_m3_m4, ne_m3_m2, ne_m3_m1, ne_m3_0, ne_m3_1, ne_m3_2, ne_m3_3, ne_m2_m5, ne_m2_m4, ne_m2_m3, ne_m2_m1, ne_m2_0, ne_m2_1, ne_m2_2, ne_m2_3, ne_m1_m5, ne_m1_m4, ne_m1_m3, ne_m1_m2, ne_m1_0, ne_m1_1, ne_m1_2, ne_m1_3, ne_0_m5, ne_0_m4, ne_0_m3, ne_0_m2, ne_0_m1, ne_0_1, ne_0_2, ne_0_3, ne_1_m5, ne_1_m4, ne_1_m3, ne_1_m2, ne_1_m1, ne_1_0, ne_1_2, ne_1_3, ne_2_m5, ne_2_m4, ne_2_m3, ne_2_m2, ne_2_m1, ne_2_0, ne_2_1, ne_2_3, ne_3_m5, ne_3_m4, ne_3_m3, ne_3_m2, ne_3_m1, ne_3_0, ne_3_1, ne_3_2, le0_m5, lt0_m5, le0_m4, lt0_m4, le0_m3, lt0_m3, le0_m2, lt0_m2, le0_m1, lt0_m1, le0_0, lt0_0, le0_1, lt0_1, le0_2, lt0_2, le0_3, lt0_3, Nat.reduceLT, Nat.reduceLeDiff, ne_eq, not_true_eq_false, not_false_eq_true, true_and, and_true, Nat.succ_ne_self, upd_ap]
          rw [if_neg (fun w => z ⟨w, hne⟩), e68]
  · rw [bI_t hov]
    simp only [q_eq, ne_1_0, i_F, true_and, not_false_eq_true, i_T, q_ret]
    exact ⟨f9D_r, hJ, hJs, Jm_r, fun a b => absurd ⟨a, b⟩ hov⟩
theorem x_explore {n mo : Nat} {rp : Int32} {L ex sy : Nat → Nat → Int32} {x0 y0 : Int32} (hn : n ≤ 6) (hmo : mo ≤ 9) : ∀ d t N, t + d = n → 2 * d + 2 ≤ N → ∀ (g : Nat) (x y : Int32) (S : zS), g ≤ mo → LX n mo rp L ex sy S → Jc n mo rp L ex sy t S → Js n mo rp L ex sy x0 y0 S → (in9 x → in9 y → wy9 L ex sy t 0 0 x0 y0 g x y) →
    zq ((p_X4_explore_g N).1 (nI t, nI g, x, y)) S (fun _ S' => f9D S S' ∧ Jc n mo rp L ex sy t S' ∧ Js n mo rp L ex sy x0 y0 S' ∧ Jm n mo t S S' ∧ (in9 x → in9 y → sn9 S' t g (cN x y) = true)) := by
  intro d
  induction d with
  | zero =>
    intro t N ht hN g x y S hg hL hJ hJs hw
    obtain ⟨M, rfl⟩ : ∃ M, N = M + 1 := ⟨N - 1, by omega⟩
    exact x_exploreB (M := M) hn hmo (by omega) hg hL hJ hJs hw (fun _ _ h => absurd h (by omega))
  | succ d ih =>
    intro t N ht hN g x y S hg hL hJ hJs hw
    obtain ⟨M, rfl⟩ : ∃ M, N = M + 1 + 1 := ⟨N - 2, by omega⟩
    refine x_exploreB (M := M + 1) hn hmo (by omega) hg hL hJ hJs hw (fun hx hy _ j S1 hj1 hj2 hL1 hJ1 hJs1 => ?_)
    show zq (p_X4_exploreHour_s (p_X4_explore_g M) (nI t) (nI j) x y) S1 _
    have ix : ∀ a : Nat, (nI a * (10 : Int32)) + nI j = nI (a * 10 + j) := fun a => by rw [show (10 : Int32) = nI 10 from rfl, pk_mul, nI_add]
    obtain ⟨q1, h, hh, q2, q3, q4⟩ := hL1.2.2.2 t j (by omega) hj2
    have q5 := (hL1.2.2.2 (t + 1) j (by omega) hj2).1
    have h70 : (t + 1) * 10 + j < 70 := by omega
    have h70' : t * 10 + j < 70 := by omega
    unfold p_X4_exploreHour_s
    simp (disch := first | assumption | omega | rfl | (simp only [zpi_d, zpl_d, zpr_1, zpr_2, zpq_1, zpq_2, zpr_o, zpq_o, Nat.reduceAdd, Nat.reduceEqDiff, Nat.reduceMul, reduceIte, ite_true, ite_false, if_true, if_false, reduceCtorEq, eq_self, iff_self, i_T, i_F, implies_true, false_and, and_false, ne_m5_m4, ne_m5_m3, ne_m5_m2, ne_m5_m1, ne_m5_0, ne_m5_1, ne_m5_2, ne_m5_3, ne_m4_m5, ne_m4_m3, ne_m4_m2, ne_m4_m1, ne_m4_0, ne_m4_1, ne_m4_2, ne_m4_3, ne_m3_m5, ne_m3_m4, ne_m3_m2, ne_m3_m1, ne_m3_0, ne_m3_1, ne_m3_2, ne_m3_3, ne_m2_m5, ne_m2_m4, ne_m2_m3, ne_m2_m1, ne_m2_0, ne_m2_1, ne_m2_2, ne_m2_3, ne_m1_m5, ne_m1_m4, ne_m1_m3, ne_m1_m2, ne_m1_0, ne_m1_1, ne_m1_2, ne_m1_3, ne_0_m5, ne_0_m4, ne_0_m3, ne_0_m2, ne_0_m1, ne_0_1, ne_0_2, ne_0_3, ne_1_m5, ne_1_m4, ne_1_m3, ne_1_m2, ne_1_m1, ne_1_0, ne_1_2, ne_1_3, ne_2_m5, ne_2_m4, ne_2_m3, ne_2_m2, ne_2_m1, ne_2_0, ne_2_1, ne_2_3, ne_3_m5, ne_3_m4, ne_3_m3, ne_3_m2, ne_3_m1, ne_3_0, ne_3_1, ne_3_2, le0_m5, lt0_m5, le0_m4, lt0_m4, le0_m3, lt0_m3, le0_m2, lt0_m2, le0_m1, lt0_m1, le0_0, lt0_0, le0_1, lt0_1, le0_2, lt0_2, le0_3, lt0_3, Nat.reduceLT, Nat.reduceLeDiff, ne_eq, not_true_eq_false, not_false_eq_true, true_and, and_true, Nat.succ_ne_self, upd_ap] <;> assumption) | fail) only [nI_1, ix, q_alN, q5]
    by_cases hL0 : L (t + 1) j < 0
    · simp only [q_lt, hL0, i_T, not_true_eq_false, i_F, and_true, q_ret]
      exact ⟨f9D_r, hJ1, hJs1, Jm_r, fun z => absurd hL0 z.1⟩
    · simp (disch := first | assumption | omega | rfl | (simp only [zpi_d, zpl_d, zpr_1, zpr_2, zpq_1, zpq_2, zpr_o, zpq_o, Nat.reduceAdd, Nat.reduceEqDiff, Nat.reduceMul, reduceIte, ite_true, ite_false, if_true, if_false, reduceCtorEq, eq_self, iff_self, i_T, i_F, implies_true, false_and, and_false, ne_m5_m4, ne_m5_m3, ne_m5_m2, ne_m5_m1, ne_m5_0, ne_m5_1, ne_m5_2, ne_m5_3, ne_m4_m5, ne_m4_m3, ne_m4_m2, ne_m4_m1, ne_m4_0, ne_m4_1, ne_m4_2, ne_m4_3, ne_m3_m5, ne_m3_m4, ne_m3_m2, ne_m3_m1, ne_m3_0, ne_m3_1, ne_m3_2, ne_m3_3, ne_m2_m5, ne_m2_m4, ne_m2_m3, ne_m2_m1, ne_m2_0, ne_m2_1, ne_m2_2, ne_m2_3, ne_m1_m5, ne_m1_m4, ne_m1_m3, ne_m1_m2, ne_m1_0, ne_m1_1, ne_m1_2, ne_m1_3, ne_0_m5, ne_0_m4, ne_0_m3, ne_0_m2, ne_0_m1, ne_0_1, ne_0_2, ne_0_3, ne_1_m5, ne_1_m4, ne_1_m3, ne_1_m2, ne_1_m1, ne_1_0, ne_1_2, ne_1_3, ne_2_m5, ne_2_m4, ne_2_m3, ne_2_m2, ne_2_m1, ne_2_0, ne_2_1, ne_2_3, ne_3_m5, ne_3_m4, ne_3_m3, ne_3_m2, ne_3_m1, ne_3_0, ne_3_1, ne_3_2, le0_m5, lt0_m5, le0_m4, lt0_m4, le0_m3, lt0_m3, le0_m2, lt0_m2, le0_m1, lt0_m1, le0_0, lt0_0, le0_1, lt0_1, le0_2, lt0_2, le0_3, lt0_3, Nat.reduceLT, Nat.reduceLeDiff, ne_eq, not_true_eq_false, not_false_eq_true, true_and, and_true, Nat.succ_ne_self, upd_ap] <;> assumption) | fail) only [q_lt, hL0, i_F, true_and, not_false_eq_true, i_T, q_alN, q1, q_b (f := p_X11_highBy _), q_highBy, q2, q3, q4]
      rw [q_b]
      refine q_mono (ih (t + 1) M (by omega) (by omega) j (x + ex t j) (y + sy t j) S1 hj2 hL1 hJ1 hJs1 (fun hx' hy' => ?_)) ?_
      · have := wy9_snoc (hw hx hy) hj1 (j := j) (by rw [Nat.zero_add]; exact ⟨hL0, hx', hy'⟩)
        rw [Nat.zero_add] at this
        exact this
      · rintro _ S2 ⟨a1, a2, a3, a4, a5⟩
        rw [q_ret]
        exact ⟨a1, a2, a3, a4, fun z => a5 z.2.1 z.2.2⟩
/-- what is closed from the start on holds every way -/
theorem Jc_way {n mo : Nat} {rp : Int32} {L ex sy : Nat → Nat → Int32} {S : zS} (hJ : Jc n mo rp L ex sy 0 S) : ∀ {d t k : Nat} {x y : Int32} {g : Nat} {x' y' : Int32}, wy9 L ex sy d t k x y g x' y' → t + d ≤ n → g ≤ mo → in9 x → in9 y → sn9 S t k (cN x y) = true → near9 rp x' y' → S.1 68 ((t + d) * 10 + g) = 1
  | 0, t, k, x, y, g, x', y', ⟨e1, e2, e3⟩, ht, hg, hx, hy, hs, hne => by
    subst e1 e2 e3
    exact (hJ t g x' y' (by omega) (by omega) hg hx hy hs).1 hne
  | d + 1, t, k, x, y, g, x', y', ⟨j, h1, h2, h3⟩, ht, hg, hx, hy, hs, hne => by
    have hj := wy9_le h3
    have := (hJ t k x y (by omega) (by omega) (by omega) hx hy hs).2 (by omega) j h1 (by omega) h2
    rw [show t + (d + 1) = t + 1 + d by omega]
    exact Jc_way hJ h3 (by omega) hg h2.2.1 h2.2.2 this hne
