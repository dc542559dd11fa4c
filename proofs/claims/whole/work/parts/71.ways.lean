/-! ===== the class's recursion ===== -/
theorem nI_plus (a : Nat) : ∀ b : Nat, nI a + nI b = nI (a + b)
  | 0 => by rw [show nI 0 = 0 from rfl, Int32.add_zero]; rfl
  | b + 1 => by rw [← nI_1, ← Int32.add_assoc, nI_plus a b, nI_1]; rfl
theorem accf_stop {T : zS} {A : Int32} {b : Nat} {g : Bool} {f : (Nat → Nat) → bSt → bSt} {pl : Nat → Nat} {s : bSt} {j : Nat} (h : g = true ∧ 0 < (accf (bstp T A b g f pl) j s).1) : ∀ d, accf (bstp T A b g f pl) (j + d) s = accf (bstp T A b g f pl) j s
  | 0 => rfl
  | d + 1 => by
    have e := accf_stop h d
    show bstp T A b g f pl (j + d) (accf (bstp T A b g f pl) (j + d) s) = _
    rw [e, bstp_f (fun z => z.2 h)]
theorem accf_last {T : zS} {A : Int32} {b m R d : Nat} {pl q : Nat → Nat} {s : bSt} {w : Int32} (hg : s.2 = some q) (hw : ∀ j, j < 32 → (bt w j = true ↔ j < R ∧ okq T A b j pl b)) (hR : R ≤ 8) (hd : d ≤ m) (hl : ∀ c, m - d ≤ c → c < m → ¬ bt A c = true) : ∀ k, k ≤ R → accf (bstp T A b false (brs T A m R false d) pl) k s = (s.1 + fa_cnt (bt w) k, some q)
  | 0, _ => by show s = _; rw [← hg]; rfl
  | k + 1, hk => by
    show bstp T A b false (brs T A m R false d) pl k (accf (bstp T A b false (brs T A m R false d) pl) k s) = _
    rw [accf_last hg hw hR hd hl k (by omega), fa_cnt]
    by_cases h : okq T A b k pl b
    · rw [bstp_t ⟨h, fun z => absurd z.1 (by decide)⟩, brs_none d _ _ hd hl, if_pos ((hw k (by omega)).mpr ⟨by omega, h⟩)]
      rfl
    · rw [bstp_f (fun z => h z.1), if_neg (fun z => h ((hw k (by omega)).mp z).2)]
      rfl
theorem bc_R {w : Int32} {R : Nat} {P : Nat → Prop} (hR : R ≤ 8) (hw : ∀ j, j < 32 → (bt w j = true ↔ j < R ∧ P j)) : BC w = nI (fa_cnt (bt w) R) := by
  have h8 : ∀ j, R ≤ j → bt w j = false := fun j hj => by
    by_cases h : j < 32
    · exact Bool.eq_false_iff.mpr (fun z => by have := ((hw j h).mp z).1; omega)
    · exact b_big (by omega)
  rw [bc_of (p := bt w) (fun j _ => rfl) (fun j hj => h8 j (by omega)), ← cnt_68 h8 (8 - R), show R + (8 - R) = 8 by omega]
/-- what stays between two steps -/
def fK (K : Nat) (S S' : zS) : Prop := fA S S' ∧ S'.1 62 6 = S.1 62 6 ∧ S'.1 63 = S.1 63 ∧ ∀ k, k < K → S'.1 64 k = S.1 64 k
theorem fK_t {K K' : Nat} {S S1 S2 : zS} (h : fK K S S1) (g : fK K' S1 S2) (hk : K ≤ K') : fK K S S2 := ⟨fA_t h.1 g.1, g.2.1.trans h.2.1, g.2.2.1.trans h.2.2.1, fun k hk' => (g.2.2.2 k (by omega)).trans (h.2.2.2 k hk')⟩
theorem fK_r {K : Nat} {S : zS} : fK K S S := ⟨fA_r, rfl, rfl, fun _ _ => rfl⟩
theorem x_leaf {m R : Nat} {T : zS} {A : Int32} {g : Bool} {pl : Nat → Nat} {s : bSt} {S1 : zS} {N : Nat} {w : Int32} (hm : m ≤ 6) (e6 : S1.1 62 6 = nI (cA A m)) (hp : ∀ c, c < m → bt A c = true → S1.1 64 (cA A c) = nI (pl c)) (hS : XS A m s S1) : zq ((p_X2_waysFrom_g (N + 1)).1 (nI (cA A m), w)) S1 (fun r S2 => fK (cA A m) S1 S2 ∧ XS A m (brs T A m R g 0 pl s) S2 ∧ ∃ c, r = nI c ∧ (brs T A m R g 0 pl s).1 = s.1 + c) := by
  obtain ⟨s1, s2, s3⟩ := hS
  have hc6 : cA A m ≤ 6 := Nat.le_trans cA_le hm
  have nl : ¬ nI (cA A m) < nI (cA A m) := nI_nlt (a := cA A m) (b := cA A m) (by omega) (by omega)
  simp only [p_X2_waysFrom_g, p_X2_waysFrom_s, q_gi, q_lt, q_eq, e6, nl, i_F, i_T, true_and, and_true, not_false_eq_true, not_true_eq_false, brs]
  by_cases h0 : s.1 = 0
  · have en : s.2 = none := s2.mpr h0
    rw [if_pos h0] at s1
    simp (disch := first | assumption | omega | rfl | (simp only [zpi_d, zpl_d, zpr_1, zpr_2, zpq_1, zpq_2, zpr_o, zpq_o, Nat.reduceAdd, Nat.reduceEqDiff, Nat.reduceMul, reduceIte, ite_true, ite_false, if_true, if_false, reduceCtorEq, eq_self, iff_self, i_T, i_F, implies_true, false_and, and_false, ne_m5_m4, ne_m5_m3, ne_m5_m2, ne_m5_m1, ne_m5_0, ne_m5_1, ne_m5_2, ne_m5_3, ne_m4_m5, ne_m4_m3, ne_m4_m2, ne_m4_m1, ne_m4_0, ne_m4_1, ne_m4_2, ne_m4_3, ne_m3_m5, ne_m3_m4, ne_m3_m2, ne_m3_m1, ne_m3_0, ne_m3_1, ne_m3_2, ne_m3_3, ne_m2_m5, ne_m2_m4, ne_m2_m3, ne_m2_m1, ne_m2_0, ne_m2_1, ne_m2_2, ne_m2_3, ne_m1_m5, ne_m1_m4, ne_m1_m3, ne_m1_m2, ne_m1_0, ne_m1_1, ne_m1_2, ne_m1_3, ne_0_m5, ne_0_m4, ne_0_m3, ne_0_m2, ne_0_m1, ne_0_1, ne_0_2, ne_0_3, ne_1_m5, ne_1_m4, ne_1_m3, ne_1_m2, ne_1_m1, ne_1_0, ne_1_2, ne_1_3, ne_2_m5, ne_2_m4, ne_2_m3, ne_2_m2, ne_2_m1, ne_2_0, ne_2_1, ne_2_3, ne_3_m5, ne_3_m4, ne_3_m3, ne_3_m2, ne_3_m1, ne_3_0, ne_3_1, ne_3_2, le0_m5, lt0_m5, le0_m4, lt0_m4, le0_m3, lt0_m3, le0_m2, lt0_m2, le0_m1, lt0_m1, le0_0, lt0_0, le0_1, lt0_1, le0_2, lt0_2, le0_3, lt0_3, Nat.reduceLT, Nat.reduceLeDiff, ne_eq, not_true_eq_false, not_false_eq_true, true_and, and_true, Nat.succ_ne_self, upd_ap] <;> assumption) | fail) only [q_ret, q_gi, q_gl, q_si, q_sl, q_j, q_b, q_eq, q_lt, q_le, q_nz2, q_nz8, q_nz10, q_nz16, q_nz24, q_rz0, q_rz1, q_rzb, i_T, i_F, not_true_eq_false, not_false_eq_true, true_and, and_true, implies_true, q_al_0, q_al_1, q_al_2, q_al_3, q_al_4, q_al_5, q_al_6, q_al_7, q_as_0, q_as_1, q_as_2, q_as_3, q_as_4, q_as_5, q_as_6, q_as_7, q_a42, q_s42, q_alN, q_asN, q_allN, q_aslN, q_am_0, q_am_1, q_am_2, q_am_3, q_am_4, q_am_5, q_am_6, q_ms_0, q_ms_1, q_ms_2, q_ms_3, q_ms_4, q_ms_5, q_ms_6, zpi_d, zpl_d, zpr_1, zpr_2, zpq_1, zpq_2, zpr_o, zpq_o, Nat.reduceAdd, Nat.reduceEqDiff, Nat.reduceMul, reduceIte, ite_true, ite_false, if_true, if_false, reduceCtorEq, eq_self, iff_self, i_T, i_F, implies_true, false_and, and_false, ne_m5_m4, ne_m5_m3, ne_m5_m2, ne_m5_m1, ne_m5_0, ne_m5_1, ne_m5_2, ne_m5_3, ne_m4_m5, ne_m4_m3, ne_m4_m2, ne_m4_m1, ne_m4_0, ne_m4_1, ne_m4_2, ne_m4_3, ne_m3_m5, ne_m3_m4, ne_m3_m2, ne_m3_m1, ne_m3_0, ne_m3_1, ne_m3_2, ne_m3_3, ne_m2_m5, ne_m2_m4, ne_m2_m3, ne_m2_m1, ne_m2_0, ne_m2_1, ne_m2_2, ne_m2_3, ne_m1_m5, ne_m1_m4, ne_m1_m3, ne_m1_m2, ne_m1_0, ne_m1_1, ne_m1_2, ne_m1_3, ne_0_m5, ne_0_m4, ne_0_m3, ne_0_m2, ne_0_m1, ne_0_1, ne_0_2, ne_0_3, ne_1_m5, ne_1_m4, ne_1_m3, ne_1_m2, ne_1_m1, ne_1_0, ne_1_2, ne_1_3, ne_2_m5, ne_2_m4, ne_2_m3, ne_2_m2, ne_2_m1, ne_2_0, ne_2_1, ne_2_3, ne_3_m5, ne_3_m4, ne_3_m3, ne_3_m2, ne_3_m1, ne_3_0, ne_3_1, ne_3_2, le0_m5, lt0_m5, le0_m4, lt0_m4, le0_m3, lt0_m3, le0_m2, lt0_m2, le0_m1, lt0_m1, le0_0, lt0_0, le0_1, lt0_1, le0_2, lt0_2, le0_3, lt0_3, Nat.reduceLT, Nat.reduceLeDiff, ne_eq, not_true_eq_false, not_false_eq_true, true_and, and_true, Nat.succ_ne_self, bI_0, bI_1, Classical.not_not, and_self, or_self, or_true, true_or, false_or, or_false, and_false, false_and, s1, q_cpyX hc6, q_sz1]
    refine ⟨⟨⟨fun c a b d e => ?_, rfl⟩, ?_, ?_, fun k hk => ?_⟩, ⟨?_, ⟨fun z => absurd z (by simp), fun z => absurd z (by simp)⟩, fun q hq c hc hcA => ?_⟩, 1, rfl, rfl⟩
    · simp only [zpi_d, zpl_d, zpr_1, zpr_2, zpq_1, zpq_2, zpr_o, zpq_o, Nat.reduceAdd, Nat.reduceEqDiff, Nat.reduceMul, reduceIte, ite_true, ite_false, if_true, if_false, reduceCtorEq, eq_self, iff_self, i_T, i_F, implies_true, false_and, and_false, ne_m5_m4, ne_m5_m3, ne_m5_m2, ne_m5_m1, ne_m5_0, ne_m5_1, ne_m5_2, ne_m5_3, ne_m4_m5, ne_m4_m3, ne_m4_m2, ne_m4_m1, ne_m4_0, ne_m4_1, ne_m4_2, ne_m4_3, ne_m3_m5, ne_m3_m4, ne_m3_m2, ne_m3_m1, ne_m3_0, ne_m3_1, ne_m3_2, ne_m3_3, ne_m2_m5, ne_m2_m4, ne_m2_m3, ne_m2_m1, ne_m2_0, ne_m2_1, ne_m2_2, ne_m2_3, ne_m1_m5, ne_m1_m4, ne_m1_m3, ne_m1_m2, ne_m1_0, ne_m1_1, ne_m1_2, ne_m1_3, ne_0_m5, ne_0_m4, ne_0_m3, ne_0_m2, ne_0_m1, ne_0_1, ne_0_2, ne_0_3, ne_1_m5, ne_1_m4, ne_1_m3, ne_1_m2, ne_1_m1, ne_1_0, ne_1_2, ne_1_3, ne_2_m5, ne_2_m4, ne_2_m3, ne_2_m2, ne_2_m1, ne_2_0, ne_2_1, ne_2_3, ne_3_m5, ne_3_m4, ne_3_m3, ne_3_m2, ne_3_m1, ne_3_0, ne_3_1, ne_3_2, le0_m5, lt0_m5, le0_m4, lt0_m4, le0_m3, lt0_m3, le0_m2, lt0_m2, le0_m1, lt0_m1, le0_0, lt0_0, le0_1, lt0_1, le0_2, lt0_2, le0_3, lt0_3, Nat.reduceLT, Nat.reduceLeDiff, ne_eq, not_true_eq_false, not_false_eq_true, true_and, and_true, Nat.succ_ne_self]; rw [if_neg a, if_neg e]
    · simp only [zpi_d, zpl_d, zpr_1, zpr_2, zpq_1, zpq_2, zpr_o, zpq_o, Nat.reduceAdd, Nat.reduceEqDiff, Nat.reduceMul, reduceIte, ite_true, ite_false, if_true, if_false, reduceCtorEq, eq_self, iff_self, i_T, i_F, implies_true, false_and, and_false, ne_m5_m4, ne_m5_m3, ne_m5_m2, ne_m5_m1, ne_m5_0, ne_m5_1, ne_m5_2, ne_m5_3, ne_m4_m5, ne_m4_m3, ne_m4_m2, ne_m4_m1, ne_m4_0, ne_m4_1, ne_m4_2, ne_m4_3, ne_m3_m5, ne_m3_m4, ne_m3_m2, ne_m3_m1, ne_m3_0, ne_m3_1, ne_m3_2, ne_m3_3, ne_m2_m5, ne_m2_m4, ne_m2_m3, ne_m2_m1, ne_m2_0, ne_m2_1, ne_m2_2, ne_m2_3, ne_m1_m5, ne_m1_m4, ne_m1_m3, ne_m1_m2, ne_m1_0, ne_m1_1, ne_m1_2, ne_m1_3, ne_0_m5, ne_0_m4, ne_0_m3, ne_0_m2, ne_0_m1, ne_0_1, ne_0_2, ne_0_3, ne_1_m5, ne_1_m4, ne_1_m3, ne_1_m2, ne_1_m1, ne_1_0, ne_1_2, ne_1_3, ne_2_m5, ne_2_m4, ne_2_m3, ne_2_m2, ne_2_m1, ne_2_0, ne_2_1, ne_2_3, ne_3_m5, ne_3_m4, ne_3_m3, ne_3_m2, ne_3_m1, ne_3_0, ne_3_1, ne_3_2, le0_m5, lt0_m5, le0_m4, lt0_m4, le0_m3, lt0_m3, le0_m2, lt0_m2, le0_m1, lt0_m1, le0_0, lt0_0, le0_1, lt0_1, le0_2, lt0_2, le0_3, lt0_3, Nat.reduceLT, Nat.reduceLeDiff, ne_eq, not_true_eq_false, not_false_eq_true, true_and, and_true, Nat.succ_ne_self, upd_ap]
    · simp only [zpi_d, zpl_d, zpr_1, zpr_2, zpq_1, zpq_2, zpr_o, zpq_o, Nat.reduceAdd, Nat.reduceEqDiff, Nat.reduceMul, reduceIte, ite_true, ite_false, if_true, if_false, reduceCtorEq, eq_self, iff_self, i_T, i_F, implies_true, false_and, and_false, ne_m5_m4, ne_m5_m3, ne_m5_m2, ne_m5_m1, ne_m5_0, ne_m5_1, ne_m5_2, ne_m5_3, ne_m4_m5, ne_m4_m3, ne_m4_m2, ne_m4_m1, ne_m4_0, ne_m4_1, ne_m4_2, ne_m4_3, ne_m3_m5, ne_m3_m4, ne_m3_m2, ne_m3_m1, ne_m3_0, ne_m3_1, ne_m3_2, ne_m3_3, ne_m2_m5, ne_m2_m4, ne_m2_m3, ne_m2_m1, ne_m2_0, ne_m2_1, ne_m2_2, ne_m2_3, ne_m1_m5, ne_m1_m4, ne_m1_m3, ne_m1_m2, ne_m1_0, ne_m1_1, ne_m1_2, ne_m1_3, ne_0_m5, ne_0_m4, ne_0_m3, ne_0_m2, ne_0_m1, ne_0_1, ne_0_2, ne_0_3, ne_1_m5, ne_1_m4, ne_1_m3, ne_1_m2, ne_1_m1, ne_1_0, ne_1_2, ne_1_3, ne_2_m5, ne_2_m4, ne_2_m3, ne_2_m2, ne_2_m1, ne_2_0, ne_2_1, ne_2_3, ne_3_m5, ne_3_m4, ne_3_m3, ne_3_m2, ne_3_m1, ne_3_0, ne_3_1, ne_3_2, le0_m5, lt0_m5, le0_m4, lt0_m4, le0_m3, lt0_m3, le0_m2, lt0_m2, le0_m1, lt0_m1, le0_0, lt0_0, le0_1, lt0_1, le0_2, lt0_2, le0_3, lt0_3, Nat.reduceLT, Nat.reduceLeDiff, ne_eq, not_true_eq_false, not_false_eq_true, true_and, and_true, Nat.succ_ne_self]
    · simp only [zpi_d, zpl_d, zpr_1, zpr_2, zpq_1, zpq_2, zpr_o, zpq_o, Nat.reduceAdd, Nat.reduceEqDiff, Nat.reduceMul, reduceIte, ite_true, ite_false, if_true, if_false, reduceCtorEq, eq_self, iff_self, i_T, i_F, implies_true, false_and, and_false, ne_m5_m4, ne_m5_m3, ne_m5_m2, ne_m5_m1, ne_m5_0, ne_m5_1, ne_m5_2, ne_m5_3, ne_m4_m5, ne_m4_m3, ne_m4_m2, ne_m4_m1, ne_m4_0, ne_m4_1, ne_m4_2, ne_m4_3, ne_m3_m5, ne_m3_m4, ne_m3_m2, ne_m3_m1, ne_m3_0, ne_m3_1, ne_m3_2, ne_m3_3, ne_m2_m5, ne_m2_m4, ne_m2_m3, ne_m2_m1, ne_m2_0, ne_m2_1, ne_m2_2, ne_m2_3, ne_m1_m5, ne_m1_m4, ne_m1_m3, ne_m1_m2, ne_m1_0, ne_m1_1, ne_m1_2, ne_m1_3, ne_0_m5, ne_0_m4, ne_0_m3, ne_0_m2, ne_0_m1, ne_0_1, ne_0_2, ne_0_3, ne_1_m5, ne_1_m4, ne_1_m3, ne_1_m2, ne_1_m1, ne_1_0, ne_1_2, ne_1_3, ne_2_m5, ne_2_m4, ne_2_m3, ne_2_m2, ne_2_m1, ne_2_0, ne_2_1, ne_2_3, ne_3_m5, ne_3_m4, ne_3_m3, ne_3_m2, ne_3_m1, ne_3_0, ne_3_1, ne_3_2, le0_m5, lt0_m5, le0_m4, lt0_m4, le0_m3, lt0_m3, le0_m2, lt0_m2, le0_m1, lt0_m1, le0_0, lt0_0, le0_1, lt0_1, le0_2, lt0_2, le0_3, lt0_3, Nat.reduceLT, Nat.reduceLeDiff, ne_eq, not_true_eq_false, not_false_eq_true, true_and, and_true, Nat.succ_ne_self]
    · rw [if_neg (by omega)]
      simp only [zpi_d, zpl_d, zpr_1, zpr_2, zpq_1, zpq_2, zpr_o, zpq_o, Nat.reduceAdd, Nat.reduceEqDiff, Nat.reduceMul, reduceIte, ite_true, ite_false, if_true, if_false, reduceCtorEq, eq_self, iff_self, i_T, i_F, implies_true, false_and, and_false, ne_m5_m4, ne_m5_m3, ne_m5_m2, ne_m5_m1, ne_m5_0, ne_m5_1, ne_m5_2, ne_m5_3, ne_m4_m5, ne_m4_m3, ne_m4_m2, ne_m4_m1, ne_m4_0, ne_m4_1, ne_m4_2, ne_m4_3, ne_m3_m5, ne_m3_m4, ne_m3_m2, ne_m3_m1, ne_m3_0, ne_m3_1, ne_m3_2, ne_m3_3, ne_m2_m5, ne_m2_m4, ne_m2_m3, ne_m2_m1, ne_m2_0, ne_m2_1, ne_m2_2, ne_m2_3, ne_m1_m5, ne_m1_m4, ne_m1_m3, ne_m1_m2, ne_m1_0, ne_m1_1, ne_m1_2, ne_m1_3, ne_0_m5, ne_0_m4, ne_0_m3, ne_0_m2, ne_0_m1, ne_0_1, ne_0_2, ne_0_3, ne_1_m5, ne_1_m4, ne_1_m3, ne_1_m2, ne_1_m1, ne_1_0, ne_1_2, ne_1_3, ne_2_m5, ne_2_m4, ne_2_m3, ne_2_m2, ne_2_m1, ne_2_0, ne_2_1, ne_2_3, ne_3_m5, ne_3_m4, ne_3_m3, ne_3_m2, ne_3_m1, ne_3_0, ne_3_1, ne_3_2, le0_m5, lt0_m5, le0_m4, lt0_m4, le0_m3, lt0_m3, le0_m2, lt0_m2, le0_m1, lt0_m1, le0_0, lt0_0, le0_1, lt0_1, le0_2, lt0_2, le0_3, lt0_3, Nat.reduceLT, Nat.reduceLeDiff, ne_eq, not_true_eq_false, not_false_eq_true, true_and, and_true, Nat.succ_ne_self, upd_ap]
    · rw [en] at hq
      have hq : pl = q := Option.some.inj hq
      simp only [zpi_d, zpl_d, zpr_1, zpr_2, zpq_1, zpq_2, zpr_o, zpq_o, Nat.reduceAdd, Nat.reduceEqDiff, Nat.reduceMul, reduceIte, ite_true, ite_false, if_true, if_false, reduceCtorEq, eq_self, iff_self, i_T, i_F, implies_true, false_and, and_false, ne_m5_m4, ne_m5_m3, ne_m5_m2, ne_m5_m1, ne_m5_0, ne_m5_1, ne_m5_2, ne_m5_3, ne_m4_m5, ne_m4_m3, ne_m4_m2, ne_m4_m1, ne_m4_0, ne_m4_1, ne_m4_2, ne_m4_3, ne_m3_m5, ne_m3_m4, ne_m3_m2, ne_m3_m1, ne_m3_0, ne_m3_1, ne_m3_2, ne_m3_3, ne_m2_m5, ne_m2_m4, ne_m2_m3, ne_m2_m1, ne_m2_0, ne_m2_1, ne_m2_2, ne_m2_3, ne_m1_m5, ne_m1_m4, ne_m1_m3, ne_m1_m2, ne_m1_0, ne_m1_1, ne_m1_2, ne_m1_3, ne_0_m5, ne_0_m4, ne_0_m3, ne_0_m2, ne_0_m1, ne_0_1, ne_0_2, ne_0_3, ne_1_m5, ne_1_m4, ne_1_m3, ne_1_m2, ne_1_m1, ne_1_0, ne_1_2, ne_1_3, ne_2_m5, ne_2_m4, ne_2_m3, ne_2_m2, ne_2_m1, ne_2_0, ne_2_1, ne_2_3, ne_3_m5, ne_3_m4, ne_3_m3, ne_3_m2, ne_3_m1, ne_3_0, ne_3_1, ne_3_2, le0_m5, lt0_m5, le0_m4, lt0_m4, le0_m3, lt0_m3, le0_m2, lt0_m2, le0_m1, lt0_m1, le0_0, lt0_0, le0_1, lt0_1, le0_2, lt0_2, le0_3, lt0_3, Nat.reduceLT, Nat.reduceLeDiff, ne_eq, not_true_eq_false, not_false_eq_true, true_and, and_true, Nat.succ_ne_self]
      rw [if_pos (cA_lt hc hcA), hp c hc hcA, hq]
  · have hn : s.2 ≠ none := fun z => h0 (s2.mp z)
    rw [if_neg h0] at s1
    simp (disch := first | assumption | omega | rfl | (simp only [zpi_d, zpl_d, zpr_1, zpr_2, zpq_1, zpq_2, zpr_o, zpq_o, Nat.reduceAdd, Nat.reduceEqDiff, Nat.reduceMul, reduceIte, ite_true, ite_false, if_true, if_false, reduceCtorEq, eq_self, iff_self, i_T, i_F, implies_true, false_and, and_false, ne_m5_m4, ne_m5_m3, ne_m5_m2, ne_m5_m1, ne_m5_0, ne_m5_1, ne_m5_2, ne_m5_3, ne_m4_m5, ne_m4_m3, ne_m4_m2, ne_m4_m1, ne_m4_0, ne_m4_1, ne_m4_2, ne_m4_3, ne_m3_m5, ne_m3_m4, ne_m3_m2, ne_m3_m1, ne_m3_0, ne_m3_1, ne_m3_2, ne_m3_3, ne_m2_m5, ne_m2_m4, ne_m2_m3, ne_m2_m1, ne_m2_0, ne_m2_1, ne_m2_2, ne_m2_3, ne_m1_m5, ne_m1_m4, ne_m1_m3, ne_m1_m2, ne_m1_0, ne_m1_1, ne_m1_2, ne_m1_3, ne_0_m5, ne_0_m4, ne_0_m3, ne_0_m2, ne_0_m1, ne_0_1, ne_0_2, ne_0_3, ne_1_m5, ne_1_m4, ne_1_m3, ne_1_m2, ne_1_m1, ne_1_0, ne_1_2, ne_1_3, ne_2_m5, ne_2_m4, ne_2_m3, ne_2_m2, ne_2_m1, ne_2_0, ne_2_1, ne_2_3, ne_3_m5, ne_3_m4, ne_3_m3, ne_3_m2, ne_3_m1, ne_3_0, ne_3_1, ne_3_2, le0_m5, lt0_m5, le0_m4, lt0_m4, le0_m3, lt0_m3, le0_m2, lt0_m2, le0_m1, lt0_m1, le0_0, lt0_0, le0_1, lt0_1, le0_2, lt0_2, le0_3, lt0_3, Nat.reduceLT, Nat.reduceLeDiff, ne_eq, not_true_eq_false, not_false_eq_true, true_and, and_true, Nat.succ_ne_self, upd_ap] <;> assumption) | fail) only [q_ret, q_gi, q_gl, q_si, q_sl, q_j, q_b, q_eq, q_lt, q_le, q_nz2, q_nz8, q_nz10, q_nz16, q_nz24, q_rz0, q_rz1, q_rzb, i_T, i_F, not_true_eq_false, not_false_eq_true, true_and, and_true, implies_true, q_al_0, q_al_1, q_al_2, q_al_3, q_al_4, q_al_5, q_al_6, q_al_7, q_as_0, q_as_1, q_as_2, q_as_3, q_as_4, q_as_5, q_as_6, q_as_7, q_a42, q_s42, q_alN, q_asN, q_allN, q_aslN, q_am_0, q_am_1, q_am_2, q_am_3, q_am_4, q_am_5, q_am_6, q_ms_0, q_ms_1, q_ms_2, q_ms_3, q_ms_4, q_ms_5, q_ms_6, zpi_d, zpl_d, zpr_1, zpr_2, zpq_1, zpq_2, zpr_o, zpq_o, Nat.reduceAdd, Nat.reduceEqDiff, Nat.reduceMul, reduceIte, ite_true, ite_false, if_true, if_false, reduceCtorEq, eq_self, iff_self, i_T, i_F, implies_true, false_and, and_false, ne_m5_m4, ne_m5_m3, ne_m5_m2, ne_m5_m1, ne_m5_0, ne_m5_1, ne_m5_2, ne_m5_3, ne_m4_m5, ne_m4_m3, ne_m4_m2, ne_m4_m1, ne_m4_0, ne_m4_1, ne_m4_2, ne_m4_3, ne_m3_m5, ne_m3_m4, ne_m3_m2, ne_m3_m1, ne_m3_0, ne_m3_1, ne_m3_2, ne_m3_3, ne_m2_m5, ne_m2_m4, ne_m2_m3, ne_m2_m1, ne_m2_0, ne_m2_1, ne_m2_2, ne_m2_3, ne_m1_m5, ne_m1_m4, ne_m1_m3, ne_m1_m2, ne_m1_0, ne_m1_1, ne_m1_2, ne_m1_3, ne_0_m5, ne_0_m4, ne_0_m3, ne_0_m2, ne_0_m1, ne_0_1, ne_0_2, ne_0_3, ne_1_m5, ne_1_m4, ne_1_m3, ne_1_m2, ne_1_m1, ne_1_0, ne_1_2, ne_1_3, ne_2_m5, ne_2_m4, ne_2_m3, ne_2_m2, ne_2_m1, ne_2_0, ne_2_1, ne_2_3, ne_3_m5, ne_3_m4, ne_3_m3, ne_3_m2, ne_3_m1, ne_3_0, ne_3_1, ne_3_2, le0_m5, lt0_m5, le0_m4, lt0_m4, le0_m3, lt0_m3, le0_m2, lt0_m2, le0_m1, lt0_m1, le0_0, lt0_0, le0_1, lt0_1, le0_2, lt0_2, le0_3, lt0_3, Nat.reduceLT, Nat.reduceLeDiff, ne_eq, not_true_eq_false, not_false_eq_true, true_and, and_true, Nat.succ_ne_self, bI_0, bI_1, Classical.not_not, and_self, or_self, or_true, true_or, false_or, or_false, and_false, false_and, s1]
    refine ⟨fK_r, ⟨?_, ⟨fun z => absurd z (by simp), fun z => absurd z (by simp)⟩, fun q hq c hc hcA => ?_⟩, 1, rfl, rfl⟩
    · rw [if_neg (by omega)]; exact s1
    · rcases hs2 : s.2 with _ | q2
      · exact absurd hs2 hn
      · rw [hs2] at hq
        have hq : q2 = q := Option.some.inj hq
        rw [← hq]; exact s3 q2 hs2 c hc hcA
theorem x_from {m R : Nat} {T S : zS} {A : Int32} {g : Bool} (hm : m ≤ 6) (hT : RTo R S T) : ∀ d, d ≤ m → ∀ N, 2 * d < N → ∀ (pl : Nat → Nat) (s : bSt) (S1 : zS), fA S S1 → S1.1 62 6 = nI (cA A m) → (∀ c, c < m → bt A c = true → S1.1 63 (cA A c) = wt T c) → (∀ c, c < m - d → bt A c = true → S1.1 64 (cA A c) = nI (pl c) ∧ pl c < R) → XS A m s S1 → s.1 + pw8 d ≤ 2 ^ 20 → (g = true → s.1 = 0) →
    zq ((p_X2_waysFrom_g N).1 (nI (cA A (m - d)), bI (g = true))) S1 (fun r S2 => fK (cA A (m - d)) S1 S2 ∧ XS A m (brs T A m R g d pl s) S2 ∧ ∃ c, r = nI c ∧ (brs T A m R g d pl s).1 = s.1 + c) := by
  have hR : R ≤ 8 := hT.1
  intro d
  induction d with
  | zero =>
    intro _ N hN pl s S1 hf e6 hw hp hS hs hg
    obtain ⟨N, rfl⟩ : ∃ k, N = k + 1 := ⟨N - 1, by omega⟩
    exact x_leaf (R := R) (g := g) (T := T) (pl := pl) hm e6 (fun c hc hA => (hp c hc hA).1) hS
  | succ d ih =>
    intro hd N hN pl s S1 hf e6 hw hp hS hs hg
    obtain ⟨b, hb⟩ : ∃ b, b = m - (d + 1) := ⟨_, rfl⟩
    have hb1 : m - d = b + 1 := by omega
    have hb6 : b < 6 := by omega
    rw [← hb] at hp ⊢
    rw [hb1] at ih
    have hcm : cA A m ≤ 6 := Nat.le_trans cA_le hm
    by_cases hA : bt A b = true
    · obtain ⟨N, rfl⟩ : ∃ k, N = k + 2 := ⟨N - 2, by omega⟩
      have hbm : b < m := by omega
      have hlt : cA A b < cA A m := cA_lt hbm hA
      have hT1 := RTo_A hT hf
      obtain ⟨w, w1, w2⟩ := c_openTo hm hbm hA hT1 hw hp
      have hlt' : (nI (cA A b) < nI (cA A m)) = True := eq_true (by rw [nI_ltP (by omega) (by omega)]; exact hlt)
      have eb : brs T A m R g (d + 1) pl s = accf (bstp T A b g (brs T A m R g d) pl) R s := by
        rw [brs, ← hb, if_pos hA]
      have hw8 : pw8 (d + 1) = 8 * pw8 d := rfl
      have acb : ∀ j, j < R → (accf (bstp T A b g (brs T A m R g d) pl) j s).1 + pw8 d ≤ 2 ^ 20 := fun j hj => by
        have a1 := accf_le (st := bstp T A b g (brs T A m R g d) pl) (f := Prod.fst) (P := pw8 d) (fun j s' => by
          by_cases hc : okq T A b j pl b ∧ ¬ (g = true ∧ 0 < s'.1)
          · rw [bstp_t hc]
            exact brs_le hR d _ s'
          · rw [bstp_f hc]
            omega) s j
        have a2 : (j + 1) * pw8 d ≤ 8 * pw8 d := Nat.mul_le_mul_right _ (by omega)
        rw [Nat.succ_mul] at a2
        omega
      rw [eb]
      have g2 : ∀ j S Q, zq ((p_X2_waysFrom_g (N + 1)).2 (nI (cA A b), nI j, bI (g = true))) S Q = zq (p_X2_waysWith_s (p_X2_waysFrom_g N) (nI (cA A b)) (nI j) (bI (g = true))) S Q := fun _ _ _ => rfl
      generalize hQ : (fun (r : Int32) (S2 : zS) => fK (cA A b) S1 S2 ∧ XS A m (accf (bstp T A b g (brs T A m R g d) pl) R s) S2 ∧ ∃ c, r = nI c ∧ (accf (bstp T A b g (brs T A m R g d) pl) R s).1 = s.1 + c) = Q
      have loop : zq (zlp (p_X2_waysFrom_b73 (nI (cA A b)) (bI (g = true)) (p_X2_waysFrom_g (N + 1)) w) zNF ((0 : Int32), (0 : Int32)) (fun e9 => zret e9)) S1 Q := by
        refine q_for (A := Nat) (fun c j => (nI c, nI j)) R (fun c j S2 => fK (cA A b) S1 S2 ∧ XS A m (accf (bstp T A b g (brs T A m R g d) pl) j s) S2 ∧ (accf (bstp T A b g (brs T A m R g d) pl) j s).1 = s.1 + c) (by omega) ?_ ?_ 0 0 _ (Nat.zero_le _) ⟨fK_r, hS, rfl⟩
        · rintro c j S2 hj ⟨i1, i2, i3⟩ rc next
          have hj8 : j < 8 := by omega
          have hc41 := acb j hj
          have e36 : S2.1 3 6 = nI R := (RTo_A hT1 i1.1).2.1
          obtain ⟨s', hs'⟩ : ∃ s', s' = accf (bstp T A b g (brs T A m R g d) pl) j s := ⟨_, rfl⟩
          have stp : accf (bstp T A b g (brs T A m R g d) pl) (j + 1) s = bstp T A b g (brs T A m R g d) pl j s' := by rw [hs']; rfl
          rw [stp] at next
          have pos := pos_nI (k := c) (by omega)
          by_cases hstop : g = true ∧ 0 < s'.1
          · have hc0 : 0 < c := by
              have := hg hstop.1
              have h2 := hstop.2
              rw [hs'] at h2
              omega
            unfold p_X2_waysFrom_b73
            simp only [q_gi, e36, q_le, nI_leP (show R < 2 ^ 31 by omega) (show j < 2 ^ 31 by omega), le_F hj, i_F, i_T, true_and, and_true, not_false_eq_true, not_true_eq_false, q_j, q_eq, q_lt, pos, hc0, bI_t hstop.1, ne_1_0, q_ret]
            rw [← hQ]
            have e := accf_stop (T := T) (A := A) (b := b) (g := g) (f := brs T A m R g d) (pl := pl) (s := s) (j := j) ⟨hstop.1, by rw [← hs']; exact hstop.2⟩ (R - j)
            rw [show j + (R - j) = R by omega] at e
            show _ ∧ _ ∧ _
            rw [e]
            exact ⟨i1, i2, c, rfl, i3⟩
          · have go : (bt w j = true → zq ((p_X2_waysFrom_g (N + 1)).2 (nI (cA A b), nI j, bI (g = true))) S2 (fun r S3 => zq (rc (nI c + r, nI (j + 1))) S3 Q)) ∧ (¬ bt w j = true → zq (rc (nI c, nI (j + 1))) S2 Q) := by
              rw [← hs'] at i2 i3 hc41
              constructor
              · intro hbit
                have hok := ((w2 j (by omega)).mp hbit).2
                have hcb : cA A b < 6 := by omega
                have fset : fK (cA A b) S2 (zpr S2 64 (upd (S2.1 64) (cA A b) (nI j))) := ⟨⟨fun c a b d e => by simp only [zpi_d, zpl_d, zpr_1, zpr_2, zpq_1, zpq_2, zpr_o, zpq_o, Nat.reduceAdd, Nat.reduceEqDiff, Nat.reduceMul, reduceIte, ite_true, ite_false, if_true, if_false, reduceCtorEq, eq_self, iff_self, i_T, i_F, implies_true, false_and, and_false, ne_m5_m4, ne_m5_m3, ne_m5_m2, ne_m5_m1, ne_m5_0, ne_m5_1, ne_m5_2, ne_m5_3, ne_m4_m5, ne_m4_m3, ne_m4_m2, ne_m4_m1, ne_m4_0, ne_m4_1, ne_m4_2, ne_m4_3, ne_m3_m5, ne_m3_m4, ne_m3_m2, ne_m3_m1, ne_m3_0, ne_m3_1, ne_m3_2, ne_m3_3, ne_m2_m5, ne_m2_m4, ne_m2_m3, ne_m2_m1, ne_m2_0, ne_m2_1, ne_m2_2, ne_m2_3, ne_m1_m5, ne_m1_m4, ne_m1_m3, ne_m1_m2, ne_m1_0, ne_m1_1, ne_m1_2, ne_m1_3, ne_0_m5, ne_0_m4, ne_0_m3, ne_0_m2, ne_0_m1, ne_0_1, ne_0_2, ne_0_3, ne_1_m5, ne_1_m4, ne_1_m3, ne_1_m2, ne_1_m1, ne_1_0, ne_1_2, ne_1_3, ne_2_m5, ne_2_m4, ne_2_m3, ne_2_m2, ne_2_m1, ne_2_0, ne_2_1, ne_2_3, ne_3_m5, ne_3_m4, ne_3_m3, ne_3_m2, ne_3_m1, ne_3_0, ne_3_1, ne_3_2, le0_m5, lt0_m5, le0_m4, lt0_m4, le0_m3, lt0_m3, le0_m2, lt0_m2, le0_m1, lt0_m1, le0_0, lt0_0, le0_1, lt0_1, le0_2, lt0_2, le0_3, lt0_3, Nat.reduceLT, Nat.reduceLeDiff, ne_eq, not_true_eq_false, not_false_eq_true, true_and, and_true, Nat.succ_ne_self]; rw [if_neg d], rfl⟩, by simp only [zpi_d, zpl_d, zpr_1, zpr_2, zpq_1, zpq_2, zpr_o, zpq_o, Nat.reduceAdd, Nat.reduceEqDiff, Nat.reduceMul, reduceIte, ite_true, ite_false, if_true, if_false, reduceCtorEq, eq_self, iff_self, i_T, i_F, implies_true, false_and, and_false, ne_m5_m4, ne_m5_m3, ne_m5_m2, ne_m5_m1, ne_m5_0, ne_m5_1, ne_m5_2, ne_m5_3, ne_m4_m5, ne_m4_m3, ne_m4_m2, ne_m4_m1, ne_m4_0, ne_m4_1, ne_m4_2, ne_m4_3, ne_m3_m5, ne_m3_m4, ne_m3_m2, ne_m3_m1, ne_m3_0, ne_m3_1, ne_m3_2, ne_m3_3, ne_m2_m5, ne_m2_m4, ne_m2_m3, ne_m2_m1, ne_m2_0, ne_m2_1, ne_m2_2, ne_m2_3, ne_m1_m5, ne_m1_m4, ne_m1_m3, ne_m1_m2, ne_m1_0, ne_m1_1, ne_m1_2, ne_m1_3, ne_0_m5, ne_0_m4, ne_0_m3, ne_0_m2, ne_0_m1, ne_0_1, ne_0_2, ne_0_3, ne_1_m5, ne_1_m4, ne_1_m3, ne_1_m2, ne_1_m1, ne_1_0, ne_1_2, ne_1_3, ne_2_m5, ne_2_m4, ne_2_m3, ne_2_m2, ne_2_m1, ne_2_0, ne_2_1, ne_2_3, ne_3_m5, ne_3_m4, ne_3_m3, ne_3_m2, ne_3_m1, ne_3_0, ne_3_1, ne_3_2, le0_m5, lt0_m5, le0_m4, lt0_m4, le0_m3, lt0_m3, le0_m2, lt0_m2, le0_m1, lt0_m1, le0_0, lt0_0, le0_1, lt0_1, le0_2, lt0_2, le0_3, lt0_3, Nat.reduceLT, Nat.reduceLeDiff, ne_eq, not_true_eq_false, not_false_eq_true, true_and, and_true, Nat.succ_ne_self], by simp only [zpi_d, zpl_d, zpr_1, zpr_2, zpq_1, zpq_2, zpr_o, zpq_o, Nat.reduceAdd, Nat.reduceEqDiff, Nat.reduceMul, reduceIte, ite_true, ite_false, if_true, if_false, reduceCtorEq, eq_self, iff_self, i_T, i_F, implies_true, false_and, and_false, ne_m5_m4, ne_m5_m3, ne_m5_m2, ne_m5_m1, ne_m5_0, ne_m5_1, ne_m5_2, ne_m5_3, ne_m4_m5, ne_m4_m3, ne_m4_m2, ne_m4_m1, ne_m4_0, ne_m4_1, ne_m4_2, ne_m4_3, ne_m3_m5, ne_m3_m4, ne_m3_m2, ne_m3_m1, ne_m3_0, ne_m3_1, ne_m3_2, ne_m3_3, ne_m2_m5, ne_m2_m4, ne_m2_m3, ne_m2_m1, ne_m2_0, ne_m2_1, ne_m2_2, ne_m2_3, ne_m1_m5, ne_m1_m4, ne_m1_m3, ne_m1_m2, ne_m1_0, ne_m1_1, ne_m1_2, ne_m1_3, ne_0_m5, ne_0_m4, ne_0_m3, ne_0_m2, ne_0_m1, ne_0_1, ne_0_2, ne_0_3, ne_1_m5, ne_1_m4, ne_1_m3, ne_1_m2, ne_1_m1, ne_1_0, ne_1_2, ne_1_3, ne_2_m5, ne_2_m4, ne_2_m3, ne_2_m2, ne_2_m1, ne_2_0, ne_2_1, ne_2_3, ne_3_m5, ne_3_m4, ne_3_m3, ne_3_m2, ne_3_m1, ne_3_0, ne_3_1, ne_3_2, le0_m5, lt0_m5, le0_m4, lt0_m4, le0_m3, lt0_m3, le0_m2, lt0_m2, le0_m1, lt0_m1, le0_0, lt0_0, le0_1, lt0_1, le0_2, lt0_2, le0_3, lt0_3, Nat.reduceLT, Nat.reduceLeDiff, ne_eq, not_true_eq_false, not_false_eq_true, true_and, and_true, Nat.succ_ne_self], fun k hk => by simp only [zpi_d, zpl_d, zpr_1, zpr_2, zpq_1, zpq_2, zpr_o, zpq_o, Nat.reduceAdd, Nat.reduceEqDiff, Nat.reduceMul, reduceIte, ite_true, ite_false, if_true, if_false, reduceCtorEq, eq_self, iff_self, i_T, i_F, implies_true, false_and, and_false, ne_m5_m4, ne_m5_m3, ne_m5_m2, ne_m5_m1, ne_m5_0, ne_m5_1, ne_m5_2, ne_m5_3, ne_m4_m5, ne_m4_m3, ne_m4_m2, ne_m4_m1, ne_m4_0, ne_m4_1, ne_m4_2, ne_m4_3, ne_m3_m5, ne_m3_m4, ne_m3_m2, ne_m3_m1, ne_m3_0, ne_m3_1, ne_m3_2, ne_m3_3, ne_m2_m5, ne_m2_m4, ne_m2_m3, ne_m2_m1, ne_m2_0, ne_m2_1, ne_m2_2, ne_m2_3, ne_m1_m5, ne_m1_m4, ne_m1_m3, ne_m1_m2, ne_m1_0, ne_m1_1, ne_m1_2, ne_m1_3, ne_0_m5, ne_0_m4, ne_0_m3, ne_0_m2, ne_0_m1, ne_0_1, ne_0_2, ne_0_3, ne_1_m5, ne_1_m4, ne_1_m3, ne_1_m2, ne_1_m1, ne_1_0, ne_1_2, ne_1_3, ne_2_m5, ne_2_m4, ne_2_m3, ne_2_m2, ne_2_m1, ne_2_0, ne_2_1, ne_2_3, ne_3_m5, ne_3_m4, ne_3_m3, ne_3_m2, ne_3_m1, ne_3_0, ne_3_1, ne_3_2, le0_m5, lt0_m5, le0_m4, lt0_m4, le0_m3, lt0_m3, le0_m2, lt0_m2, le0_m1, lt0_m1, le0_0, lt0_0, le0_1, lt0_1, le0_2, lt0_2, le0_3, lt0_3, Nat.reduceLT, Nat.reduceLeDiff, ne_eq, not_true_eq_false, not_false_eq_true, true_and, and_true, Nat.succ_ne_self, upd_ap]; rw [if_neg (by omega)]⟩
                have fall := fK_t i1 fset (Nat.le_refl _)
                rw [g2]
                unfold p_X2_waysWith_s
                simp (disch := first | assumption | omega | rfl | (simp only [zpi_d, zpl_d, zpr_1, zpr_2, zpq_1, zpq_2, zpr_o, zpq_o, Nat.reduceAdd, Nat.reduceEqDiff, Nat.reduceMul, reduceIte, ite_true, ite_false, if_true, if_false, reduceCtorEq, eq_self, iff_self, i_T, i_F, implies_true, false_and, and_false, ne_m5_m4, ne_m5_m3, ne_m5_m2, ne_m5_m1, ne_m5_0, ne_m5_1, ne_m5_2, ne_m5_3, ne_m4_m5, ne_m4_m3, ne_m4_m2, ne_m4_m1, ne_m4_0, ne_m4_1, ne_m4_2, ne_m4_3, ne_m3_m5, ne_m3_m4, ne_m3_m2, ne_m3_m1, ne_m3_0, ne_m3_1, ne_m3_2, ne_m3_3, ne_m2_m5, ne_m2_m4, ne_m2_m3, ne_m2_m1, ne_m2_0, ne_m2_1, ne_m2_2, ne_m2_3, ne_m1_m5, ne_m1_m4, ne_m1_m3, ne_m1_m2, ne_m1_0, ne_m1_1, ne_m1_2, ne_m1_3, ne_0_m5, ne_0_m4, ne_0_m3, ne_0_m2, ne_0_m1, ne_0_1, ne_0_2, ne_0_3, ne_1_m5, ne_1_m4, ne_1_m3, ne_1_m2, ne_1_m1, ne_1_0, ne_1_2, ne_1_3, ne_2_m5, ne_2_m4, ne_2_m3, ne_2_m2, ne_2_m1, ne_2_0, ne_2_1, ne_2_3, ne_3_m5, ne_3_m4, ne_3_m3, ne_3_m2, ne_3_m1, ne_3_0, ne_3_1, ne_3_2, le0_m5, lt0_m5, le0_m4, lt0_m4, le0_m3, lt0_m3, le0_m2, lt0_m2, le0_m1, lt0_m1, le0_0, lt0_0, le0_1, lt0_1, le0_2, lt0_2, le0_3, lt0_3, Nat.reduceLT, Nat.reduceLeDiff, ne_eq, not_true_eq_false, not_false_eq_true, true_and, and_true, Nat.succ_ne_self, upd_ap] <;> assumption) | fail) only [q_ret, q_gi, q_gl, q_si, q_sl, q_j, q_b, q_eq, q_lt, q_le, q_nz2, q_nz8, q_nz10, q_nz16, q_nz24, q_rz0, q_rz1, q_rzb, i_T, i_F, not_true_eq_false, not_false_eq_true, true_and, and_true, implies_true, q_al_0, q_al_1, q_al_2, q_al_3, q_al_4, q_al_5, q_al_6, q_al_7, q_as_0, q_as_1, q_as_2, q_as_3, q_as_4, q_as_5, q_as_6, q_as_7, q_a42, q_s42, q_alN, q_asN, q_allN, q_aslN, q_am_0, q_am_1, q_am_2, q_am_3, q_am_4, q_am_5, q_am_6, q_ms_0, q_ms_1, q_ms_2, q_ms_3, q_ms_4, q_ms_5, q_ms_6, zpi_d, zpl_d, zpr_1, zpr_2, zpq_1, zpq_2, zpr_o, zpq_o, Nat.reduceAdd, Nat.reduceEqDiff, Nat.reduceMul, reduceIte, ite_true, ite_false, if_true, if_false, reduceCtorEq, eq_self, iff_self, i_T, i_F, implies_true, false_and, and_false, ne_m5_m4, ne_m5_m3, ne_m5_m2, ne_m5_m1, ne_m5_0, ne_m5_1, ne_m5_2, ne_m5_3, ne_m4_m5, ne_m4_m3, ne_m4_m2, ne_m4_m1, ne_m4_0, ne_m4_1, ne_m4_2, ne_m4_3, ne_m3_m5, ne_m3_m4, ne_m3_m2, ne_m3_m1, ne_m3_0, ne_m3_1, ne_m3_2, ne_m3_3, ne_m2_m5, ne_m2_m4, ne_m2_m3, ne_m2_m1, ne_m2_0, ne_m2_1, ne_m2_2, ne_m2_3, ne_m1_m5, ne_m1_m4, ne_m1_m3, ne_m1_m2, ne_m1_0, ne_m1_1, ne_m1_2, ne_m1_3, ne_0_m5, ne_0_m4, ne_0_m3, ne_0_m2, ne_0_m1, ne_0_1, ne_0_2, ne_0_3, ne_1_m5, ne_1_m4, ne_1_m3, ne_1_m2, ne_1_m1, ne_1_0, ne_1_2, ne_1_3, ne_2_m5, ne_2_m4, ne_2_m3, ne_2_m2, ne_2_m1, ne_2_0, ne_2_1, ne_2_3, ne_3_m5, ne_3_m4, ne_3_m3, ne_3_m2, ne_3_m1, ne_3_0, ne_3_1, ne_3_2, le0_m5, lt0_m5, le0_m4, lt0_m4, le0_m3, lt0_m3, le0_m2, lt0_m2, le0_m1, lt0_m1, le0_0, lt0_0, le0_1, lt0_1, le0_2, lt0_2, le0_3, lt0_3, Nat.reduceLT, Nat.reduceLeDiff, ne_eq, not_true_eq_false, not_false_eq_true, true_and, and_true, Nat.succ_ne_self, bI_0, bI_1, Classical.not_not, and_self, or_self, or_true, true_or, false_or, or_false, and_false, false_and, nI_1]
                rw [← cA_t hA]
                refine q_mono (ih (by omega) N (by omega) (put1 pl b j) s' _ (fA_t hf fall.1) (fall.2.1.trans e6) (fun c' hc' hcA' => by rw [fall.2.2.1]; exact hw c' hc' hcA') (fun c' hc' hcA' => ?_) ⟨?_, i2.2.1, fun q hq c' hc' hcA' => ?_⟩ hc41 (fun z => Nat.eq_zero_of_not_pos (fun y => hstop ⟨z, y⟩))) ?_
                · simp only [zpi_d, zpl_d, zpr_1, zpr_2, zpq_1, zpq_2, zpr_o, zpq_o, Nat.reduceAdd, Nat.reduceEqDiff, Nat.reduceMul, reduceIte, ite_true, ite_false, if_true, if_false, reduceCtorEq, eq_self, iff_self, i_T, i_F, implies_true, false_and, and_false, ne_m5_m4, ne_m5_m3, ne_m5_m2, ne_m5_m1, ne_m5_0, ne_m5_1, ne_m5_2, ne_m5_3, ne_m4_m5, ne_m4_m3, ne_m4_m2, ne_m4_m1, ne_m4_0, ne_m4_1, ne_m4_2, ne_m4_3, ne_m3_m5, ne_m3_m4, ne_m3_m2, ne_m3_m1, ne_m3_0, ne_m3_1, ne_m3_2, ne_m3_3, ne_m2_m5, ne_m2_m4, ne_m2_m3, ne_m2_m1, ne_m2_0, ne_m2_1, ne_m2_2, ne_m2_3, ne_m1_m5, ne_m1_m4, ne_m1_m3, ne_m1_m2, ne_m1_0, ne_m1_1, ne_m1_2, ne_m1_3, ne_0_m5, ne_0_m4, ne_0_m3, ne_0_m2, ne_0_m1, ne_0_1, ne_0_2, ne_0_3, ne_1_m5, ne_1_m4, ne_1_m3, ne_1_m2, ne_1_m1, ne_1_0, ne_1_2, ne_1_3, ne_2_m5, ne_2_m4, ne_2_m3, ne_2_m2, ne_2_m1, ne_2_0, ne_2_1, ne_2_3, ne_3_m5, ne_3_m4, ne_3_m3, ne_3_m2, ne_3_m1, ne_3_0, ne_3_1, ne_3_2, le0_m5, lt0_m5, le0_m4, lt0_m4, le0_m3, lt0_m3, le0_m2, lt0_m2, le0_m1, lt0_m1, le0_0, lt0_0, le0_1, lt0_1, le0_2, lt0_2, le0_3, lt0_3, Nat.reduceLT, Nat.reduceLeDiff, ne_eq, not_true_eq_false, not_false_eq_true, true_and, and_true, Nat.succ_ne_self, upd_ap, put1]
                  by_cases e : c' = b
                  · rw [e, if_pos rfl, if_pos rfl]
                    exact ⟨rfl, hj⟩
                  · have hlt2 := cA_lt (A := A) (c := c') (b := b) (by omega) hcA'
                    rw [if_neg (by omega), if_neg e, i1.2.2.2 _ hlt2]
                    exact hp c' (by omega) hcA'
                · simp only [zpi_d, zpl_d, zpr_1, zpr_2, zpq_1, zpq_2, zpr_o, zpq_o, Nat.reduceAdd, Nat.reduceEqDiff, Nat.reduceMul, reduceIte, ite_true, ite_false, if_true, if_false, reduceCtorEq, eq_self, iff_self, i_T, i_F, implies_true, false_and, and_false, ne_m5_m4, ne_m5_m3, ne_m5_m2, ne_m5_m1, ne_m5_0, ne_m5_1, ne_m5_2, ne_m5_3, ne_m4_m5, ne_m4_m3, ne_m4_m2, ne_m4_m1, ne_m4_0, ne_m4_1, ne_m4_2, ne_m4_3, ne_m3_m5, ne_m3_m4, ne_m3_m2, ne_m3_m1, ne_m3_0, ne_m3_1, ne_m3_2, ne_m3_3, ne_m2_m5, ne_m2_m4, ne_m2_m3, ne_m2_m1, ne_m2_0, ne_m2_1, ne_m2_2, ne_m2_3, ne_m1_m5, ne_m1_m4, ne_m1_m3, ne_m1_m2, ne_m1_0, ne_m1_1, ne_m1_2, ne_m1_3, ne_0_m5, ne_0_m4, ne_0_m3, ne_0_m2, ne_0_m1, ne_0_1, ne_0_2, ne_0_3, ne_1_m5, ne_1_m4, ne_1_m3, ne_1_m2, ne_1_m1, ne_1_0, ne_1_2, ne_1_3, ne_2_m5, ne_2_m4, ne_2_m3, ne_2_m2, ne_2_m1, ne_2_0, ne_2_1, ne_2_3, ne_3_m5, ne_3_m4, ne_3_m3, ne_3_m2, ne_3_m1, ne_3_0, ne_3_1, ne_3_2, le0_m5, lt0_m5, le0_m4, lt0_m4, le0_m3, lt0_m3, le0_m2, lt0_m2, le0_m1, lt0_m1, le0_0, lt0_0, le0_1, lt0_1, le0_2, lt0_2, le0_3, lt0_3, Nat.reduceLT, Nat.reduceLeDiff, ne_eq, not_true_eq_false, not_false_eq_true, true_and, and_true, Nat.succ_ne_self]; exact i2.1
                · simp only [zpi_d, zpl_d, zpr_1, zpr_2, zpq_1, zpq_2, zpr_o, zpq_o, Nat.reduceAdd, Nat.reduceEqDiff, Nat.reduceMul, reduceIte, ite_true, ite_false, if_true, if_false, reduceCtorEq, eq_self, iff_self, i_T, i_F, implies_true, false_and, and_false, ne_m5_m4, ne_m5_m3, ne_m5_m2, ne_m5_m1, ne_m5_0, ne_m5_1, ne_m5_2, ne_m5_3, ne_m4_m5, ne_m4_m3, ne_m4_m2, ne_m4_m1, ne_m4_0, ne_m4_1, ne_m4_2, ne_m4_3, ne_m3_m5, ne_m3_m4, ne_m3_m2, ne_m3_m1, ne_m3_0, ne_m3_1, ne_m3_2, ne_m3_3, ne_m2_m5, ne_m2_m4, ne_m2_m3, ne_m2_m1, ne_m2_0, ne_m2_1, ne_m2_2, ne_m2_3, ne_m1_m5, ne_m1_m4, ne_m1_m3, ne_m1_m2, ne_m1_0, ne_m1_1, ne_m1_2, ne_m1_3, ne_0_m5, ne_0_m4, ne_0_m3, ne_0_m2, ne_0_m1, ne_0_1, ne_0_2, ne_0_3, ne_1_m5, ne_1_m4, ne_1_m3, ne_1_m2, ne_1_m1, ne_1_0, ne_1_2, ne_1_3, ne_2_m5, ne_2_m4, ne_2_m3, ne_2_m2, ne_2_m1, ne_2_0, ne_2_1, ne_2_3, ne_3_m5, ne_3_m4, ne_3_m3, ne_3_m2, ne_3_m1, ne_3_0, ne_3_1, ne_3_2, le0_m5, lt0_m5, le0_m4, lt0_m4, le0_m3, lt0_m3, le0_m2, lt0_m2, le0_m1, lt0_m1, le0_0, lt0_0, le0_1, lt0_1, le0_2, lt0_2, le0_3, lt0_3, Nat.reduceLT, Nat.reduceLeDiff, ne_eq, not_true_eq_false, not_false_eq_true, true_and, and_true, Nat.succ_ne_self]; exact i2.2.2 q hq c' hc' hcA'
                · rintro r S3 ⟨a1, a2, c', rfl, a3⟩
                  simp only [nI_plus]
                  refine next (c + c') S3 ⟨fK_t fall a1 (by rw [cA_t hA]; omega), ?_, ?_⟩
                  · rw [bstp_t ⟨hok, hstop⟩]; exact a2
                  · rw [bstp_t ⟨hok, hstop⟩]; omega
              · intro hbit
                have hno : ¬ (okq T A b j pl b ∧ ¬ (g = true ∧ 0 < s'.1)) := fun z => hbit ((w2 j (by omega)).mpr ⟨hj, z.1⟩)
                exact next c S2 ⟨i1, by rw [bstp_f hno]; exact i2, by rw [bstp_f hno]; exact i3⟩
            unfold p_X2_waysFrom_b73
            by_cases hgt : g = true
            · have hc0 : ¬ 0 < c := by
                have h1 := hg hgt
                have h2 : ¬ 0 < s'.1 := fun y => hstop ⟨hgt, y⟩
                rw [hs'] at h2
                omega
              rw [bI_t hgt] at go ⊢
              simp only [q_gi, e36, q_le, nI_leP (show R < 2 ^ 31 by omega) (show j < 2 ^ 31 by omega), le_F hj, i_F, i_T, true_and, and_true, not_false_eq_true, not_true_eq_false, q_j, q_eq, q_lt, pos, hc0, ne_1_0, q_b, b_tst (show j < 32 by omega), nI_1]
              exact go
            · rw [bI_f hgt] at go ⊢
              simp only [q_gi, e36, q_le, nI_leP (show R < 2 ^ 31 by omega) (show j < 2 ^ 31 by omega), le_F hj, i_F, i_T, true_and, and_true, not_false_eq_true, not_true_eq_false, q_j, q_eq, q_lt, q_b, b_tst (show j < 32 by omega), nI_1]
              exact go
        · rintro c S2 ⟨i1, i2, i3⟩ rc
          have e36 : S2.1 3 6 = nI R := (RTo_A hT1 i1.1).2.1
          unfold p_X2_waysFrom_b73
          simp (disch := first | assumption | omega | rfl | (simp only [zpi_d, zpl_d, zpr_1, zpr_2, zpq_1, zpq_2, zpr_o, zpq_o, Nat.reduceAdd, Nat.reduceEqDiff, Nat.reduceMul, reduceIte, ite_true, ite_false, if_true, if_false, reduceCtorEq, eq_self, iff_self, i_T, i_F, implies_true, false_and, and_false, ne_m5_m4, ne_m5_m3, ne_m5_m2, ne_m5_m1, ne_m5_0, ne_m5_1, ne_m5_2, ne_m5_3, ne_m4_m5, ne_m4_m3, ne_m4_m2, ne_m4_m1, ne_m4_0, ne_m4_1, ne_m4_2, ne_m4_3, ne_m3_m5, ne_m3_m4, ne_m3_m2, ne_m3_m1, ne_m3_0, ne_m3_1, ne_m3_2, ne_m3_3, ne_m2_m5, ne_m2_m4, ne_m2_m3, ne_m2_m1, ne_m2_0, ne_m2_1, ne_m2_2, ne_m2_3, ne_m1_m5, ne_m1_m4, ne_m1_m3, ne_m1_m2, ne_m1_0, ne_m1_1, ne_m1_2, ne_m1_3, ne_0_m5, ne_0_m4, ne_0_m3, ne_0_m2, ne_0_m1, ne_0_1, ne_0_2, ne_0_3, ne_1_m5, ne_1_m4, ne_1_m3, ne_1_m2, ne_1_m1, ne_1_0, ne_1_2, ne_1_3, ne_2_m5, ne_2_m4, ne_2_m3, ne_2_m2, ne_2_m1, ne_2_0, ne_2_1, ne_2_3, ne_3_m5, ne_3_m4, ne_3_m3, ne_3_m2, ne_3_m1, ne_3_0, ne_3_1, ne_3_2, le0_m5, lt0_m5, le0_m4, lt0_m4, le0_m3, lt0_m3, le0_m2, lt0_m2, le0_m1, lt0_m1, le0_0, lt0_0, le0_1, lt0_1, le0_2, lt0_2, le0_3, lt0_3, Nat.reduceLT, Nat.reduceLeDiff, ne_eq, not_true_eq_false, not_false_eq_true, true_and, and_true, Nat.succ_ne_self, upd_ap] <;> assumption) | fail) only [q_ret, q_gi, q_gl, q_si, q_sl, q_j, q_b, q_eq, q_lt, q_le, q_nz2, q_nz8, q_nz10, q_nz16, q_nz24, q_rz0, q_rz1, q_rzb, i_T, i_F, not_true_eq_false, not_false_eq_true, true_and, and_true, implies_true, q_al_0, q_al_1, q_al_2, q_al_3, q_al_4, q_al_5, q_al_6, q_al_7, q_as_0, q_as_1, q_as_2, q_as_3, q_as_4, q_as_5, q_as_6, q_as_7, q_a42, q_s42, q_alN, q_asN, q_allN, q_aslN, q_am_0, q_am_1, q_am_2, q_am_3, q_am_4, q_am_5, q_am_6, q_ms_0, q_ms_1, q_ms_2, q_ms_3, q_ms_4, q_ms_5, q_ms_6, zpi_d, zpl_d, zpr_1, zpr_2, zpq_1, zpq_2, zpr_o, zpq_o, Nat.reduceAdd, Nat.reduceEqDiff, Nat.reduceMul, reduceIte, ite_true, ite_false, if_true, if_false, reduceCtorEq, eq_self, iff_self, i_T, i_F, implies_true, false_and, and_false, ne_m5_m4, ne_m5_m3, ne_m5_m2, ne_m5_m1, ne_m5_0, ne_m5_1, ne_m5_2, ne_m5_3, ne_m4_m5, ne_m4_m3, ne_m4_m2, ne_m4_m1, ne_m4_0, ne_m4_1, ne_m4_2, ne_m4_3, ne_m3_m5, ne_m3_m4, ne_m3_m2, ne_m3_m1, ne_m3_0, ne_m3_1, ne_m3_2, ne_m3_3, ne_m2_m5, ne_m2_m4, ne_m2_m3, ne_m2_m1, ne_m2_0, ne_m2_1, ne_m2_2, ne_m2_3, ne_m1_m5, ne_m1_m4, ne_m1_m3, ne_m1_m2, ne_m1_0, ne_m1_1, ne_m1_2, ne_m1_3, ne_0_m5, ne_0_m4, ne_0_m3, ne_0_m2, ne_0_m1, ne_0_1, ne_0_2, ne_0_3, ne_1_m5, ne_1_m4, ne_1_m3, ne_1_m2, ne_1_m1, ne_1_0, ne_1_2, ne_1_3, ne_2_m5, ne_2_m4, ne_2_m3, ne_2_m2, ne_2_m1, ne_2_0, ne_2_1, ne_2_3, ne_3_m5, ne_3_m4, ne_3_m3, ne_3_m2, ne_3_m1, ne_3_0, ne_3_1, ne_3_2, le0_m5, lt0_m5, le0_m4, lt0_m4, le0_m3, lt0_m3, le0_m2, lt0_m2, le0_m1, lt0_m1, le0_0, lt0_0, le0_1, lt0_1, le0_2, lt0_2, le0_3, lt0_3, Nat.reduceLT, Nat.reduceLeDiff, ne_eq, not_true_eq_false, not_false_eq_true, true_and, and_true, Nat.succ_ne_self, bI_0, bI_1, Classical.not_not, and_self, or_self, or_true, true_or, false_or, or_false, and_false, false_and, e36, nI_leP, le_T]
          rw [← hQ]
          exact ⟨i1, i2, c, rfl, i3⟩
      show zq (p_X2_waysFrom_s (p_X2_waysFrom_g (N + 1)) (nI (cA A b)) (bI (g = true))) S1 Q
      unfold p_X2_waysFrom_s
      by_cases h0 : s.1 = 0
      · have f5 := hS.1
        rw [if_pos h0] at f5
        simp only [q_gi, q_lt, e6, hlt', i_F, i_T, true_and, and_true, not_false_eq_true, not_true_eq_false, q_b, q_of w1, f5, q_j, q_eq]
        exact loop
      · have f5 := hS.1
        rw [if_neg h0] at f5
        by_cases hlast : cA A b + 1 = cA A m
        · have el : (nI (cA A b) = nI (cA A m) - 1) = True := eq_true (by rw [← hlast, ← nI_1, Int32.add_sub_cancel])
          simp only [q_gi, q_lt, e6, hlt', i_F, i_T, true_and, and_true, not_false_eq_true, not_true_eq_false, q_b, q_of w1, f5, q_j, q_eq, ne_1_0, el, q_bc, q_ret]
          have hgf : g = false := by
            cases g
            · rfl
            · exact absurd (hg rfl) h0
          rcases hs2 : s.2 with _ | q
          · exact absurd (hS.2.1.mp hs2) h0
          · have hno : ∀ c, m - d ≤ c → c < m → ¬ bt A c = true := fun c h1 h2 h3 => by
              have z1 := cA_mono (A := A) (c := b + 1) (c - (b + 1))
              rw [cA_t hA, show b + 1 + (c - (b + 1)) = c by omega] at z1
              have z2 := cA_lt h2 h3
              omega
            have e := accf_last (T := T) (A := A) (b := b) (m := m) (R := R) (d := d) (pl := pl) hs2 w2 hR (by omega) hno R (Nat.le_refl _)
            rw [← hQ]
            show _ ∧ _ ∧ _
            rw [hgf, e, bc_R hR w2]
            refine ⟨fK_r, ⟨?_, ⟨fun z => absurd z (by simp), fun z => absurd z (show s.1 + _ ≠ 0 by omega)⟩, fun q' hq c hc hcA => ?_⟩, _, rfl, rfl⟩
            · rw [if_neg (show ¬ s.1 + _ = 0 by omega)]; exact f5
            · have hq : q = q' := Option.some.inj hq
              rw [← hq]; exact hS.2.2 q hs2 c hc hcA
        · have el : (nI (cA A b) = nI (cA A m) - 1) = False := eq_false (by
            obtain ⟨k, hk⟩ : ∃ k, cA A m = k + 1 := ⟨cA A m - 1, by omega⟩
            rw [hk, ← nI_1, Int32.add_sub_cancel, nI_eqP (by omega) (by omega)]
            omega)
          simp only [q_gi, q_lt, e6, hlt', i_F, i_T, true_and, and_true, not_false_eq_true, not_true_eq_false, q_b, q_of w1, f5, q_j, q_eq, ne_1_0, el]
          exact loop
    · have e1 := cA_f hA
      rw [e1] at ih
      have eb : brs T A m R g (d + 1) pl s = brs T A m R g d pl s := by
        rw [brs, ← hb, if_neg hA]
      rw [eb]
      refine ih (by omega) N (by omega) pl s S1 hf e6 hw (fun c hc hcA => ?_) hS (by simp only [pw8] at hs; omega) hg
      by_cases e : c = b
      · rw [e] at hcA; exact absurd hcA hA
      · exact hp c (by omega) hcA
