/-! ===== winds ===== -/
theorem WV_f {i j : Nat} {S T S' T' : zS} (h : WV j S T) (f : fW i S S') (g : gW i T T') (hj : j < i) : WV j S' T' := by
  unfold WV at h ⊢
  rw [f.2.2.1 (2 * j) (by omega) (by omega), f.2.2.1 (2 * j + 1) (by omega) (by omega), g.2.2.1 (2 * j) (by omega) (by omega), g.2.2.1 (2 * j + 1) (by omega) (by omega)]
  exact h
theorem PI_W {i len : Nat} {S T S1 T1 S2 T2 : zS} (h : PI len S T S1 T1) (f : fW i S1 S2) (g : gW i T1 T2) : PI len S T S2 T2 := by
  obtain ⟨h1, h2, h3, h4⟩ := h
  refine ⟨fP_t h1 ⟨fun c a1 _ a3 _ _ _ _ _ => f.1 c a1 a3, f.2.2.2⟩, gP_t h2 ⟨fun c a1 a2 _ _ _ _ => g.1 c a1 a2, fun k _ _ a3 _ _ _ _ _ => g.2.1 k a3, g.2.2.2⟩, ?_, ?_⟩
  · rw [f.2.1 3 (by omega)]; exact h3
  · rw [g.2.1 16 (by omega)]; exact h4
theorem EAST_d : ∀ d, d < 8 → tEAST.getD d 0 = ewd (nI d) := by decide +kernel
theorem SOUTH_d : ∀ d, d < 8 → tSOUTH.getD d 0 = swd (nI d) := by decide +kernel
def cW (g : Nat → Int32) : Nat → Nat
  | 0 => 0
  | i + 1 => cW g i + if g (2 * i) < 0 then 0 else 1
theorem cW_le {g : Nat → Int32} : ∀ i, cW g i ≤ i
  | 0 => Nat.le_refl _
  | i + 1 => by
    have := cW_le (g := g) i
    unfold cW
    split <;> omega
/-- one wind as both sides hold it -/
def wp (g : Nat → Int32) (h : Nat) : Prop := (g (2 * h) = -1 ∧ g (2 * h + 1) = 0) ∨ (rg 7 (g (2 * h)) ∧ ∃ j : Nat, 1 ≤ j ∧ j ≤ 3 ∧ g (2 * h + 1) = nI j)
theorem ten_le {i : Nat} (h : i < 1000) : ((10 : Int32) ≤ nI i) = (10 ≤ i) := nI_leP (a := 10) (by omega) (by omega)
def fV (S S' : zS) : Prop := (∀ c, c ≠ 11 → c ≠ 12 → c ≠ 13 → c ≠ 14 → S'.1 c = S.1 c) ∧ S'.2 = S.2
theorem x_put {S : zS} {g : Nat → Int32} {h : Nat} {Q : Unit → zS → Prop} (h10 : h < 10) (hw : wp g h) : zq (p_X10_put (nI h) (g (2 * h)) (g (2 * h + 1))) S Q = Q () (zpr (zpr (zpr (zpr S 11 (upd (S.1 11) h (g (2 * h)))) 12 (upd (S.1 12) h (g (2 * h + 1)))) 13 (upd (S.1 13) h (if g (2 * h) < 0 then 0 else ewd (g (2 * h)) * g (2 * h + 1)))) 14 (upd (S.1 14) h (if g (2 * h) < 0 then 0 else swd (g (2 * h)) * g (2 * h + 1)))) := by
  unfold p_X10_put
  rcases hw with ⟨e1, e2⟩ | ⟨⟨d, hd, e1⟩, j, hj, hj3, e2⟩
  · have m1 : ((-1 : Int32) < 0) = True := eq_true (by decide)
    rw [e1, e2]
    simp (disch := first | assumption | omega | rfl | (simp only [zpi_d, zpl_d, zpr_1, zpr_2, zpq_1, zpq_2, zpr_o, zpq_o, Nat.reduceAdd, Nat.reduceEqDiff, Nat.reduceMul, reduceIte, ite_true, ite_false, if_true, if_false, reduceCtorEq, eq_self, iff_self, i_T, i_F, implies_true, false_and, and_false, ne_m5_m4, ne_m5_m3, ne_m5_m2, ne_m5_m1, ne_m5_0, ne_m5_1, ne_m5_2, ne_m5_3, ne_m4_m5, ne_m4_m3, ne_m4_m2, ne_m4_m1, ne_m4_0, ne_m4_1, ne_m4_2, ne_m4_3, ne_m3_m5, ne_m3_m4, ne_m3_m2, ne_m3_m1, ne_m3_0, ne_m3_1, ne_m3_2, ne_m3_3, ne_m2_m5, ne_m2_m4, ne_m2_m3, ne_m2_m1, ne_m2_0, ne_m2_1, ne_m2_2, ne_m2_3, ne_m1_m5, ne_m1_m4, ne_m1_m3, ne_m1_m2, ne_m1_0, ne_m1_1, ne_m1_2, ne_m1_3, ne_0_m5, ne_0_m4, ne_0_m3, ne_0_m2, ne_0_m1, ne_0_1, ne_0_2, ne_0_3, ne_1_m5, ne_1_m4, ne_1_m3, ne_1_m2, ne_1_m1, ne_1_0, ne_1_2, ne_1_3, ne_2_m5, ne_2_m4, ne_2_m3, ne_2_m2, ne_2_m1, ne_2_0, ne_2_1, ne_2_3, ne_3_m5, ne_3_m4, ne_3_m3, ne_3_m2, ne_3_m1, ne_3_0, ne_3_1, ne_3_2, le0_m5, lt0_m5, le0_m4, lt0_m4, le0_m3, lt0_m3, le0_m2, lt0_m2, le0_m1, lt0_m1, le0_0, lt0_0, le0_1, lt0_1, le0_2, lt0_2, le0_3, lt0_3, Nat.reduceLT, Nat.reduceLeDiff, ne_eq, not_true_eq_false, not_false_eq_true, true_and, and_true, Nat.succ_ne_self, upd_ap] <;> assumption) | fail) only [q_ret, q_gi, q_gl, q_si, q_sl, q_j, q_b, q_eq, q_lt, q_le, q_nz2, q_nz8, q_nz10, q_nz16, q_nz24, q_rz0, q_rz1, q_rzb, i_T, i_F, not_true_eq_false, not_false_eq_true, true_and, and_true, implies_true, q_al_0, q_al_1, q_al_2, q_al_3, q_al_4, q_al_5, q_al_6, q_al_7, q_as_0, q_as_1, q_as_2, q_as_3, q_as_4, q_as_5, q_as_6, q_as_7, q_a42, q_s42, q_alN, q_asN, q_allN, q_aslN, q_am_0, q_am_1, q_am_2, q_am_3, q_am_4, q_am_5, q_am_6, q_ms_0, q_ms_1, q_ms_2, q_ms_3, q_ms_4, q_ms_5, q_ms_6, zpi_d, zpl_d, zpr_1, zpr_2, zpq_1, zpq_2, zpr_o, zpq_o, Nat.reduceAdd, Nat.reduceEqDiff, Nat.reduceMul, reduceIte, ite_true, ite_false, if_true, if_false, reduceCtorEq, eq_self, iff_self, i_T, i_F, implies_true, false_and, and_false, ne_m5_m4, ne_m5_m3, ne_m5_m2, ne_m5_m1, ne_m5_0, ne_m5_1, ne_m5_2, ne_m5_3, ne_m4_m5, ne_m4_m3, ne_m4_m2, ne_m4_m1, ne_m4_0, ne_m4_1, ne_m4_2, ne_m4_3, ne_m3_m5, ne_m3_m4, ne_m3_m2, ne_m3_m1, ne_m3_0, ne_m3_1, ne_m3_2, ne_m3_3, ne_m2_m5, ne_m2_m4, ne_m2_m3, ne_m2_m1, ne_m2_0, ne_m2_1, ne_m2_2, ne_m2_3, ne_m1_m5, ne_m1_m4, ne_m1_m3, ne_m1_m2, ne_m1_0, ne_m1_1, ne_m1_2, ne_m1_3, ne_0_m5, ne_0_m4, ne_0_m3, ne_0_m2, ne_0_m1, ne_0_1, ne_0_2, ne_0_3, ne_1_m5, ne_1_m4, ne_1_m3, ne_1_m2, ne_1_m1, ne_1_0, ne_1_2, ne_1_3, ne_2_m5, ne_2_m4, ne_2_m3, ne_2_m2, ne_2_m1, ne_2_0, ne_2_1, ne_2_3, ne_3_m5, ne_3_m4, ne_3_m3, ne_3_m2, ne_3_m1, ne_3_0, ne_3_1, ne_3_2, le0_m5, lt0_m5, le0_m4, lt0_m4, le0_m3, lt0_m3, le0_m2, lt0_m2, le0_m1, lt0_m1, le0_0, lt0_0, le0_1, lt0_1, le0_2, lt0_2, le0_3, lt0_3, Nat.reduceLT, Nat.reduceLeDiff, ne_eq, not_true_eq_false, not_false_eq_true, true_and, and_true, Nat.succ_ne_self, bI_0, bI_1, Classical.not_not, and_self, or_self, or_true, true_or, false_or, or_false, and_false, false_and, upd_ap, m1]
  · have d0 : (nI d < 0) = False := nI_lt0 (by omega)
    have d8 : ((8 : Int32) ≤ nI d) = False := eq_false (by rw [show (8 : Int32) = nI 8 from rfl, nI_leP (by omega) (by omega)]; omega)
    have l1 : d < tEAST.length := Nat.lt_of_le_of_lt hd (by decide)
    have l2 : d < tSOUTH.length := Nat.lt_of_le_of_lt hd (by decide)
    rw [e1, e2]
    simp (disch := first | assumption | omega | rfl | (simp only [zpi_d, zpl_d, zpr_1, zpr_2, zpq_1, zpq_2, zpr_o, zpq_o, Nat.reduceAdd, Nat.reduceEqDiff, Nat.reduceMul, reduceIte, ite_true, ite_false, if_true, if_false, reduceCtorEq, eq_self, iff_self, i_T, i_F, implies_true, false_and, and_false, ne_m5_m4, ne_m5_m3, ne_m5_m2, ne_m5_m1, ne_m5_0, ne_m5_1, ne_m5_2, ne_m5_3, ne_m4_m5, ne_m4_m3, ne_m4_m2, ne_m4_m1, ne_m4_0, ne_m4_1, ne_m4_2, ne_m4_3, ne_m3_m5, ne_m3_m4, ne_m3_m2, ne_m3_m1, ne_m3_0, ne_m3_1, ne_m3_2, ne_m3_3, ne_m2_m5, ne_m2_m4, ne_m2_m3, ne_m2_m1, ne_m2_0, ne_m2_1, ne_m2_2, ne_m2_3, ne_m1_m5, ne_m1_m4, ne_m1_m3, ne_m1_m2, ne_m1_0, ne_m1_1, ne_m1_2, ne_m1_3, ne_0_m5, ne_0_m4, ne_0_m3, ne_0_m2, ne_0_m1, ne_0_1, ne_0_2, ne_0_3, ne_1_m5, ne_1_m4, ne_1_m3, ne_1_m2, ne_1_m1, ne_1_0, ne_1_2, ne_1_3, ne_2_m5, ne_2_m4, ne_2_m3, ne_2_m2, ne_2_m1, ne_2_0, ne_2_1, ne_2_3, ne_3_m5, ne_3_m4, ne_3_m3, ne_3_m2, ne_3_m1, ne_3_0, ne_3_1, ne_3_2, le0_m5, lt0_m5, le0_m4, lt0_m4, le0_m3, lt0_m3, le0_m2, lt0_m2, le0_m1, lt0_m1, le0_0, lt0_0, le0_1, lt0_1, le0_2, lt0_2, le0_3, lt0_3, Nat.reduceLT, Nat.reduceLeDiff, ne_eq, not_true_eq_false, not_false_eq_true, true_and, and_true, Nat.succ_ne_self, upd_ap] <;> assumption) | fail) only [q_ret, q_gi, q_gl, q_si, q_sl, q_j, q_b, q_eq, q_lt, q_le, q_nz2, q_nz8, q_nz10, q_nz16, q_nz24, q_rz0, q_rz1, q_rzb, i_T, i_F, not_true_eq_false, not_false_eq_true, true_and, and_true, implies_true, q_al_0, q_al_1, q_al_2, q_al_3, q_al_4, q_al_5, q_al_6, q_al_7, q_as_0, q_as_1, q_as_2, q_as_3, q_as_4, q_as_5, q_as_6, q_as_7, q_a42, q_s42, q_alN, q_asN, q_allN, q_aslN, q_am_0, q_am_1, q_am_2, q_am_3, q_am_4, q_am_5, q_am_6, q_ms_0, q_ms_1, q_ms_2, q_ms_3, q_ms_4, q_ms_5, q_ms_6, zpi_d, zpl_d, zpr_1, zpr_2, zpq_1, zpq_2, zpr_o, zpq_o, Nat.reduceAdd, Nat.reduceEqDiff, Nat.reduceMul, reduceIte, ite_true, ite_false, if_true, if_false, reduceCtorEq, eq_self, iff_self, i_T, i_F, implies_true, false_and, and_false, ne_m5_m4, ne_m5_m3, ne_m5_m2, ne_m5_m1, ne_m5_0, ne_m5_1, ne_m5_2, ne_m5_3, ne_m4_m5, ne_m4_m3, ne_m4_m2, ne_m4_m1, ne_m4_0, ne_m4_1, ne_m4_2, ne_m4_3, ne_m3_m5, ne_m3_m4, ne_m3_m2, ne_m3_m1, ne_m3_0, ne_m3_1, ne_m3_2, ne_m3_3, ne_m2_m5, ne_m2_m4, ne_m2_m3, ne_m2_m1, ne_m2_0, ne_m2_1, ne_m2_2, ne_m2_3, ne_m1_m5, ne_m1_m4, ne_m1_m3, ne_m1_m2, ne_m1_0, ne_m1_1, ne_m1_2, ne_m1_3, ne_0_m5, ne_0_m4, ne_0_m3, ne_0_m2, ne_0_m1, ne_0_1, ne_0_2, ne_0_3, ne_1_m5, ne_1_m4, ne_1_m3, ne_1_m2, ne_1_m1, ne_1_0, ne_1_2, ne_1_3, ne_2_m5, ne_2_m4, ne_2_m3, ne_2_m2, ne_2_m1, ne_2_0, ne_2_1, ne_2_3, ne_3_m5, ne_3_m4, ne_3_m3, ne_3_m2, ne_3_m1, ne_3_0, ne_3_1, ne_3_2, le0_m5, lt0_m5, le0_m4, lt0_m4, le0_m3, lt0_m3, le0_m2, lt0_m2, le0_m1, lt0_m1, le0_0, lt0_0, le0_1, lt0_1, le0_2, lt0_2, le0_3, lt0_3, Nat.reduceLT, Nat.reduceLeDiff, ne_eq, not_true_eq_false, not_false_eq_true, true_and, and_true, Nat.succ_ne_self, bI_0, bI_1, Classical.not_not, and_self, or_self, or_true, true_or, false_or, or_false, and_false, false_and, upd_ap, d0, d8, q_ta l1 (show d < 1000 by omega), q_ta l2 (show d < 1000 by omega), EAST_d d (by omega), SOUTH_d d (by omega)]
theorem L_winds {m R n : Nat} {v : z8} {S T : zS} (h : RC m R v n S T) : LL p_X11_winds p_X12_winds n S T := by
  obtain ⟨hH, ⟨⟨len, hl, l1, l2, l3⟩, hKe, hMk⟩, hP, hAn⟩ := id h
  obtain ⟨to, hto⟩ : ∃ to, to = min 29 len := ⟨_, rfl⟩
  obtain ⟨S0, T0, hRP, hPI, eo, eb, -⟩ := P_start (k := 29) hl (by omega) l1 l2 l3
  rw [← hto] at hRP
  have eo : ∀ Q, zq (p_X8_open (29 : Int32)) S Q = Q () S0 := eo
  have eb : ∀ Q, zq (p_X12_begins (29 : Int32)) (zpr T 0 (upd (T.1 0) 0 0)) Q = Q (nI len) T0 := eb
  unfold LL p_X11_winds p_X12_winds
  simp only [q_b (f := p_X8_open _), eo, q_si, zpi_d, q_b (f := p_X12_begins _), eb]
  refine r_bl ?_
  refine r_q (fun Qf hQ => ?_)
  unfold p_X10_read
  have q29 : ∀ {p : Nat} {w : Int32} {T1 : zS} {Q : Int32 → zS → Prop}, p ≤ to → T1.1 0 17 = nI p → T1.1 0 18 = nI to → zq (p_X12_faultOf (nI len) (29 : Int32) w) T1 Q = Q (if w ≠ 0 ∧ p = len then 0 else -1 - nI p) T1 := fun {p w T1 Q} hp e1 e2 => q_fault (k := 29) hl (by omega) (by rw [hto] at hp; exact hp) e1 (by rw [hto] at e2; exact e2)
  have kM : ∀ (w : Int32) (p : Nat) (S1 T1 : zS), RP S1 T1 p to → PI len S T S1 T1 → (w = 0 ∨ ¬ p = len) → zq (zb (p_X12_faultOf (nI len) ((29 : Int32)) w) (fun x14 => zle (0 : Int32) x14 (zlp (p_X12_winds_b80) zNF ((0 : Int32), (0 : Int32)) (fun e18 => zret e18)) (zret x14))) T1 (Qf 0 S1) := by
    intro w p S1 T1 hp hI hw
    have hto80 : to ≤ 80 := by omega
    have hpt := hp.1
    have c1 : ¬ (w ≠ 0 ∧ p = len) := by
      rintro ⟨a, b⟩
      rcases hw with z | z
      · exact a z
      · exact z b
    rw [q_b, q29 hp.1 hp.2.2.2.2.1 hp.2.2.2.2.2.1, if_neg c1]
    simp only [q_le, fneg p (by omega), i_F, i_T, true_and, not_false_eq_true, q_ret]
    refine hQ _ _ _ _ ?_
    unfold p_X8_close p_X8_fault
    simp only [q_ret, q_gi, q_gl, q_si, q_sl, q_j, q_b, q_eq, q_lt, q_le, q_nz2, q_nz8, q_nz10, q_nz16, q_nz24, q_rz0, q_rz1, q_rzb, i_T, i_F, not_true_eq_false, not_false_eq_true, true_and, and_true, implies_true, q_al_0, q_al_1, q_al_2, q_al_3, q_al_4, q_al_5, q_al_6, q_al_7, q_as_0, q_as_1, q_as_2, q_as_3, q_as_4, q_as_5, q_as_6, q_as_7, q_a42, q_s42, q_alN, q_asN, q_allN, q_aslN, q_am_0, q_am_1, q_am_2, q_am_3, q_am_4, q_am_5, q_am_6, q_ms_0, q_ms_1, q_ms_2, q_ms_3, q_ms_4, q_ms_5, q_ms_6, zpi_d, zpl_d, zpr_1, zpr_2, zpq_1, zpq_2, zpr_o, zpq_o, Nat.reduceAdd, Nat.reduceEqDiff, Nat.reduceMul, reduceIte, ite_true, ite_false, if_true, if_false, reduceCtorEq, eq_self, iff_self, i_T, i_F, implies_true, false_and, and_false, ne_m5_m4, ne_m5_m3, ne_m5_m2, ne_m5_m1, ne_m5_0, ne_m5_1, ne_m5_2, ne_m5_3, ne_m4_m5, ne_m4_m3, ne_m4_m2, ne_m4_m1, ne_m4_0, ne_m4_1, ne_m4_2, ne_m4_3, ne_m3_m5, ne_m3_m4, ne_m3_m2, ne_m3_m1, ne_m3_0, ne_m3_1, ne_m3_2, ne_m3_3, ne_m2_m5, ne_m2_m4, ne_m2_m3, ne_m2_m1, ne_m2_0, ne_m2_1, ne_m2_2, ne_m2_3, ne_m1_m5, ne_m1_m4, ne_m1_m3, ne_m1_m2, ne_m1_0, ne_m1_1, ne_m1_2, ne_m1_3, ne_0_m5, ne_0_m4, ne_0_m3, ne_0_m2, ne_0_m1, ne_0_1, ne_0_2, ne_0_3, ne_1_m5, ne_1_m4, ne_1_m3, ne_1_m2, ne_1_m1, ne_1_0, ne_1_2, ne_1_3, ne_2_m5, ne_2_m4, ne_2_m3, ne_2_m2, ne_2_m1, ne_2_0, ne_2_1, ne_2_3, ne_3_m5, ne_3_m4, ne_3_m3, ne_3_m2, ne_3_m1, ne_3_0, ne_3_1, ne_3_2, le0_m5, lt0_m5, le0_m4, lt0_m4, le0_m3, lt0_m3, le0_m2, lt0_m2, le0_m1, lt0_m1, le0_0, lt0_0, le0_1, lt0_1, le0_2, lt0_2, le0_3, lt0_3, Nat.reduceLT, Nat.reduceLeDiff, ne_eq, not_true_eq_false, not_false_eq_true, true_and, and_true, Nat.succ_ne_self, bI_0, bI_1, Classical.not_not, and_self, or_self, or_true, true_or, false_or, or_false, and_false, false_and, hp.2.2.1, upd_ap]
    exact P_fail h hI
  refine r_fo (A := Unit) (A' := Unit) (fun _ i => nI i) (fun _ i => ((1 : Int32), nI i)) 10 (fun _ _ i S1 T1 => (∃ p, RP S1 T1 p to) ∧ PI len S T S1 T1 ∧ ∀ j, j < i → WV j S1 T1) (by omega) ?_ ?_ () () 0 S0 T0 (Nat.zero_le _) ⟨⟨0, hRP⟩, hPI, fun j hj => absurd hj (Nat.not_lt_zero j)⟩
  · rintro _ _ i S1 T1 hi ⟨⟨p, hp⟩, hI, hw⟩ rc n' next
    have t10 : ((10 : Int32) ≤ nI i) = False := by rw [ten_le (by omega)]; exact eq_false (by omega)
    have out : ∀ (p : Nat) (S2 T2 : zS), RP S2 T2 p to → PI len S T S2 T2 → zq (zlp p_X12_winds_b16 (n' + 1) ((0 : Int32), nI (i + 1)) (fun e5 => zb (p_X12_faultOf (nI len) ((29 : Int32)) e5) (fun x14 => zle (0 : Int32) x14 (zlp (p_X12_winds_b80) zNF ((0 : Int32), (0 : Int32)) (fun e18 => zret e18)) (zret x14)))) T2 (Qf 0 S2) := by
      intro p S2 T2 hp hI
      show zq (p_X12_winds_b16 _ _ _) T2 _
      unfold p_X12_winds_b16
      simp only [q_le, q_eq, i_T, i_F, not_true_eq_false, and_true]
      exact ⟨fun _ => kM 0 p S2 T2 hp hI (Or.inl rfl), fun _ => kM 0 p S2 T2 hp hI (Or.inl rfl)⟩
    have core : ∀ (p : Nat) (S2 T2 : zS), RP S2 T2 p to → PI len S T S2 T2 → (∀ j, j < i → WV j S2 T2) → zq (zb (p_X10_readOne (nI i)) (fun x7 => zeq x7 0 (zretz 0) (rc (nI (i + 1))))) S2 (fun r S3 => zq (zb (p_X12_readsWind (nI i)) (fun x12 => zeq x12 0 (zlp p_X12_winds_b16 (n' + 1) ((0 : Int32), nI (i + 1)) (fun e5 => zb (p_X12_faultOf (nI len) ((29 : Int32)) e5) (fun x14 => zle (0 : Int32) x14 (zlp (p_X12_winds_b80) zNF ((0 : Int32), (0 : Int32)) (fun e18 => zret e18)) (zret x14)))) (zlp p_X12_winds_b16 (n' + 1) ((1 : Int32), nI (i + 1)) (fun e5 => zb (p_X12_faultOf (nI len) ((29 : Int32)) e5) (fun x14 => zle (0 : Int32) x14 (zlp (p_X12_winds_b80) zNF ((0 : Int32), (0 : Int32)) (fun e18 => zret e18)) (zret x14)))))) T2 (Qf r S3)) := by
      intro p S2 T2 hp hI hw
      refine r_bb (q_mono (r_wind hi hp) ?_)
      intro r S3 g
      refine q_mono g ?_
      rintro r' T3 ⟨rfl, hr, ⟨p', hp'⟩, hf, hg⟩
      have hI3 := PI_W hI hf hg
      rcases hr with rfl | ⟨rfl, hWV⟩
      · simp only [q_eq, i_T, i_F, not_true_eq_false, and_true, q_rz0]
        exact out p' S3 T3 hp' hI3
      · simp only [q_eq, ne_1_0, i_T, i_F, not_false_eq_true, true_and]
        refine next () () S3 T3 ⟨⟨p', hp'⟩, hI3, fun j hj => ?_⟩
        by_cases e : j = i
        · rw [e]; exact hWV
        · exact WV_f (hw j (by omega)) hf hg (by omega)
    unfold p_X10_read_b2
    by_cases hz : i = 0
    · subst hz
      have z0 : (nI 0 ≤ 0) = True := eq_true (by decide)
      have ze : (nI 0 = 0) = True := eq_true rfl
      have := core p S1 T1 hp hI hw
      simp only [q_le, t10, z0, ze, i_T, i_F, not_false_eq_true, true_and, not_true_eq_false, and_true, q_j, nI_1]
      unfold p_X12_winds_b16
      simp only [q_le, t10, z0, ze, q_eq, ne_1_0, i_T, i_F, not_false_eq_true, true_and, not_true_eq_false, and_true, q_j, nI_1]
      exact this
    · have z0 : (nI i ≤ 0) = False := eq_false (by rw [show (0 : Int32) = nI 0 from rfl, nI_leP (by omega) (by omega)]; omega)
      have ze : (nI i = 0) = False := eq_false (by rw [show (0 : Int32) = nI 0 from rfl, nI_eqP (by omega) (by omega)]; omega)
      simp only [q_le, t10, z0, ze, i_T, i_F, not_false_eq_true, true_and, not_true_eq_false, and_true, q_j, nI_1]
      unfold p_X12_winds_b16
      simp only [q_le, t10, z0, ze, q_eq, ne_1_0, i_T, i_F, not_false_eq_true, true_and, not_true_eq_false, and_true, q_j, nI_1]
      rcases r_take 47 hp with ⟨hpt, x1, y1⟩ | ⟨x1, y1⟩
      · have hs := RP_s hp hpt
        have f1 : fW 20 S1 (zpr S1 1 (upd (S1.1 1) 2 (nI (p + 1)))) := ⟨fun c a _ => zpr_n a, fun k a => by rw [zpr_1, if_pos rfl, upd_ap, if_neg a], fun k _ _ => by rw [zpr_n (by omega)], rfl⟩
        have g1 : gW 20 T1 (zpr T1 0 (upd (T1.1 0) 17 (nI (p + 1)))) := ⟨fun c a _ => zpr_n a, fun k a => by rw [zpr_1, if_pos rfl, upd_ap, if_neg a], fun k _ _ => by rw [zpr_n (by omega)], rfl⟩
        have := core (p + 1) _ _ hs (PI_W hI f1 g1) (fun j hj => WV_f (hw j hj) f1 g1 (by omega))
        refine r_bb ?_
        simp only [x1, y1, q_eq, ne_1_0, i_T, i_F, not_false_eq_true, true_and, not_true_eq_false, and_true]
        exact this
      · refine r_bb ?_
        simp only [x1, y1, q_eq, i_T, i_F, not_false_eq_true, true_and, not_true_eq_false, and_true, q_rz0]
        exact out p S1 T1 hp hI
  · rintro _ _ S1 T1 ⟨⟨p, hp⟩, hI, hw⟩ rc n'
    have t10 : ((10 : Int32) ≤ nI 10) = True := by rw [ten_le (by omega)]; exact eq_true (by omega)
    have hp80 : p ≤ 80 := by have := hp.1; have := hp.2.1; omega
    unfold p_X10_read_b2 p_X12_winds_b16
    simp only [q_le, t10, i_T, i_F, not_true_eq_false, and_true]
    rw [q_b, q_isRead hp.2.2.1 hI.2.2.1 hp80 hl]
    by_cases hpl : p = len
    · simp only [bI_t hpl, q_eq, ne_1_0, i_F, i_T, true_and, not_false_eq_true]
      obtain ⟨g, hg⟩ : ∃ g, g = T1.1 11 := ⟨_, rfl⟩
      have hwp : ∀ j, j < 10 → wp g j ∧ S1.1 15 (2 * j) = g (2 * j) ∧ S1.1 15 (2 * j + 1) = g (2 * j + 1) := fun j hj => by
        obtain ⟨w1, w2, w3⟩ := hw j hj
        rw [hg]
        exact ⟨w3, w1, w2⟩
      refine q_q (fun Q2 h2 => ?_)
      refine q_for (A := Unit) (fun _ i => nI i) 10 (fun _ i S2 => fV S1 S2 ∧ ∀ j, j < i → S2.1 11 j = g (2 * j) ∧ S2.1 12 j = g (2 * j + 1) ∧ S2.1 13 j = (if g (2 * j) < 0 then 0 else ewd (g (2 * j)) * g (2 * j + 1)) ∧ S2.1 14 j = (if g (2 * j) < 0 then 0 else swd (g (2 * j)) * g (2 * j + 1))) (by omega) ?_ ?_ () 0 _ (Nat.zero_le _) ⟨⟨fun _ _ _ _ _ => rfl, rfl⟩, fun j hj => absurd hj (Nat.not_lt_zero j)⟩
      · rintro _ i S2 hi ⟨hV, hv⟩ rc2 nxt
        have t10 : ((10 : Int32) ≤ nI i) = False := by rw [ten_le (by omega)]; exact eq_false (by omega)
        have i1 : 2 * i < 20 := by omega
        have i2 : 2 * i + 1 < 20 := by omega
        obtain ⟨w1, w2, w3⟩ := hwp i hi
        have e15 : S2.1 15 = S1.1 15 := hV.1 15 (by omega) (by omega) (by omega) (by omega)
        unfold p_X10_read_b49
        simp (disch := first | assumption | omega | rfl | (simp only [zpi_d, zpl_d, zpr_1, zpr_2, zpq_1, zpq_2, zpr_o, zpq_o, Nat.reduceAdd, Nat.reduceEqDiff, Nat.reduceMul, reduceIte, ite_true, ite_false, if_true, if_false, reduceCtorEq, eq_self, iff_self, i_T, i_F, implies_true, false_and, and_false, ne_m5_m4, ne_m5_m3, ne_m5_m2, ne_m5_m1, ne_m5_0, ne_m5_1, ne_m5_2, ne_m5_3, ne_m4_m5, ne_m4_m3, ne_m4_m2, ne_m4_m1, ne_m4_0, ne_m4_1, ne_m4_2, ne_m4_3, ne_m3_m5, ne_m3_m4, ne_m3_m2, ne_m3_m1, ne_m3_0, ne_m3_1, ne_m3_2, ne_m3_3, ne_m2_m5, ne_m2_m4, ne_m2_m3, ne_m2_m1, ne_m2_0, ne_m2_1, ne_m2_2, ne_m2_3, ne_m1_m5, ne_m1_m4, ne_m1_m3, ne_m1_m2, ne_m1_0, ne_m1_1, ne_m1_2, ne_m1_3, ne_0_m5, ne_0_m4, ne_0_m3, ne_0_m2, ne_0_m1, ne_0_1, ne_0_2, ne_0_3, ne_1_m5, ne_1_m4, ne_1_m3, ne_1_m2, ne_1_m1, ne_1_0, ne_1_2, ne_1_3, ne_2_m5, ne_2_m4, ne_2_m3, ne_2_m2, ne_2_m1, ne_2_0, ne_2_1, ne_2_3, ne_3_m5, ne_3_m4, ne_3_m3, ne_3_m2, ne_3_m1, ne_3_0, ne_3_1, ne_3_2, le0_m5, lt0_m5, le0_m4, lt0_m4, le0_m3, lt0_m3, le0_m2, lt0_m2, le0_m1, lt0_m1, le0_0, lt0_0, le0_1, lt0_1, le0_2, lt0_2, le0_3, lt0_3, Nat.reduceLT, Nat.reduceLeDiff, ne_eq, not_true_eq_false, not_false_eq_true, true_and, and_true, Nat.succ_ne_self, upd_ap] <;> assumption) | fail) only [q_ret, q_gi, q_gl, q_si, q_sl, q_j, q_b, q_eq, q_lt, q_le, q_nz2, q_nz8, q_nz10, q_nz16, q_nz24, q_rz0, q_rz1, q_rzb, i_T, i_F, not_true_eq_false, not_false_eq_true, true_and, and_true, implies_true, q_al_0, q_al_1, q_al_2, q_al_3, q_al_4, q_al_5, q_al_6, q_al_7, q_as_0, q_as_1, q_as_2, q_as_3, q_as_4, q_as_5, q_as_6, q_as_7, q_a42, q_s42, q_alN, q_asN, q_allN, q_aslN, q_am_0, q_am_1, q_am_2, q_am_3, q_am_4, q_am_5, q_am_6, q_ms_0, q_ms_1, q_ms_2, q_ms_3, q_ms_4, q_ms_5, q_ms_6, zpi_d, zpl_d, zpr_1, zpr_2, zpq_1, zpq_2, zpr_o, zpq_o, Nat.reduceAdd, Nat.reduceEqDiff, Nat.reduceMul, reduceIte, ite_true, ite_false, if_true, if_false, reduceCtorEq, eq_self, iff_self, i_T, i_F, implies_true, false_and, and_false, ne_m5_m4, ne_m5_m3, ne_m5_m2, ne_m5_m1, ne_m5_0, ne_m5_1, ne_m5_2, ne_m5_3, ne_m4_m5, ne_m4_m3, ne_m4_m2, ne_m4_m1, ne_m4_0, ne_m4_1, ne_m4_2, ne_m4_3, ne_m3_m5, ne_m3_m4, ne_m3_m2, ne_m3_m1, ne_m3_0, ne_m3_1, ne_m3_2, ne_m3_3, ne_m2_m5, ne_m2_m4, ne_m2_m3, ne_m2_m1, ne_m2_0, ne_m2_1, ne_m2_2, ne_m2_3, ne_m1_m5, ne_m1_m4, ne_m1_m3, ne_m1_m2, ne_m1_0, ne_m1_1, ne_m1_2, ne_m1_3, ne_0_m5, ne_0_m4, ne_0_m3, ne_0_m2, ne_0_m1, ne_0_1, ne_0_2, ne_0_3, ne_1_m5, ne_1_m4, ne_1_m3, ne_1_m2, ne_1_m1, ne_1_0, ne_1_2, ne_1_3, ne_2_m5, ne_2_m4, ne_2_m3, ne_2_m2, ne_2_m1, ne_2_0, ne_2_1, ne_2_3, ne_3_m5, ne_3_m4, ne_3_m3, ne_3_m2, ne_3_m1, ne_3_0, ne_3_1, ne_3_2, le0_m5, lt0_m5, le0_m4, lt0_m4, le0_m3, lt0_m3, le0_m2, lt0_m2, le0_m1, lt0_m1, le0_0, lt0_0, le0_1, lt0_1, le0_2, lt0_2, le0_3, lt0_3, Nat.reduceLT, Nat.reduceLeDiff, ne_eq, not_true_eq_false, not_false_eq_true, true_and, and_true, Nat.succ_ne_self, bI_0, bI_1, Classical.not_not, and_self, or_self, or_true, true_or, false_or, or_false, and_false, false_and, t10, m2 i hi, nI_1, e15, w2, w3, x_put hi w1]
        refine nxt () _ ⟨⟨fun c a b d e => ?_, hV.2⟩, fun j hj => ?_⟩
        · simp only [zpi_d, zpl_d, zpr_1, zpr_2, zpq_1, zpq_2, zpr_o, zpq_o, Nat.reduceAdd, Nat.reduceEqDiff, Nat.reduceMul, reduceIte, ite_true, ite_false, if_true, if_false, reduceCtorEq, eq_self, iff_self, i_T, i_F, implies_true, false_and, and_false, ne_m5_m4, ne_m5_m3, ne_m5_m2, ne_m5_m1, ne_m5_0, ne_m5_1, ne_m5_2, ne_m5_3, ne_m4_m5, ne_m4_m3, ne_m4_m2, ne_m4_m1, ne_m4_0, ne_m4_1, ne_m4_2, ne_m4_3, ne_m3_m5, ne_m3_m4, ne_m3_m2, ne_m3_m1, ne_m3_0, ne_m3_1, ne_m3_2, ne_m3_3, ne_m2_m5, ne_m2_m4, ne_m2_m3, ne_m2_m1, ne_m2_0, ne_m2_1, ne_m2_2, ne_m2_3, ne_m1_m5, ne_m1_m4, ne_m1_m3, ne_m1_m2, ne_m1_0, ne_m1_1, ne_m1_2, ne_m1_3, ne_0_m5, ne_0_m4, ne_0_m3, ne_0_m2, ne_0_m1, ne_0_1, ne_0_2, ne_0_3, ne_1_m5, ne_1_m4, ne_1_m3, ne_1_m2, ne_1_m1, ne_1_0, ne_1_2, ne_1_3, ne_2_m5, ne_2_m4, ne_2_m3, ne_2_m2, ne_2_m1, ne_2_0, ne_2_1, ne_2_3, ne_3_m5, ne_3_m4, ne_3_m3, ne_3_m2, ne_3_m1, ne_3_0, ne_3_1, ne_3_2, le0_m5, lt0_m5, le0_m4, lt0_m4, le0_m3, lt0_m3, le0_m2, lt0_m2, le0_m1, lt0_m1, le0_0, lt0_0, le0_1, lt0_1, le0_2, lt0_2, le0_3, lt0_3, Nat.reduceLT, Nat.reduceLeDiff, ne_eq, not_true_eq_false, not_false_eq_true, true_and, and_true, Nat.succ_ne_self]; rw [if_neg a, if_neg b, if_neg d, if_neg e]; exact hV.1 c a b d e
        · simp only [zpi_d, zpl_d, zpr_1, zpr_2, zpq_1, zpq_2, zpr_o, zpq_o, Nat.reduceAdd, Nat.reduceEqDiff, Nat.reduceMul, reduceIte, ite_true, ite_false, if_true, if_false, reduceCtorEq, eq_self, iff_self, i_T, i_F, implies_true, false_and, and_false, ne_m5_m4, ne_m5_m3, ne_m5_m2, ne_m5_m1, ne_m5_0, ne_m5_1, ne_m5_2, ne_m5_3, ne_m4_m5, ne_m4_m3, ne_m4_m2, ne_m4_m1, ne_m4_0, ne_m4_1, ne_m4_2, ne_m4_3, ne_m3_m5, ne_m3_m4, ne_m3_m2, ne_m3_m1, ne_m3_0, ne_m3_1, ne_m3_2, ne_m3_3, ne_m2_m5, ne_m2_m4, ne_m2_m3, ne_m2_m1, ne_m2_0, ne_m2_1, ne_m2_2, ne_m2_3, ne_m1_m5, ne_m1_m4, ne_m1_m3, ne_m1_m2, ne_m1_0, ne_m1_1, ne_m1_2, ne_m1_3, ne_0_m5, ne_0_m4, ne_0_m3, ne_0_m2, ne_0_m1, ne_0_1, ne_0_2, ne_0_3, ne_1_m5, ne_1_m4, ne_1_m3, ne_1_m2, ne_1_m1, ne_1_0, ne_1_2, ne_1_3, ne_2_m5, ne_2_m4, ne_2_m3, ne_2_m2, ne_2_m1, ne_2_0, ne_2_1, ne_2_3, ne_3_m5, ne_3_m4, ne_3_m3, ne_3_m2, ne_3_m1, ne_3_0, ne_3_1, ne_3_2, le0_m5, lt0_m5, le0_m4, lt0_m4, le0_m3, lt0_m3, le0_m2, lt0_m2, le0_m1, lt0_m1, le0_0, lt0_0, le0_1, lt0_1, le0_2, lt0_2, le0_3, lt0_3, Nat.reduceLT, Nat.reduceLeDiff, ne_eq, not_true_eq_false, not_false_eq_true, true_and, and_true, Nat.succ_ne_self, upd_ap]
          by_cases e : j = i
          · rw [e]; simp only [if_true, and_self]
          · simp only [if_neg e]; exact hv j (by omega)
      · rintro _ S2 ⟨hV, hv⟩ rc2
        unfold p_X10_read_b49
        simp only [q_le, t10, i_T, i_F, not_true_eq_false, and_true, q_rz1]
        refine h2 _ _ ?_
        rw [q_b, q29 hp.1 hp.2.2.2.2.1 hp.2.2.2.2.2.1, if_pos ⟨by decide, hpl⟩]
        simp only [q_le, le0_0, i_T, i_F, not_true_eq_false, and_true]
        refine q_q (fun Q3 h3' => ?_)
        refine q_for (A := Int32) (fun w i => (w, nI i)) 10 (fun w i T2 => w = nI (cW g i) ∧ (∀ c, c ≠ 6 → c ≠ 7 → T2.1 c = T1.1 c) ∧ T2.2 = T1.2 ∧ ∀ j, j < i → T2.1 6 j = g (2 * j) ∧ T2.1 7 j = g (2 * j + 1)) (by omega) ?_ ?_ 0 0 _ (Nat.zero_le _) ⟨rfl, fun _ _ _ => rfl, rfl, fun j hj => absurd hj (Nat.not_lt_zero j)⟩
        · rintro w i T2 hi ⟨rfl, h1, h2, h3⟩ rc3 nxt
          have t10 : ((10 : Int32) ≤ nI i) = False := by rw [ten_le (by omega)]; exact eq_false (by omega)
          have i1 : 2 * i < 32 := by omega
          have i2 : 2 * i + 1 < 32 := by omega
          have e11 : T2.1 11 = g := by rw [h1 11 (by omega) (by omega), hg]
          have stp : ∀ w, w = nI (cW g (i + 1)) → zq (rc3 (w, nI (i + 1))) (zpr (zpr T2 6 (upd (T2.1 6) i (g (2 * i)))) 7 (upd (T2.1 7) i (g (2 * i + 1)))) Q3 := fun w ew => nxt w _ ⟨ew, fun c a b => by simp only [zpi_d, zpl_d, zpr_1, zpr_2, zpq_1, zpq_2, zpr_o, zpq_o, Nat.reduceAdd, Nat.reduceEqDiff, Nat.reduceMul, reduceIte, ite_true, ite_false, if_true, if_false, reduceCtorEq, eq_self, iff_self, i_T, i_F, implies_true, false_and, and_false, ne_m5_m4, ne_m5_m3, ne_m5_m2, ne_m5_m1, ne_m5_0, ne_m5_1, ne_m5_2, ne_m5_3, ne_m4_m5, ne_m4_m3, ne_m4_m2, ne_m4_m1, ne_m4_0, ne_m4_1, ne_m4_2, ne_m4_3, ne_m3_m5, ne_m3_m4, ne_m3_m2, ne_m3_m1, ne_m3_0, ne_m3_1, ne_m3_2, ne_m3_3, ne_m2_m5, ne_m2_m4, ne_m2_m3, ne_m2_m1, ne_m2_0, ne_m2_1, ne_m2_2, ne_m2_3, ne_m1_m5, ne_m1_m4, ne_m1_m3, ne_m1_m2, ne_m1_0, ne_m1_1, ne_m1_2, ne_m1_3, ne_0_m5, ne_0_m4, ne_0_m3, ne_0_m2, ne_0_m1, ne_0_1, ne_0_2, ne_0_3, ne_1_m5, ne_1_m4, ne_1_m3, ne_1_m2, ne_1_m1, ne_1_0, ne_1_2, ne_1_3, ne_2_m5, ne_2_m4, ne_2_m3, ne_2_m2, ne_2_m1, ne_2_0, ne_2_1, ne_2_3, ne_3_m5, ne_3_m4, ne_3_m3, ne_3_m2, ne_3_m1, ne_3_0, ne_3_1, ne_3_2, le0_m5, lt0_m5, le0_m4, lt0_m4, le0_m3, lt0_m3, le0_m2, lt0_m2, le0_m1, lt0_m1, le0_0, lt0_0, le0_1, lt0_1, le0_2, lt0_2, le0_3, lt0_3, Nat.reduceLT, Nat.reduceLeDiff, ne_eq, not_true_eq_false, not_false_eq_true, true_and, and_true, Nat.succ_ne_self]; rw [if_neg a, if_neg b]; exact h1 c a b, h2, fun j hj => by
            simp only [zpi_d, zpl_d, zpr_1, zpr_2, zpq_1, zpq_2, zpr_o, zpq_o, Nat.reduceAdd, Nat.reduceEqDiff, Nat.reduceMul, reduceIte, ite_true, ite_false, if_true, if_false, reduceCtorEq, eq_self, iff_self, i_T, i_F, implies_true, false_and, and_false, ne_m5_m4, ne_m5_m3, ne_m5_m2, ne_m5_m1, ne_m5_0, ne_m5_1, ne_m5_2, ne_m5_3, ne_m4_m5, ne_m4_m3, ne_m4_m2, ne_m4_m1, ne_m4_0, ne_m4_1, ne_m4_2, ne_m4_3, ne_m3_m5, ne_m3_m4, ne_m3_m2, ne_m3_m1, ne_m3_0, ne_m3_1, ne_m3_2, ne_m3_3, ne_m2_m5, ne_m2_m4, ne_m2_m3, ne_m2_m1, ne_m2_0, ne_m2_1, ne_m2_2, ne_m2_3, ne_m1_m5, ne_m1_m4, ne_m1_m3, ne_m1_m2, ne_m1_0, ne_m1_1, ne_m1_2, ne_m1_3, ne_0_m5, ne_0_m4, ne_0_m3, ne_0_m2, ne_0_m1, ne_0_1, ne_0_2, ne_0_3, ne_1_m5, ne_1_m4, ne_1_m3, ne_1_m2, ne_1_m1, ne_1_0, ne_1_2, ne_1_3, ne_2_m5, ne_2_m4, ne_2_m3, ne_2_m2, ne_2_m1, ne_2_0, ne_2_1, ne_2_3, ne_3_m5, ne_3_m4, ne_3_m3, ne_3_m2, ne_3_m1, ne_3_0, ne_3_1, ne_3_2, le0_m5, lt0_m5, le0_m4, lt0_m4, le0_m3, lt0_m3, le0_m2, lt0_m2, le0_m1, lt0_m1, le0_0, lt0_0, le0_1, lt0_1, le0_2, lt0_2, le0_3, lt0_3, Nat.reduceLT, Nat.reduceLeDiff, ne_eq, not_true_eq_false, not_false_eq_true, true_and, and_true, Nat.succ_ne_self, upd_ap]
            by_cases e : j = i
            · rw [e]; simp only [if_true, and_self]
            · simp only [if_neg e]; exact h3 j (by omega)⟩
          unfold p_X12_winds_b80 p_X12_flag
          by_cases hneg : g (2 * i) < 0
          · simp (disch := first | assumption | omega | rfl | (simp only [zpi_d, zpl_d, zpr_1, zpr_2, zpq_1, zpq_2, zpr_o, zpq_o, Nat.reduceAdd, Nat.reduceEqDiff, Nat.reduceMul, reduceIte, ite_true, ite_false, if_true, if_false, reduceCtorEq, eq_self, iff_self, i_T, i_F, implies_true, false_and, and_false, ne_m5_m4, ne_m5_m3, ne_m5_m2, ne_m5_m1, ne_m5_0, ne_m5_1, ne_m5_2, ne_m5_3, ne_m4_m5, ne_m4_m3, ne_m4_m2, ne_m4_m1, ne_m4_0, ne_m4_1, ne_m4_2, ne_m4_3, ne_m3_m5, ne_m3_m4, ne_m3_m2, ne_m3_m1, ne_m3_0, ne_m3_1, ne_m3_2, ne_m3_3, ne_m2_m5, ne_m2_m4, ne_m2_m3, ne_m2_m1, ne_m2_0, ne_m2_1, ne_m2_2, ne_m2_3, ne_m1_m5, ne_m1_m4, ne_m1_m3, ne_m1_m2, ne_m1_0, ne_m1_1, ne_m1_2, ne_m1_3, ne_0_m5, ne_0_m4, ne_0_m3, ne_0_m2, ne_0_m1, ne_0_1, ne_0_2, ne_0_3, ne_1_m5, ne_1_m4, ne_1_m3, ne_1_m2, ne_1_m1, ne_1_0, ne_1_2, ne_1_3, ne_2_m5, ne_2_m4, ne_2_m3, ne_2_m2, ne_2_m1, ne_2_0, ne_2_1, ne_2_3, ne_3_m5, ne_3_m4, ne_3_m3, ne_3_m2, ne_3_m1, ne_3_0, ne_3_1, ne_3_2, le0_m5, lt0_m5, le0_m4, lt0_m4, le0_m3, lt0_m3, le0_m2, lt0_m2, le0_m1, lt0_m1, le0_0, lt0_0, le0_1, lt0_1, le0_2, lt0_2, le0_3, lt0_3, Nat.reduceLT, Nat.reduceLeDiff, ne_eq, not_true_eq_false, not_false_eq_true, true_and, and_true, Nat.succ_ne_self, upd_ap] <;> assumption) | fail) only [q_ret, q_gi, q_gl, q_si, q_sl, q_j, q_b, q_eq, q_lt, q_le, q_nz2, q_nz8, q_nz10, q_nz16, q_nz24, q_rz0, q_rz1, q_rzb, i_T, i_F, not_true_eq_false, not_false_eq_true, true_and, and_true, implies_true, q_al_0, q_al_1, q_al_2, q_al_3, q_al_4, q_al_5, q_al_6, q_al_7, q_as_0, q_as_1, q_as_2, q_as_3, q_as_4, q_as_5, q_as_6, q_as_7, q_a42, q_s42, q_alN, q_asN, q_allN, q_aslN, q_am_0, q_am_1, q_am_2, q_am_3, q_am_4, q_am_5, q_am_6, q_ms_0, q_ms_1, q_ms_2, q_ms_3, q_ms_4, q_ms_5, q_ms_6, zpi_d, zpl_d, zpr_1, zpr_2, zpq_1, zpq_2, zpr_o, zpq_o, Nat.reduceAdd, Nat.reduceEqDiff, Nat.reduceMul, reduceIte, ite_true, ite_false, if_true, if_false, reduceCtorEq, eq_self, iff_self, i_T, i_F, implies_true, false_and, and_false, ne_m5_m4, ne_m5_m3, ne_m5_m2, ne_m5_m1, ne_m5_0, ne_m5_1, ne_m5_2, ne_m5_3, ne_m4_m5, ne_m4_m3, ne_m4_m2, ne_m4_m1, ne_m4_0, ne_m4_1, ne_m4_2, ne_m4_3, ne_m3_m5, ne_m3_m4, ne_m3_m2, ne_m3_m1, ne_m3_0, ne_m3_1, ne_m3_2, ne_m3_3, ne_m2_m5, ne_m2_m4, ne_m2_m3, ne_m2_m1, ne_m2_0, ne_m2_1, ne_m2_2, ne_m2_3, ne_m1_m5, ne_m1_m4, ne_m1_m3, ne_m1_m2, ne_m1_0, ne_m1_1, ne_m1_2, ne_m1_3, ne_0_m5, ne_0_m4, ne_0_m3, ne_0_m2, ne_0_m1, ne_0_1, ne_0_2, ne_0_3, ne_1_m5, ne_1_m4, ne_1_m3, ne_1_m2, ne_1_m1, ne_1_0, ne_1_2, ne_1_3, ne_2_m5, ne_2_m4, ne_2_m3, ne_2_m2, ne_2_m1, ne_2_0, ne_2_1, ne_2_3, ne_3_m5, ne_3_m4, ne_3_m3, ne_3_m2, ne_3_m1, ne_3_0, ne_3_1, ne_3_2, le0_m5, lt0_m5, le0_m4, lt0_m4, le0_m3, lt0_m3, le0_m2, lt0_m2, le0_m1, lt0_m1, le0_0, lt0_0, le0_1, lt0_1, le0_2, lt0_2, le0_3, lt0_3, Nat.reduceLT, Nat.reduceLeDiff, ne_eq, not_true_eq_false, not_false_eq_true, true_and, and_true, Nat.succ_ne_self, bI_0, bI_1, Classical.not_not, and_self, or_self, or_true, true_or, false_or, or_false, and_false, false_and, t10, m2 i hi, nI_1, e11, upd_ap, hneg]
            exact stp _ (by rw [cW, if_pos hneg, Int32.add_zero, Nat.add_zero])
          · simp (disch := first | assumption | omega | rfl | (simp only [zpi_d, zpl_d, zpr_1, zpr_2, zpq_1, zpq_2, zpr_o, zpq_o, Nat.reduceAdd, Nat.reduceEqDiff, Nat.reduceMul, reduceIte, ite_true, ite_false, if_true, if_false, reduceCtorEq, eq_self, iff_self, i_T, i_F, implies_true, false_and, and_false, ne_m5_m4, ne_m5_m3, ne_m5_m2, ne_m5_m1, ne_m5_0, ne_m5_1, ne_m5_2, ne_m5_3, ne_m4_m5, ne_m4_m3, ne_m4_m2, ne_m4_m1, ne_m4_0, ne_m4_1, ne_m4_2, ne_m4_3, ne_m3_m5, ne_m3_m4, ne_m3_m2, ne_m3_m1, ne_m3_0, ne_m3_1, ne_m3_2, ne_m3_3, ne_m2_m5, ne_m2_m4, ne_m2_m3, ne_m2_m1, ne_m2_0, ne_m2_1, ne_m2_2, ne_m2_3, ne_m1_m5, ne_m1_m4, ne_m1_m3, ne_m1_m2, ne_m1_0, ne_m1_1, ne_m1_2, ne_m1_3, ne_0_m5, ne_0_m4, ne_0_m3, ne_0_m2, ne_0_m1, ne_0_1, ne_0_2, ne_0_3, ne_1_m5, ne_1_m4, ne_1_m3, ne_1_m2, ne_1_m1, ne_1_0, ne_1_2, ne_1_3, ne_2_m5, ne_2_m4, ne_2_m3, ne_2_m2, ne_2_m1, ne_2_0, ne_2_1, ne_2_3, ne_3_m5, ne_3_m4, ne_3_m3, ne_3_m2, ne_3_m1, ne_3_0, ne_3_1, ne_3_2, le0_m5, lt0_m5, le0_m4, lt0_m4, le0_m3, lt0_m3, le0_m2, lt0_m2, le0_m1, lt0_m1, le0_0, lt0_0, le0_1, lt0_1, le0_2, lt0_2, le0_3, lt0_3, Nat.reduceLT, Nat.reduceLeDiff, ne_eq, not_true_eq_false, not_false_eq_true, true_and, and_true, Nat.succ_ne_self, upd_ap] <;> assumption) | fail) only [q_ret, q_gi, q_gl, q_si, q_sl, q_j, q_b, q_eq, q_lt, q_le, q_nz2, q_nz8, q_nz10, q_nz16, q_nz24, q_rz0, q_rz1, q_rzb, i_T, i_F, not_true_eq_false, not_false_eq_true, true_and, and_true, implies_true, q_al_0, q_al_1, q_al_2, q_al_3, q_al_4, q_al_5, q_al_6, q_al_7, q_as_0, q_as_1, q_as_2, q_as_3, q_as_4, q_as_5, q_as_6, q_as_7, q_a42, q_s42, q_alN, q_asN, q_allN, q_aslN, q_am_0, q_am_1, q_am_2, q_am_3, q_am_4, q_am_5, q_am_6, q_ms_0, q_ms_1, q_ms_2, q_ms_3, q_ms_4, q_ms_5, q_ms_6, zpi_d, zpl_d, zpr_1, zpr_2, zpq_1, zpq_2, zpr_o, zpq_o, Nat.reduceAdd, Nat.reduceEqDiff, Nat.reduceMul, reduceIte, ite_true, ite_false, if_true, if_false, reduceCtorEq, eq_self, iff_self, i_T, i_F, implies_true, false_and, and_false, ne_m5_m4, ne_m5_m3, ne_m5_m2, ne_m5_m1, ne_m5_0, ne_m5_1, ne_m5_2, ne_m5_3, ne_m4_m5, ne_m4_m3, ne_m4_m2, ne_m4_m1, ne_m4_0, ne_m4_1, ne_m4_2, ne_m4_3, ne_m3_m5, ne_m3_m4, ne_m3_m2, ne_m3_m1, ne_m3_0, ne_m3_1, ne_m3_2, ne_m3_3, ne_m2_m5, ne_m2_m4, ne_m2_m3, ne_m2_m1, ne_m2_0, ne_m2_1, ne_m2_2, ne_m2_3, ne_m1_m5, ne_m1_m4, ne_m1_m3, ne_m1_m2, ne_m1_0, ne_m1_1, ne_m1_2, ne_m1_3, ne_0_m5, ne_0_m4, ne_0_m3, ne_0_m2, ne_0_m1, ne_0_1, ne_0_2, ne_0_3, ne_1_m5, ne_1_m4, ne_1_m3, ne_1_m2, ne_1_m1, ne_1_0, ne_1_2, ne_1_3, ne_2_m5, ne_2_m4, ne_2_m3, ne_2_m2, ne_2_m1, ne_2_0, ne_2_1, ne_2_3, ne_3_m5, ne_3_m4, ne_3_m3, ne_3_m2, ne_3_m1, ne_3_0, ne_3_1, ne_3_2, le0_m5, lt0_m5, le0_m4, lt0_m4, le0_m3, lt0_m3, le0_m2, lt0_m2, le0_m1, lt0_m1, le0_0, lt0_0, le0_1, lt0_1, le0_2, lt0_2, le0_3, lt0_3, Nat.reduceLT, Nat.reduceLeDiff, ne_eq, not_true_eq_false, not_false_eq_true, true_and, and_true, Nat.succ_ne_self, bI_0, bI_1, Classical.not_not, and_self, or_self, or_true, true_or, false_or, or_false, and_false, false_and, t10, m2 i hi, nI_1, e11, upd_ap, hneg]
            exact stp _ (by rw [cW, if_neg hneg])
        · rintro w T2 ⟨rfl, h1, h2, h3⟩ rc3
          unfold p_X12_winds_b80
          simp only [q_le, t10, i_T, i_F, not_true_eq_false, and_true, q_ret]
          refine h3' _ _ (hQ _ _ _ _ ?_)
          unfold p_X8_close
          simp only [q_b, q_si, q_ret, q_eq, ne_1_0, i_F, i_T, true_and, not_false_eq_true, zpi_d]
          unfold p_X10_blowing
          refine q_for (A := Int32) (fun w i => (w, nI i)) 10 (fun w i S3 => w = nI (cW g i) ∧ S3 = zpr S2 1 (upd (S2.1 1) 3 0)) (by omega) ?_ ?_ 0 0 _ (Nat.zero_le _) ⟨rfl, rfl⟩
          · rintro w i S3 hi ⟨rfl, rfl⟩ rc4 nxt
            have t10 : ((10 : Int32) ≤ nI i) = False := by rw [ten_le (by omega)]; exact eq_false (by omega)
            obtain ⟨-, e12, -⟩ := hv i hi
            have stp : ∀ w, w = nI (cW g (i + 1)) → zq (rc4 (w, nI (i + 1))) (zpr S2 1 (upd (S2.1 1) 3 0)) _ := fun w ew => nxt w _ ⟨ew, rfl⟩
            unfold p_X10_blowing_b4
            rcases (hwp i hi).1 with ⟨e1, e2⟩ | ⟨⟨d, hd, e1⟩, j, hj, hj3, e2⟩
            · simp (disch := first | assumption | omega | rfl | (simp only [zpi_d, zpl_d, zpr_1, zpr_2, zpq_1, zpq_2, zpr_o, zpq_o, Nat.reduceAdd, Nat.reduceEqDiff, Nat.reduceMul, reduceIte, ite_true, ite_false, if_true, if_false, reduceCtorEq, eq_self, iff_self, i_T, i_F, implies_true, false_and, and_false, ne_m5_m4, ne_m5_m3, ne_m5_m2, ne_m5_m1, ne_m5_0, ne_m5_1, ne_m5_2, ne_m5_3, ne_m4_m5, ne_m4_m3, ne_m4_m2, ne_m4_m1, ne_m4_0, ne_m4_1, ne_m4_2, ne_m4_3, ne_m3_m5, ne_m3_m4, ne_m3_m2, ne_m3_m1, ne_m3_0, ne_m3_1, ne_m3_2, ne_m3_3, ne_m2_m5, ne_m2_m4, ne_m2_m3, ne_m2_m1, ne_m2_0, ne_m2_1, ne_m2_2, ne_m2_3, ne_m1_m5, ne_m1_m4, ne_m1_m3, ne_m1_m2, ne_m1_0, ne_m1_1, ne_m1_2, ne_m1_3, ne_0_m5, ne_0_m4, ne_0_m3, ne_0_m2, ne_0_m1, ne_0_1, ne_0_2, ne_0_3, ne_1_m5, ne_1_m4, ne_1_m3, ne_1_m2, ne_1_m1, ne_1_0, ne_1_2, ne_1_3, ne_2_m5, ne_2_m4, ne_2_m3, ne_2_m2, ne_2_m1, ne_2_0, ne_2_1, ne_2_3, ne_3_m5, ne_3_m4, ne_3_m3, ne_3_m2, ne_3_m1, ne_3_0, ne_3_1, ne_3_2, le0_m5, lt0_m5, le0_m4, lt0_m4, le0_m3, lt0_m3, le0_m2, lt0_m2, le0_m1, lt0_m1, le0_0, lt0_0, le0_1, lt0_1, le0_2, lt0_2, le0_3, lt0_3, Nat.reduceLT, Nat.reduceLeDiff, ne_eq, not_true_eq_false, not_false_eq_true, true_and, and_true, Nat.succ_ne_self, upd_ap] <;> assumption) | fail) only [q_ret, q_gi, q_gl, q_si, q_sl, q_j, q_b, q_eq, q_lt, q_le, q_nz2, q_nz8, q_nz10, q_nz16, q_nz24, q_rz0, q_rz1, q_rzb, i_T, i_F, not_true_eq_false, not_false_eq_true, true_and, and_true, implies_true, q_al_0, q_al_1, q_al_2, q_al_3, q_al_4, q_al_5, q_al_6, q_al_7, q_as_0, q_as_1, q_as_2, q_as_3, q_as_4, q_as_5, q_as_6, q_as_7, q_a42, q_s42, q_alN, q_asN, q_allN, q_aslN, q_am_0, q_am_1, q_am_2, q_am_3, q_am_4, q_am_5, q_am_6, q_ms_0, q_ms_1, q_ms_2, q_ms_3, q_ms_4, q_ms_5, q_ms_6, zpi_d, zpl_d, zpr_1, zpr_2, zpq_1, zpq_2, zpr_o, zpq_o, Nat.reduceAdd, Nat.reduceEqDiff, Nat.reduceMul, reduceIte, ite_true, ite_false, if_true, if_false, reduceCtorEq, eq_self, iff_self, i_T, i_F, implies_true, false_and, and_false, ne_m5_m4, ne_m5_m3, ne_m5_m2, ne_m5_m1, ne_m5_0, ne_m5_1, ne_m5_2, ne_m5_3, ne_m4_m5, ne_m4_m3, ne_m4_m2, ne_m4_m1, ne_m4_0, ne_m4_1, ne_m4_2, ne_m4_3, ne_m3_m5, ne_m3_m4, ne_m3_m2, ne_m3_m1, ne_m3_0, ne_m3_1, ne_m3_2, ne_m3_3, ne_m2_m5, ne_m2_m4, ne_m2_m3, ne_m2_m1, ne_m2_0, ne_m2_1, ne_m2_2, ne_m2_3, ne_m1_m5, ne_m1_m4, ne_m1_m3, ne_m1_m2, ne_m1_0, ne_m1_1, ne_m1_2, ne_m1_3, ne_0_m5, ne_0_m4, ne_0_m3, ne_0_m2, ne_0_m1, ne_0_1, ne_0_2, ne_0_3, ne_1_m5, ne_1_m4, ne_1_m3, ne_1_m2, ne_1_m1, ne_1_0, ne_1_2, ne_1_3, ne_2_m5, ne_2_m4, ne_2_m3, ne_2_m2, ne_2_m1, ne_2_0, ne_2_1, ne_2_3, ne_3_m5, ne_3_m4, ne_3_m3, ne_3_m2, ne_3_m1, ne_3_0, ne_3_1, ne_3_2, le0_m5, lt0_m5, le0_m4, lt0_m4, le0_m3, lt0_m3, le0_m2, lt0_m2, le0_m1, lt0_m1, le0_0, lt0_0, le0_1, lt0_1, le0_2, lt0_2, le0_3, lt0_3, Nat.reduceLT, Nat.reduceLeDiff, ne_eq, not_true_eq_false, not_false_eq_true, true_and, and_true, Nat.succ_ne_self, bI_0, bI_1, Classical.not_not, and_self, or_self, or_true, true_or, false_or, or_false, and_false, false_and, t10, nI_1, e12, e2]
              exact stp _ (by rw [cW, e1, if_pos (by decide), Int32.add_zero, Nat.add_zero])
            · have j0 : (nI j ≤ 0) = False := eq_false (by rw [show (0 : Int32) = nI 0 from rfl, nI_leP (by omega) (by omega)]; omega)
              simp (disch := first | assumption | omega | rfl | (simp only [zpi_d, zpl_d, zpr_1, zpr_2, zpq_1, zpq_2, zpr_o, zpq_o, Nat.reduceAdd, Nat.reduceEqDiff, Nat.reduceMul, reduceIte, ite_true, ite_false, if_true, if_false, reduceCtorEq, eq_self, iff_self, i_T, i_F, implies_true, false_and, and_false, ne_m5_m4, ne_m5_m3, ne_m5_m2, ne_m5_m1, ne_m5_0, ne_m5_1, ne_m5_2, ne_m5_3, ne_m4_m5, ne_m4_m3, ne_m4_m2, ne_m4_m1, ne_m4_0, ne_m4_1, ne_m4_2, ne_m4_3, ne_m3_m5, ne_m3_m4, ne_m3_m2, ne_m3_m1, ne_m3_0, ne_m3_1, ne_m3_2, ne_m3_3, ne_m2_m5, ne_m2_m4, ne_m2_m3, ne_m2_m1, ne_m2_0, ne_m2_1, ne_m2_2, ne_m2_3, ne_m1_m5, ne_m1_m4, ne_m1_m3, ne_m1_m2, ne_m1_0, ne_m1_1, ne_m1_2, ne_m1_3, ne_0_m5, ne_0_m4, ne_0_m3, ne_0_m2, ne_0_m1, ne_0_1, ne_0_2, ne_0_3, ne_1_m5, ne_1_m4, ne_1_m3, ne_1_m2, ne_1_m1, ne_1_0, ne_1_2, ne_1_3, ne_2_m5, ne_2_m4, ne_2_m3, ne_2_m2, ne_2_m1, ne_2_0, ne_2_1, ne_2_3, ne_3_m5, ne_3_m4, ne_3_m3, ne_3_m2, ne_3_m1, ne_3_0, ne_3_1, ne_3_2, le0_m5, lt0_m5, le0_m4, lt0_m4, le0_m3, lt0_m3, le0_m2, lt0_m2, le0_m1, lt0_m1, le0_0, lt0_0, le0_1, lt0_1, le0_2, lt0_2, le0_3, lt0_3, Nat.reduceLT, Nat.reduceLeDiff, ne_eq, not_true_eq_false, not_false_eq_true, true_and, and_true, Nat.succ_ne_self, upd_ap] <;> assumption) | fail) only [q_ret, q_gi, q_gl, q_si, q_sl, q_j, q_b, q_eq, q_lt, q_le, q_nz2, q_nz8, q_nz10, q_nz16, q_nz24, q_rz0, q_rz1, q_rzb, i_T, i_F, not_true_eq_false, not_false_eq_true, true_and, and_true, implies_true, q_al_0, q_al_1, q_al_2, q_al_3, q_al_4, q_al_5, q_al_6, q_al_7, q_as_0, q_as_1, q_as_2, q_as_3, q_as_4, q_as_5, q_as_6, q_as_7, q_a42, q_s42, q_alN, q_asN, q_allN, q_aslN, q_am_0, q_am_1, q_am_2, q_am_3, q_am_4, q_am_5, q_am_6, q_ms_0, q_ms_1, q_ms_2, q_ms_3, q_ms_4, q_ms_5, q_ms_6, zpi_d, zpl_d, zpr_1, zpr_2, zpq_1, zpq_2, zpr_o, zpq_o, Nat.reduceAdd, Nat.reduceEqDiff, Nat.reduceMul, reduceIte, ite_true, ite_false, if_true, if_false, reduceCtorEq, eq_self, iff_self, i_T, i_F, implies_true, false_and, and_false, ne_m5_m4, ne_m5_m3, ne_m5_m2, ne_m5_m1, ne_m5_0, ne_m5_1, ne_m5_2, ne_m5_3, ne_m4_m5, ne_m4_m3, ne_m4_m2, ne_m4_m1, ne_m4_0, ne_m4_1, ne_m4_2, ne_m4_3, ne_m3_m5, ne_m3_m4, ne_m3_m2, ne_m3_m1, ne_m3_0, ne_m3_1, ne_m3_2, ne_m3_3, ne_m2_m5, ne_m2_m4, ne_m2_m3, ne_m2_m1, ne_m2_0, ne_m2_1, ne_m2_2, ne_m2_3, ne_m1_m5, ne_m1_m4, ne_m1_m3, ne_m1_m2, ne_m1_0, ne_m1_1, ne_m1_2, ne_m1_3, ne_0_m5, ne_0_m4, ne_0_m3, ne_0_m2, ne_0_m1, ne_0_1, ne_0_2, ne_0_3, ne_1_m5, ne_1_m4, ne_1_m3, ne_1_m2, ne_1_m1, ne_1_0, ne_1_2, ne_1_3, ne_2_m5, ne_2_m4, ne_2_m3, ne_2_m2, ne_2_m1, ne_2_0, ne_2_1, ne_2_3, ne_3_m5, ne_3_m4, ne_3_m3, ne_3_m2, ne_3_m1, ne_3_0, ne_3_1, ne_3_2, le0_m5, lt0_m5, le0_m4, lt0_m4, le0_m3, lt0_m3, le0_m2, lt0_m2, le0_m1, lt0_m1, le0_0, lt0_0, le0_1, lt0_1, le0_2, lt0_2, le0_3, lt0_3, Nat.reduceLT, Nat.reduceLeDiff, ne_eq, not_true_eq_false, not_false_eq_true, true_and, and_true, Nat.succ_ne_self, bI_0, bI_1, Classical.not_not, and_self, or_self, or_true, true_or, false_or, or_false, and_false, false_and, t10, nI_1, e12, e2, j0]
              exact stp _ (by rw [cW, e1, if_neg (nI_pos (by omega))])
          · rintro w S3 ⟨rfl, rfl⟩ rc4
            unfold p_X10_blowing_b4
            simp only [q_le, t10, i_T, i_F, not_true_eq_false, and_true, q_ret]
            refine ⟨trivial, ?_⟩
            obtain ⟨pf, pg, p3, p4⟩ := hI
            obtain ⟨a1, a2, a3, a4⟩ := fP_k pf
            obtain ⟨b1, b2, b3, b4⟩ := gP_k pg
            have hH1 : RH m R v 20 8 S1 T1 := RH_c hH a1 b1
            have u : ∀ c, c ≠ 1 → c ≠ 11 → c ≠ 12 → c ≠ 13 → c ≠ 14 → (zpr S2 1 (upd (S2.1 1) 3 0)).1 c = S1.1 c := fun c z0 z1 z2 z3 z4 => by rw [zpr_n z0]; exact hV.1 c z1 z2 z3 z4
            have u' : ∀ c, c ≠ 6 → c ≠ 7 → T2.1 c = T1.1 c := h1
            have kz : kZ S1 (zpr S2 1 (upd (S2.1 1) 3 0)) ∧ kP S1 (zpr S2 1 (upd (S2.1 1) 3 0)) ∧ kA S1 (zpr S2 1 (upd (S2.1 1) 3 0)) := by
              unfold kZ kP kA
              refine ⟨⟨?_, ?_, ?_, ?_, ?_, ?_⟩, ⟨?_, ?_, ?_⟩, ?_, ?_⟩
              all_goals first | exact u _ (by omega) (by omega) (by omega) (by omega) (by omega) | exact congrFun (u _ (by omega) (by omega) (by omega) (by omega) (by omega)) _ | (rw [zpr_2, hV.2])
            have mz : mZ T1 T2 ∧ mP T1 T2 ∧ mA T1 T2 := by
              unfold mZ mP mA
              refine ⟨⟨?_, ?_, ?_, ?_, ?_, ?_, ?_, ?_, ?_⟩, ⟨?_, ?_⟩, ?_, ?_⟩
              all_goals first | exact u' _ (by omega) (by omega) | exact congrFun (u' _ (by omega) (by omega)) _ | (rw [h2])
            have kz' : kZ S (zpr S2 1 (upd (S2.1 1) 3 0)) ∧ kP S (zpr S2 1 (upd (S2.1 1) 3 0)) ∧ kA S (zpr S2 1 (upd (S2.1 1) 3 0)) := by
              obtain ⟨k1, k2, k3⟩ := kz
              refine ⟨?_, kP_t a3 k2, kA_t a4 k3⟩
              unfold kZ at a2 k1 ⊢
              simp only [a2, k1, and_self]
            have mz' : mZ T T2 ∧ mP T T2 ∧ mA T T2 := by
              obtain ⟨k1, k2, k3⟩ := mz
              refine ⟨?_, mP_t b3 k2, mA_t b4 k3⟩
              unfold mZ at b2 k1 ⊢
              simp only [b2, k1, and_self]
            refine RC_z (v' := v) h ?_ kz' mz' (by simp (disch := first | assumption | omega | fail) only [zpi_d, zpl_d, zpr_1, zpr_2, zpq_1, zpq_2, zpr_o, zpq_o, Nat.reduceAdd, Nat.reduceEqDiff, Nat.reduceMul, reduceIte, ite_true, ite_false, if_true, if_false, reduceCtorEq, eq_self, iff_self, i_T, i_F, implies_true, false_and, and_false, ne_m5_m4, ne_m5_m3, ne_m5_m2, ne_m5_m1, ne_m5_0, ne_m5_1, ne_m5_2, ne_m5_3, ne_m4_m5, ne_m4_m3, ne_m4_m2, ne_m4_m1, ne_m4_0, ne_m4_1, ne_m4_2, ne_m4_3, ne_m3_m5, ne_m3_m4, ne_m3_m2, ne_m3_m1, ne_m3_0, ne_m3_1, ne_m3_2, ne_m3_3, ne_m2_m5, ne_m2_m4, ne_m2_m3, ne_m2_m1, ne_m2_0, ne_m2_1, ne_m2_2, ne_m2_3, ne_m1_m5, ne_m1_m4, ne_m1_m3, ne_m1_m2, ne_m1_0, ne_m1_1, ne_m1_2, ne_m1_3, ne_0_m5, ne_0_m4, ne_0_m3, ne_0_m2, ne_0_m1, ne_0_1, ne_0_2, ne_0_3, ne_1_m5, ne_1_m4, ne_1_m3, ne_1_m2, ne_1_m1, ne_1_0, ne_1_2, ne_1_3, ne_2_m5, ne_2_m4, ne_2_m3, ne_2_m2, ne_2_m1, ne_2_0, ne_2_1, ne_2_3, ne_3_m5, ne_3_m4, ne_3_m3, ne_3_m2, ne_3_m1, ne_3_0, ne_3_1, ne_3_2, le0_m5, lt0_m5, le0_m4, lt0_m4, le0_m3, lt0_m3, le0_m2, lt0_m2, le0_m1, lt0_m1, le0_0, lt0_0, le0_1, lt0_1, le0_2, lt0_2, le0_3, lt0_3, Nat.reduceLT, Nat.reduceLeDiff, ne_eq, not_true_eq_false, not_false_eq_true, true_and, and_true, Nat.succ_ne_self, upd_ap]) (by rw [u' 0 (by omega) (by omega)]; exact p4)
            obtain ⟨hc, ⟨f1, f2, f3, f4, f5, f6⟩, hT, hW, hX, hM⟩ := hH1
            refine ⟨RCon_c hc (u' 4 (by omega) (by omega)) (u' 5 (by omega) (by omega)) (by rw [u' 0 (by omega) (by omega)]), ⟨?_, ?_, ?_, ?_, fun b hb => ?_, fun b hb => ?_, ?_⟩, RTo_c hT (by rw [u 3 (by omega) (by omega) (by omega) (by omega) (by omega)]) (u 4 (by omega) (by omega) (by omega) (by omega) (by omega)) (u 5 (by omega) (by omega) (by omega) (by omega) (by omega)) (u 7 (by omega) (by omega) (by omega) (by omega) (by omega)) (u 8 (by omega) (by omega) (by omega) (by omega) (by omega)) (u 9 (by omega) (by omega) (by omega) (by omega) (by omega)) (by rw [u' 0 (by omega) (by omega)]) (u' 2 (by omega) (by omega)) (u' 3 (by omega) (by omega)), ?_, RLx_c hX (u 16 (by omega) (by omega) (by omega) (by omega) (by omega)) (u 17 (by omega) (by omega) (by omega) (by omega) (by omega)), RLm_c hM (by rw [u' 0 (by omega) (by omega)]) (u' 12 (by omega) (by omega))⟩
            · rw [u 20 (by omega) (by omega) (by omega) (by omega) (by omega)]; exact f1
            · rw [u' 0 (by omega) (by omega)]; exact f2
            · rw [u 20 (by omega) (by omega) (by omega) (by omega) (by omega), u' 8 (by omega) (by omega)]; exact f3
            · rw [u 20 (by omega) (by omega) (by omega) (by omega) (by omega), u' 0 (by omega) (by omega)]; exact f4
            · rw [u (20 + 6) (by omega) (by omega) (by omega) (by omega) (by omega), u (20 + 7) (by omega) (by omega) (by omega) (by omega) (by omega), u' 4 (by omega) (by omega), u' 5 (by omega) (by omega)]; exact f5 b hb
            · refine rrow_c (fun k hk => ?_) (fun k hk => ?_) (f6.1 b hb)
              · show (zpr S2 1 (upd (S2.1 1) 3 0)).1 (20 + (if k < 3 then k + 3 else k + 5)) b = S1.1 (20 + (if k < 3 then k + 3 else k + 5)) b
                have : 20 + (if k < 3 then k + 3 else k + 5) > 20 := by split <;> omega
                rw [u _ (by omega) (by omega) (by omega) (by omega) (by omega)]
              · rw [u' 8 (by omega) (by omega)]
            · rw [u' 8 (by omega) (by omega)]; exact f6.2
            · intro j hj
              obtain ⟨v1, v2, v3, v4⟩ := hv j hj
              obtain ⟨w1, w2⟩ := h3 j hj
              rw [zpr_n (by omega), zpr_n (by omega), zpr_n (by omega), zpr_n (by omega), v1, v2, v3, v4, w1, w2]
              exact ⟨rfl, rfl, (hwp j hj).1, rfl, rfl⟩
    · simp only [bI_f hpl, q_eq, i_F, i_T, not_true_eq_false, and_true, q_rz0]
      exact kM 1 p S1 T1 hp hI (Or.inr hpl)
