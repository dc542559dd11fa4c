/-! ===== the law: the loop ===== -/
theorem RR_up {n : Nat} {S T : zS} (h : RR n S T) : RR (n + 1) S T := by
  obtain ⟨m, R, v, h⟩ := h
  exact RC_same h ⟨(by refine ⟨?_, ?_, ?_, ?_, ?_, ?_, ?_, ?_, ?_, ?_, ?_, ?_, ?_, ?_, ?_, ?_, ?_, ?_, ?_, ?_, ?_, ?_, ?_, ?_⟩ <;> simp only [zpi_d, zpl_d, zpr_1, zpr_2, zpq_1, zpq_2, zpr_o, zpq_o, Nat.reduceAdd, Nat.reduceEqDiff, Nat.reduceMul, reduceIte, ite_true, ite_false, if_true, if_false, reduceCtorEq, eq_self, iff_self, i_T, i_F, implies_true, false_and, and_false, ne_m5_m4, ne_m5_m3, ne_m5_m2, ne_m5_m1, ne_m5_0, ne_m5_1, ne_m5_2, ne_m5_3, ne_m4_m5, ne_m4_m3, ne_m4_m2, ne_m4_m1, ne_m4_0, ne_m4_1, ne_m4_2, ne_m4_3, ne_m3_m5, ne_m3_m4, ne_m3_m2, ne_m3_m1, ne_m3_0, ne_m3_1, ne_m3_2, ne_m3_3, ne_m2_m5, ne_m2_m4, ne_m2_m3, ne_m2_m1, ne_m2_0, ne_m2_1, ne_m2_2, ne_m2_3, ne_m1_m5, ne_m1_m4, ne_m1_m3, ne_m1_m2, ne_m1_0, ne_m1_1, ne_m1_2, ne_m1_3, ne_0_m5, ne_0_m4, ne_0_m3, ne_0_m2, ne_0_m1, ne_0_1, ne_0_2, ne_0_3, ne_1_m5, ne_1_m4, ne_1_m3, ne_1_m2, ne_1_m1, ne_1_0, ne_1_2, ne_1_3, ne_2_m5, ne_2_m4, ne_2_m3, ne_2_m2, ne_2_m1, ne_2_0, ne_2_1, ne_2_3, ne_3_m5, ne_3_m4, ne_3_m3, ne_3_m2, ne_3_m1, ne_3_0, ne_3_1, ne_3_2, le0_m5, lt0_m5, le0_m4, lt0_m4, le0_m3, lt0_m3, le0_m2, lt0_m2, le0_m1, lt0_m1, le0_0, lt0_0, le0_1, lt0_1, le0_2, lt0_2, le0_3, lt0_3, Nat.reduceLT, Nat.reduceLeDiff, ne_eq, not_true_eq_false, not_false_eq_true, true_and, and_true, Nat.succ_ne_self, upd_ap]), (by refine ⟨?_, ?_, ?_, ?_, ?_, ?_, ?_, ?_⟩ <;> simp only [zpi_d, zpl_d, zpr_1, zpr_2, zpq_1, zpq_2, zpr_o, zpq_o, Nat.reduceAdd, Nat.reduceEqDiff, Nat.reduceMul, reduceIte, ite_true, ite_false, if_true, if_false, reduceCtorEq, eq_self, iff_self, i_T, i_F, implies_true, false_and, and_false, ne_m5_m4, ne_m5_m3, ne_m5_m2, ne_m5_m1, ne_m5_0, ne_m5_1, ne_m5_2, ne_m5_3, ne_m4_m5, ne_m4_m3, ne_m4_m2, ne_m4_m1, ne_m4_0, ne_m4_1, ne_m4_2, ne_m4_3, ne_m3_m5, ne_m3_m4, ne_m3_m2, ne_m3_m1, ne_m3_0, ne_m3_1, ne_m3_2, ne_m3_3, ne_m2_m5, ne_m2_m4, ne_m2_m3, ne_m2_m1, ne_m2_0, ne_m2_1, ne_m2_2, ne_m2_3, ne_m1_m5, ne_m1_m4, ne_m1_m3, ne_m1_m2, ne_m1_0, ne_m1_1, ne_m1_2, ne_m1_3, ne_0_m5, ne_0_m4, ne_0_m3, ne_0_m2, ne_0_m1, ne_0_1, ne_0_2, ne_0_3, ne_1_m5, ne_1_m4, ne_1_m3, ne_1_m2, ne_1_m1, ne_1_0, ne_1_2, ne_1_3, ne_2_m5, ne_2_m4, ne_2_m3, ne_2_m2, ne_2_m1, ne_2_0, ne_2_1, ne_2_3, ne_3_m5, ne_3_m4, ne_3_m3, ne_3_m2, ne_3_m1, ne_3_0, ne_3_1, ne_3_2, le0_m5, lt0_m5, le0_m4, lt0_m4, le0_m3, lt0_m3, le0_m2, lt0_m2, le0_m1, lt0_m1, le0_0, lt0_0, le0_1, lt0_1, le0_2, lt0_2, le0_3, lt0_3, Nat.reduceLT, Nat.reduceLeDiff, ne_eq, not_true_eq_false, not_false_eq_true, true_and, and_true, Nat.succ_ne_self, upd_ap]), (by refine ⟨?_, ?_, ?_⟩ <;> simp only [zpi_d, zpl_d, zpr_1, zpr_2, zpq_1, zpq_2, zpr_o, zpq_o, Nat.reduceAdd, Nat.reduceEqDiff, Nat.reduceMul, reduceIte, ite_true, ite_false, if_true, if_false, reduceCtorEq, eq_self, iff_self, i_T, i_F, implies_true, false_and, and_false, ne_m5_m4, ne_m5_m3, ne_m5_m2, ne_m5_m1, ne_m5_0, ne_m5_1, ne_m5_2, ne_m5_3, ne_m4_m5, ne_m4_m3, ne_m4_m2, ne_m4_m1, ne_m4_0, ne_m4_1, ne_m4_2, ne_m4_3, ne_m3_m5, ne_m3_m4, ne_m3_m2, ne_m3_m1, ne_m3_0, ne_m3_1, ne_m3_2, ne_m3_3, ne_m2_m5, ne_m2_m4, ne_m2_m3, ne_m2_m1, ne_m2_0, ne_m2_1, ne_m2_2, ne_m2_3, ne_m1_m5, ne_m1_m4, ne_m1_m3, ne_m1_m2, ne_m1_0, ne_m1_1, ne_m1_2, ne_m1_3, ne_0_m5, ne_0_m4, ne_0_m3, ne_0_m2, ne_0_m1, ne_0_1, ne_0_2, ne_0_3, ne_1_m5, ne_1_m4, ne_1_m3, ne_1_m2, ne_1_m1, ne_1_0, ne_1_2, ne_1_3, ne_2_m5, ne_2_m4, ne_2_m3, ne_2_m2, ne_2_m1, ne_2_0, ne_2_1, ne_2_3, ne_3_m5, ne_3_m4, ne_3_m3, ne_3_m2, ne_3_m1, ne_3_0, ne_3_1, ne_3_2, le0_m5, lt0_m5, le0_m4, lt0_m4, le0_m3, lt0_m3, le0_m2, lt0_m2, le0_m1, lt0_m1, le0_0, lt0_0, le0_1, lt0_1, le0_2, lt0_2, le0_3, lt0_3, Nat.reduceLT, Nat.reduceLeDiff, ne_eq, not_true_eq_false, not_false_eq_true, true_and, and_true, Nat.succ_ne_self, upd_ap]), (by refine ⟨?_, ?_⟩ <;> simp only [zpi_d, zpl_d, zpr_1, zpr_2, zpq_1, zpq_2, zpr_o, zpq_o, Nat.reduceAdd, Nat.reduceEqDiff, Nat.reduceMul, reduceIte, ite_true, ite_false, if_true, if_false, reduceCtorEq, eq_self, iff_self, i_T, i_F, implies_true, false_and, and_false, ne_m5_m4, ne_m5_m3, ne_m5_m2, ne_m5_m1, ne_m5_0, ne_m5_1, ne_m5_2, ne_m5_3, ne_m4_m5, ne_m4_m3, ne_m4_m2, ne_m4_m1, ne_m4_0, ne_m4_1, ne_m4_2, ne_m4_3, ne_m3_m5, ne_m3_m4, ne_m3_m2, ne_m3_m1, ne_m3_0, ne_m3_1, ne_m3_2, ne_m3_3, ne_m2_m5, ne_m2_m4, ne_m2_m3, ne_m2_m1, ne_m2_0, ne_m2_1, ne_m2_2, ne_m2_3, ne_m1_m5, ne_m1_m4, ne_m1_m3, ne_m1_m2, ne_m1_0, ne_m1_1, ne_m1_2, ne_m1_3, ne_0_m5, ne_0_m4, ne_0_m3, ne_0_m2, ne_0_m1, ne_0_1, ne_0_2, ne_0_3, ne_1_m5, ne_1_m4, ne_1_m3, ne_1_m2, ne_1_m1, ne_1_0, ne_1_2, ne_1_3, ne_2_m5, ne_2_m4, ne_2_m3, ne_2_m2, ne_2_m1, ne_2_0, ne_2_1, ne_2_3, ne_3_m5, ne_3_m4, ne_3_m3, ne_3_m2, ne_3_m1, ne_3_0, ne_3_1, ne_3_2, le0_m5, lt0_m5, le0_m4, lt0_m4, le0_m3, lt0_m3, le0_m2, lt0_m2, le0_m1, lt0_m1, le0_0, lt0_0, le0_1, lt0_1, le0_2, lt0_2, le0_3, lt0_3, Nat.reduceLT, Nat.reduceLeDiff, ne_eq, not_true_eq_false, not_false_eq_true, true_and, and_true, Nat.succ_ne_self, upd_ap])⟩ ⟨(by refine ⟨?_, ?_, ?_, ?_, ?_, ?_, ?_, ?_, ?_, ?_, ?_, ?_⟩ <;> simp only [zpi_d, zpl_d, zpr_1, zpr_2, zpq_1, zpq_2, zpr_o, zpq_o, Nat.reduceAdd, Nat.reduceEqDiff, Nat.reduceMul, reduceIte, ite_true, ite_false, if_true, if_false, reduceCtorEq, eq_self, iff_self, i_T, i_F, implies_true, false_and, and_false, ne_m5_m4, ne_m5_m3, ne_m5_m2, ne_m5_m1, ne_m5_0, ne_m5_1, ne_m5_2, ne_m5_3, ne_m4_m5, ne_m4_m3, ne_m4_m2, ne_m4_m1, ne_m4_0, ne_m4_1, ne_m4_2, ne_m4_3, ne_m3_m5, ne_m3_m4, ne_m3_m2, ne_m3_m1, ne_m3_0, ne_m3_1, ne_m3_2, ne_m3_3, ne_m2_m5, ne_m2_m4, ne_m2_m3, ne_m2_m1, ne_m2_0, ne_m2_1, ne_m2_2, ne_m2_3, ne_m1_m5, ne_m1_m4, ne_m1_m3, ne_m1_m2, ne_m1_0, ne_m1_1, ne_m1_2, ne_m1_3, ne_0_m5, ne_0_m4, ne_0_m3, ne_0_m2, ne_0_m1, ne_0_1, ne_0_2, ne_0_3, ne_1_m5, ne_1_m4, ne_1_m3, ne_1_m2, ne_1_m1, ne_1_0, ne_1_2, ne_1_3, ne_2_m5, ne_2_m4, ne_2_m3, ne_2_m2, ne_2_m1, ne_2_0, ne_2_1, ne_2_3, ne_3_m5, ne_3_m4, ne_3_m3, ne_3_m2, ne_3_m1, ne_3_0, ne_3_1, ne_3_2, le0_m5, lt0_m5, le0_m4, lt0_m4, le0_m3, lt0_m3, le0_m2, lt0_m2, le0_m1, lt0_m1, le0_0, lt0_0, le0_1, lt0_1, le0_2, lt0_2, le0_3, lt0_3, Nat.reduceLT, Nat.reduceLeDiff, ne_eq, not_true_eq_false, not_false_eq_true, true_and, and_true, Nat.succ_ne_self, upd_ap]), (by refine ⟨?_, ?_, ?_, ?_, ?_, ?_, ?_, ?_, ?_, ?_, ?_⟩ <;> simp (disch := first | assumption | omega | fail) only [zpi_d, zpl_d, zpr_1, zpr_2, zpq_1, zpq_2, zpr_o, zpq_o, Nat.reduceAdd, Nat.reduceEqDiff, Nat.reduceMul, reduceIte, ite_true, ite_false, if_true, if_false, reduceCtorEq, eq_self, iff_self, i_T, i_F, implies_true, false_and, and_false, ne_m5_m4, ne_m5_m3, ne_m5_m2, ne_m5_m1, ne_m5_0, ne_m5_1, ne_m5_2, ne_m5_3, ne_m4_m5, ne_m4_m3, ne_m4_m2, ne_m4_m1, ne_m4_0, ne_m4_1, ne_m4_2, ne_m4_3, ne_m3_m5, ne_m3_m4, ne_m3_m2, ne_m3_m1, ne_m3_0, ne_m3_1, ne_m3_2, ne_m3_3, ne_m2_m5, ne_m2_m4, ne_m2_m3, ne_m2_m1, ne_m2_0, ne_m2_1, ne_m2_2, ne_m2_3, ne_m1_m5, ne_m1_m4, ne_m1_m3, ne_m1_m2, ne_m1_0, ne_m1_1, ne_m1_2, ne_m1_3, ne_0_m5, ne_0_m4, ne_0_m3, ne_0_m2, ne_0_m1, ne_0_1, ne_0_2, ne_0_3, ne_1_m5, ne_1_m4, ne_1_m3, ne_1_m2, ne_1_m1, ne_1_0, ne_1_2, ne_1_3, ne_2_m5, ne_2_m4, ne_2_m3, ne_2_m2, ne_2_m1, ne_2_0, ne_2_1, ne_2_3, ne_3_m5, ne_3_m4, ne_3_m3, ne_3_m2, ne_3_m1, ne_3_0, ne_3_1, ne_3_2, le0_m5, lt0_m5, le0_m4, lt0_m4, le0_m3, lt0_m3, le0_m2, lt0_m2, le0_m1, lt0_m1, le0_0, lt0_0, le0_1, lt0_1, le0_2, lt0_2, le0_3, lt0_3, Nat.reduceLT, Nat.reduceLeDiff, ne_eq, not_true_eq_false, not_false_eq_true, true_and, and_true, Nat.succ_ne_self, upd_ap, mu_42]), (by refine ⟨?_, ?_⟩ <;> simp only [zpi_d, zpl_d, zpr_1, zpr_2, zpq_1, zpq_2, zpr_o, zpq_o, Nat.reduceAdd, Nat.reduceEqDiff, Nat.reduceMul, reduceIte, ite_true, ite_false, if_true, if_false, reduceCtorEq, eq_self, iff_self, i_T, i_F, implies_true, false_and, and_false, ne_m5_m4, ne_m5_m3, ne_m5_m2, ne_m5_m1, ne_m5_0, ne_m5_1, ne_m5_2, ne_m5_3, ne_m4_m5, ne_m4_m3, ne_m4_m2, ne_m4_m1, ne_m4_0, ne_m4_1, ne_m4_2, ne_m4_3, ne_m3_m5, ne_m3_m4, ne_m3_m2, ne_m3_m1, ne_m3_0, ne_m3_1, ne_m3_2, ne_m3_3, ne_m2_m5, ne_m2_m4, ne_m2_m3, ne_m2_m1, ne_m2_0, ne_m2_1, ne_m2_2, ne_m2_3, ne_m1_m5, ne_m1_m4, ne_m1_m3, ne_m1_m2, ne_m1_0, ne_m1_1, ne_m1_2, ne_m1_3, ne_0_m5, ne_0_m4, ne_0_m3, ne_0_m2, ne_0_m1, ne_0_1, ne_0_2, ne_0_3, ne_1_m5, ne_1_m4, ne_1_m3, ne_1_m2, ne_1_m1, ne_1_0, ne_1_2, ne_1_3, ne_2_m5, ne_2_m4, ne_2_m3, ne_2_m2, ne_2_m1, ne_2_0, ne_2_1, ne_2_3, ne_3_m5, ne_3_m4, ne_3_m3, ne_3_m2, ne_3_m1, ne_3_0, ne_3_1, ne_3_2, le0_m5, lt0_m5, le0_m4, lt0_m4, le0_m3, lt0_m3, le0_m2, lt0_m2, le0_m1, lt0_m1, le0_0, lt0_0, le0_1, lt0_1, le0_2, lt0_2, le0_3, lt0_3, Nat.reduceLT, Nat.reduceLeDiff, ne_eq, not_true_eq_false, not_false_eq_true, true_and, and_true, Nat.succ_ne_self, upd_ap]), (by refine ⟨?_, ?_⟩ <;> simp only [zpi_d, zpl_d, zpr_1, zpr_2, zpq_1, zpq_2, zpr_o, zpq_o, Nat.reduceAdd, Nat.reduceEqDiff, Nat.reduceMul, reduceIte, ite_true, ite_false, if_true, if_false, reduceCtorEq, eq_self, iff_self, i_T, i_F, implies_true, false_and, and_false, ne_m5_m4, ne_m5_m3, ne_m5_m2, ne_m5_m1, ne_m5_0, ne_m5_1, ne_m5_2, ne_m5_3, ne_m4_m5, ne_m4_m3, ne_m4_m2, ne_m4_m1, ne_m4_0, ne_m4_1, ne_m4_2, ne_m4_3, ne_m3_m5, ne_m3_m4, ne_m3_m2, ne_m3_m1, ne_m3_0, ne_m3_1, ne_m3_2, ne_m3_3, ne_m2_m5, ne_m2_m4, ne_m2_m3, ne_m2_m1, ne_m2_0, ne_m2_1, ne_m2_2, ne_m2_3, ne_m1_m5, ne_m1_m4, ne_m1_m3, ne_m1_m2, ne_m1_0, ne_m1_1, ne_m1_2, ne_m1_3, ne_0_m5, ne_0_m4, ne_0_m3, ne_0_m2, ne_0_m1, ne_0_1, ne_0_2, ne_0_3, ne_1_m5, ne_1_m4, ne_1_m3, ne_1_m2, ne_1_m1, ne_1_0, ne_1_2, ne_1_3, ne_2_m5, ne_2_m4, ne_2_m3, ne_2_m2, ne_2_m1, ne_2_0, ne_2_1, ne_2_3, ne_3_m5, ne_3_m4, ne_3_m3, ne_3_m2, ne_3_m1, ne_3_0, ne_3_1, ne_3_2, le0_m5, lt0_m5, le0_m4, lt0_m4, le0_m3, lt0_m3, le0_m2, lt0_m2, le0_m1, lt0_m1, le0_0, lt0_0, le0_1, lt0_1, le0_2, lt0_2, le0_3, lt0_3, Nat.reduceLT, Nat.reduceLeDiff, ne_eq, not_true_eq_false, not_false_eq_true, true_and, and_true, Nat.succ_ne_self, upd_ap])⟩
set_option maxRecDepth 100000 in
theorem l_go {p : Program} {l : Launch} {e : Env} {s : State} {m : MethodId} {below : List Frame} {meth : Method} {c : Code} {D : va_G} {ca : FieldType → ClassId} {aX aM tt sa sv : Nat → Nat} {ob b L : Nat} {xs : Nat → Int32} {SX SM : zS} {f : Nat → Int64} {n : Nat} (hO : lOK p l s m meth c D ca aX aM tt sa sv ob b L xs) (hn : n + 1 ≤ 512) {x4 : Int32} {i : Nat} (hx4 : x4 = nI i) (hi : i + 5 ≤ L) (hR : RR n SX SM)
    (next : ∀ (SX2 SM2 : zS) (f2 : Nat → Int64) (H : Heap) (locs : List Loc) (ls : Array Slot), RR (n + 1) SX2 SM2 → lv_has ls 8 (lLo b aX aM ob x4) → lWo D ca aX aM ob SX2 SM2 f2 s H locs → lWr p l e s m below meth c b H locs (n + 1) (F0 m 1559 ls []))
    (y : Int32) (H : Heap) (locs : List Loc) (ls : Array Slot) (hl : lv_has ls 8 (lLo b aX aM ob x4)) (hw : lWo D ca aX aM ob SX SM f s H locs) : lWr p l e s m below meth c b H locs n (F0 m 39 ls [.int y]) := by
  have hx := hO.1.1
  have hb := hO.1.2.1
  by_cases hy : y.toInt < 0 ∨ 43 < y.toInt
  · exact lv_tableOut (tgt := 1559) hx hb dL_law_39 hy (by decide) (W.widen (k := 108 + (n + 1)) (n := lKS + 6 * (n + 1)) (by omega) (by omega) (next SX SM f H locs ls (RR_up hR) hl hw))
  · obtain ⟨k, hk, ek⟩ : ∃ k : Nat, k ≤ 43 ∧ y.toInt = (k : Int) := ⟨y.toInt.toNat, by omega, by omega⟩
    have go : ∀ (off : Int) (tgt : Nat), (#[189, 214, 239, 252, 265, 278, 291, 359, 427, 483, 508, 569, 594, 631, 656, 693, 730, 767, 792, 805, 818, 831, 844, 881, 906, 943, 968, 993, 1018, 1067, 1104, 1117, 1142, 1191, 1204, 1229, 1242, 1255, 1316, 1353, 1390, 1415, 1440, 1465] : Array Int)[k]? = some off → (39 : Int) + off = (tgt : Int) → lWr p l e s m below meth c b H locs n (F0 m tgt ls []) → lWr p l e s m below meth c b H locs n (F0 m 39 ls [.int y]) := fun off tgt h1 h2 h3 => lv_tableIn (off := off) (tgt := tgt) hx hb dL_law_39 (by omega) (by omega) (by rw [ek, Int.sub_zero, Int.toNat_natCast]; exact h1) h2 h3
    obtain ⟨m0, R0, v0, h⟩ := hR
    match k, hk with
    | 0, _ =>
      obtain ⟨r, SX2, hX, r2, SM2, hM, rfl, hR2⟩ := L_sign (xs (x4 + 1).toNatClampNeg) h
      exact go 189 228 rfl (by decide) (law_c0 hO hn hx4 hi hX hM (fun H locs ls hl hw => next SX2 SM2 f H locs ls hR2 hl hw) H locs ls hl hw)
    | 1, _ =>
      obtain ⟨r, SX2, hX, r2, SM2, hM, rfl, hR2⟩ := L_end (xs (x4 + 1).toNatClampNeg) h
      exact go 214 253 rfl (by decide) (law_c1 hO hn hx4 hi hX hM (fun H locs ls hl hw => next SX2 SM2 f H locs ls hR2 hl hw) H locs ls hl hw)
    | 2, _ =>
      obtain ⟨r, SX2, hX, r2, SM2, hM, rfl, hR2⟩ := L_tower  (by omega) h
      exact go 239 278 rfl (by decide) (law_c2 hO hn hx4 hi hX hM (fun H locs ls hl hw => next SX2 SM2 f H locs ls hR2 hl hw) H locs ls hl hw)
    | 3, _ =>
      obtain ⟨r, SX2, hX, r2, SM2, hM, rfl, hR2⟩ := L_balloons  (by omega) h
      exact go 252 291 rfl (by decide) (law_c3 hO hn hx4 hi hX hM (fun H locs ls hl hw => next SX2 SM2 f H locs ls hR2 hl hw) H locs ls hl hw)
    | 4, _ =>
      obtain ⟨r, SX2, hX, r2, SM2, hM, rfl, hR2⟩ := L_winds  h
      exact go 265 304 rfl (by decide) (law_c4 hO hn hx4 hi hX hM (fun H locs ls hl hw => next SX2 SM2 f H locs ls hR2 hl hw) H locs ls hl hw)
    | 5, _ =>
      obtain ⟨r, SX2, hX, r2, SM2, hM, rfl, hR2⟩ := L_rule  h
      exact go 278 317 rfl (by decide) (law_c5 hO hn hx4 hi hX hM (fun H locs ls hl hw => next SX2 SM2 f H locs ls hR2 hl hw) H locs ls hl hw)
    | 6, _ =>
      obtain ⟨r, SX2, hX, w, SM1, hM, hT, hv, hR2⟩ := O_ring (xs (x4 + 1).toNatClampNeg) (xs (x4 + 2).toNatClampNeg) h
      exact go 291 330 rfl (by decide) (law_c6 hO hn hx4 hi hX hM (SM2 := SM1) (by unfold p_X12_thrown zgi zret; rw [hT]) hv (fun H locs ls hl hw => next SX2 SM1 _ H locs ls hR2 hl hw) H locs ls hl hw)
    | 7, _ =>
      obtain ⟨r, SX2, hX, w, SM1, hM, hT, hv, hR2⟩ := O_balloon (xs (x4 + 1).toNatClampNeg) (xs (x4 + 2).toNatClampNeg) h
      exact go 359 398 rfl (by decide) (law_c7 hO hn hx4 hi hX hM (SM2 := SM1) (by unfold p_X12_thrown zgi zret; rw [hT]) hv (fun H locs ls hl hw => next SX2 SM1 _ H locs ls hR2 hl hw) H locs ls hl hw)
    | 8, _ =>
      obtain ⟨r, SX2, hX, w, SM1, hM, hT, hv, hR2⟩ := O_lift (xs (x4 + 1).toNatClampNeg) h
      exact go 427 466 rfl (by decide) (law_c8 hO hn hx4 hi hX hM (SM2 := SM1) (by unfold p_X12_thrown zgi zret; rw [hT]) hv (fun H locs ls hl hw => next SX2 SM1 _ H locs ls hR2 hl hw) H locs ls hl hw)
    | 9, _ =>
      obtain ⟨r, SX2, hX, r2, SM2, hM, rfl, hR2⟩ := L_rain (xs (x4 + 1).toNatClampNeg) h
      exact go 483 522 rfl (by decide) (law_c9 hO hn hx4 hi hX hM (fun H locs ls hl hw => next SX2 SM2 f H locs ls hR2 hl hw) H locs ls hl hw)
    | 10, _ =>
      obtain ⟨r, SX2, hX, r2, SM2, hM, rfl, hR2⟩ := L_sheet (xs (x4 + 1).toNatClampNeg) (xs (x4 + 2).toNatClampNeg) (xs (x4 + 3).toNatClampNeg) (xs (x4 + 4).toNatClampNeg) h
      exact go 508 547 rfl (by decide) (law_c10 hO hn hx4 hi hX hM (fun H locs ls hl hw => next SX2 SM2 f H locs ls hR2 hl hw) H locs ls hl hw)
    | 11, _ =>
      obtain ⟨r, SX2, hX, r2, SM2, hM, rfl, hR2⟩ := L_launch (xs (x4 + 1).toNatClampNeg) h
      exact go 569 608 rfl (by decide) (law_c11 hO hn hx4 hi hX hM (fun H locs ls hl hw => next SX2 SM2 f H locs ls hR2 hl hw) H locs ls hl hw)
    | 12, _ =>
      obtain ⟨r, SX2, hX, r2, SM2, hM, rfl, hR2⟩ := L_moor (xs (x4 + 1).toNatClampNeg) (xs (x4 + 2).toNatClampNeg) h
      exact go 594 633 rfl (by decide) (law_c12 hO hn hx4 hi hX hM (fun H locs ls hl hw => next SX2 SM2 f H locs ls hR2 hl hw) H locs ls hl hw)
    | 13, _ =>
      obtain ⟨r, SX2, hX, r2, SM2, hM, rfl, hR2⟩ := L_cast (xs (x4 + 1).toNatClampNeg) h
      exact go 631 670 rfl (by decide) (law_c13 hO hn hx4 hi hX hM (fun H locs ls hl hw => next SX2 SM2 f H locs ls hR2 hl hw) H locs ls hl hw)
    | 14, _ =>
      obtain ⟨r, SX2, hX, r2, SM2, hM, rfl, hR2⟩ := L_sacks (xs (x4 + 1).toNatClampNeg) (xs (x4 + 2).toNatClampNeg) h
      exact go 656 695 rfl (by decide) (law_c14 hO hn hx4 hi hX hM (fun H locs ls hl hw => next SX2 SM2 f H locs ls hR2 hl hw) H locs ls hl hw)
    | 15, _ =>
      obtain ⟨r, SX2, hX, r2, SM2, hM, rfl, hR2⟩ := L_cargo (xs (x4 + 1).toNatClampNeg) (xs (x4 + 2).toNatClampNeg) h
      exact go 693 732 rfl (by decide) (law_c15 hO hn hx4 hi hX hM (fun H locs ls hl hw => next SX2 SM2 f H locs ls hR2 hl hw) H locs ls hl hw)
    | 16, _ =>
      obtain ⟨r, SX2, hX, r2, SM2, hM, rfl, hR2⟩ := L_fill (xs (x4 + 1).toNatClampNeg) (xs (x4 + 2).toNatClampNeg) h
      exact go 730 769 rfl (by decide) (law_c16 hO hn hx4 hi hX hM (fun H locs ls hl hw => next SX2 SM2 f H locs ls hR2 hl hw) H locs ls hl hw)
    | 17, _ =>
      obtain ⟨r, SX2, hX, r2, SM2, hM, rfl, hR2⟩ := L_hours (xs (x4 + 1).toNatClampNeg) (by omega) h
      exact go 767 806 rfl (by decide) (law_c17 hO hn hx4 hi hX hM (fun H locs ls hl hw => next SX2 SM2 f H locs ls hR2 hl hw) H locs ls hl hw)
    | 18, _ =>
      obtain ⟨r, SX2, hX, r2, SM2, hM, rfl, hR2⟩ := L_day  (by omega) h
      exact go 792 831 rfl (by decide) (law_c18 hO hn hx4 hi hX hM (fun H locs ls hl hw => next SX2 SM2 f H locs ls hR2 hl hw) H locs ls hl hw)
    | 19, _ =>
      obtain ⟨r, SX2, hX, r2, SM2, hM, rfl, hR2⟩ := L_undo  h
      exact go 805 844 rfl (by decide) (law_c19 hO hn hx4 hi hX hM (fun H locs ls hl hw => next SX2 SM2 f H locs ls hR2 hl hw) H locs ls hl hw)
    | 20, _ =>
      obtain ⟨r, SX2, hX, r2, SM2, hM, rfl, hR2⟩ := L_touches  h
      exact go 818 857 rfl (by decide) (law_c20 hO hn hx4 hi hX hM (fun H locs ls hl hw => next SX2 SM2 f H locs ls hR2 hl hw) H locs ls hl hw)
    | 21, _ =>
      obtain ⟨r, SX2, hX, r2, SM2, hM, rfl, hR2⟩ := L_breaches  h
      exact go 831 870 rfl (by decide) (law_c21 hO hn hx4 hi hX hM (fun H locs ls hl hw => next SX2 SM2 f H locs ls hR2 hl hw) H locs ls hl hw)
    | 22, _ =>
      obtain ⟨r, SX2, hX, r2, SM2, hM, rfl, hR2⟩ := L_drifts (xs (x4 + 1).toNatClampNeg) (xs (x4 + 2).toNatClampNeg) h
      exact go 844 883 rfl (by decide) (law_c22 hO hn hx4 hi hX hM (fun H locs ls hl hw => next SX2 SM2 f H locs ls hR2 hl hw) H locs ls hl hw)
    | 23, _ =>
      obtain ⟨r, SX2, hX, r2, SM2, hM, rfl, hR2⟩ := L_sinks (xs (x4 + 1).toNatClampNeg) h
      exact go 881 920 rfl (by decide) (law_c23 hO hn hx4 hi hX hM (fun H locs ls hl hw => next SX2 SM2 f H locs ls hR2 hl hw) H locs ls hl hw)
    | 24, _ =>
      obtain ⟨r, SX2, hX, r2, SM2, hM, rfl, hR2⟩ := L_rises (xs (x4 + 1).toNatClampNeg) (xs (x4 + 2).toNatClampNeg) h
      exact go 906 945 rfl (by decide) (law_c24 hO hn hx4 hi hX hM (fun H locs ls hl hw => next SX2 SM2 f H locs ls hR2 hl hw) H locs ls hl hw)
    | 25, _ =>
      obtain ⟨r, SX2, hX, r2, SM2, hM, rfl, hR2⟩ := L_berths (xs (x4 + 1).toNatClampNeg) h
      exact go 943 982 rfl (by decide) (law_c25 hO hn hx4 hi hX hM (fun H locs ls hl hw => next SX2 SM2 f H locs ls hR2 hl hw) H locs ls hl hw)
    | 26, _ =>
      obtain ⟨r, SX2, hX, r2, SM2, hM, rfl, hR2⟩ := L_served (xs (x4 + 1).toNatClampNeg) h
      exact go 968 1007 rfl (by decide) (law_c26 hO hn hx4 hi hX hM (fun H locs ls hl hw => next SX2 SM2 f H locs ls hR2 hl hw) H locs ls hl hw)
    | 27, _ =>
      obtain ⟨r, SX2, hX, r2, SM2, hM, rfl, hR2⟩ := L_yields (xs (x4 + 1).toNatClampNeg) h
      exact go 993 1032 rfl (by decide) (law_c27 hO hn hx4 hi hX hM (fun H locs ls hl hw => next SX2 SM2 f H locs ls hR2 hl hw) H locs ls hl hw)
    | 28, _ =>
      obtain ⟨r, SX2, hX, r2, SM2, hM, rfl, hR2⟩ := L_lands (xs (x4 + 1).toNatClampNeg) (xs (x4 + 2).toNatClampNeg) (xs (x4 + 3).toNatClampNeg) h
      exact go 1018 1057 rfl (by decide) (law_c28 hO hn hx4 hi hX hM (fun H locs ls hl hw => next SX2 SM2 f H locs ls hR2 hl hw) H locs ls hl hw)
    | 29, _ =>
      obtain ⟨r, SX2, hX, r2, SM2, hM, rfl, hR2⟩ := L_nearest (xs (x4 + 1).toNatClampNeg) (xs (x4 + 2).toNatClampNeg) h
      exact go 1067 1106 rfl (by decide) (law_c29 hO hn hx4 hi hX hM (fun H locs ls hl hw => next SX2 SM2 f H locs ls hR2 hl hw) H locs ls hl hw)
    | 30, _ =>
      obtain ⟨r, SX2, hX, r2, SM2, hM, rfl, hR2⟩ := L_storm  h
      exact go 1104 1143 rfl (by decide) (law_c30 hO hn hx4 hi hX hM (fun H locs ls hl hw => next SX2 SM2 f H locs ls hR2 hl hw) H locs ls hl hw)
    | 31, _ =>
      obtain ⟨r, SX2, hX, r2, SM2, hM, rfl, hR2⟩ := L_rests (xs (x4 + 1).toNatClampNeg) h
      exact go 1117 1156 rfl (by decide) (law_c31 hO hn hx4 hi hX hM (fun H locs ls hl hw => next SX2 SM2 f H locs ls hR2 hl hw) H locs ls hl hw)
    | 32, _ =>
      obtain ⟨r, SX2, hX, r2, SM2, hM, rfl, hR2⟩ := L_mark (xs (x4 + 1).toNatClampNeg) (xs (x4 + 2).toNatClampNeg) (xs (x4 + 3).toNatClampNeg) h
      exact go 1142 1181 rfl (by decide) (law_c32 hO hn hx4 hi hX hM (fun H locs ls hl hw => next SX2 SM2 f H locs ls hR2 hl hw) H locs ls hl hw)
    | 33, _ =>
      obtain ⟨r, SX2, hX, r2, SM2, hM, rfl, hR2⟩ := L_wipe  h
      exact go 1191 1230 rfl (by decide) (law_c33 hO hn hx4 hi hX hM (fun H locs ls hl hw => next SX2 SM2 f H locs ls hR2 hl hw) H locs ls hl hw)
    | 34, _ =>
      obtain ⟨r, SX2, hX, r2, SM2, hM, rfl, hR2⟩ := L_lay (xs (x4 + 1).toNatClampNeg) h
      exact go 1204 1243 rfl (by decide) (law_c34 hO hn hx4 hi hX hM (fun H locs ls hl hw => next SX2 SM2 f H locs ls hR2 hl hw) H locs ls hl hw)
    | 35, _ =>
      obtain ⟨r, SX2, hX, r2, SM2, hM, rfl, hR2⟩ := L_ways  h
      exact go 1229 1268 rfl (by decide) (law_c35 hO hn hx4 hi hX hM (fun H locs ls hl hw => next SX2 SM2 f H locs ls hR2 hl hw) H locs ls hl hw)
    | 36, _ =>
      obtain ⟨r, SX2, hX, r2, SM2, hM, rfl, hR2⟩ := L_sure  h
      exact go 1242 1281 rfl (by decide) (law_c36 hO hn hx4 hi hX hM (fun H locs ls hl hw => next SX2 SM2 f H locs ls hR2 hl hw) H locs ls hl hw)
    | 37, _ =>
      obtain ⟨r, SX2, hX, r2, SM2, hM, rfl, hR2⟩ := L_chance (xs (x4 + 1).toNatClampNeg) (xs (x4 + 2).toNatClampNeg) (xs (x4 + 3).toNatClampNeg) (xs (x4 + 4).toNatClampNeg) h
      exact go 1255 1294 rfl (by decide) (law_c37 hO hn hx4 hi hX hM (fun H locs ls hl hw => next SX2 SM2 f H locs ls hR2 hl hw) H locs ls hl hw)
    | 38, _ =>
      obtain ⟨r, SX2, hX, r2, SM2, hM, rfl, hR2⟩ := L_when (xs (x4 + 1).toNatClampNeg) (xs (x4 + 2).toNatClampNeg) h
      exact go 1316 1355 rfl (by decide) (law_c38 hO hn hx4 hi hX hM (fun H locs ls hl hw => next SX2 SM2 f H locs ls hR2 hl hw) H locs ls hl hw)
    | 39, _ =>
      obtain ⟨r, SX2, hX, r2, SM2, hM, rfl, hR2⟩ := L_season (xs (x4 + 1).toNatClampNeg) (xs (x4 + 2).toNatClampNeg) h
      exact go 1353 1392 rfl (by decide) (law_c39 hO hn hx4 hi hX hM (fun H locs ls hl hw => next SX2 SM2 f H locs ls hR2 hl hw) H locs ls hl hw)
    | 40, _ =>
      obtain ⟨r, SX2, hX, r2, SM2, hM, rfl, hR2⟩ := L_keep (xs (x4 + 1).toNatClampNeg) h
      exact go 1390 1429 rfl (by decide) (law_c40 hO hn hx4 hi hX hM (fun H locs ls hl hw => next SX2 SM2 f H locs ls hR2 hl hw) H locs ls hl hw)
    | 41, _ =>
      obtain ⟨r, SX2, hX, r2, SM2, hM, rfl, hR2⟩ := L_again (xs (x4 + 1).toNatClampNeg) h
      exact go 1415 1454 rfl (by decide) (law_c41 hO hn hx4 hi hX hM (fun H locs ls hl hw => next SX2 SM2 f H locs ls hR2 hl hw) H locs ls hl hw)
    | 42, _ =>
      obtain ⟨r, SX2, hX, r2, SM2, hM, rfl, hR2⟩ := L_count (xs (x4 + 1).toNatClampNeg) h
      exact go 1440 1479 rfl (by decide) (law_c42 hO hn hx4 hi hX hM (fun H locs ls hl hw => next SX2 SM2 f H locs ls hR2 hl hw) H locs ls hl hw)
    | 43, _ =>
      obtain ⟨r, SX2, hX, w, SM1, hM, hT, hv, hR2⟩ := O_row (xs (x4 + 1).toNatClampNeg) h
      exact go 1465 1504 rfl (by decide) (law_c43 hO hn hx4 hi hX hM (SM2 := SM1) (by unfold p_X12_thrown zgi zret; rw [hT]) hv (fun H locs ls hl hw => next SX2 SM1 _ H locs ls hR2 hl hw) H locs ls hl hw)
    | k + 44, hk => exact absurd hk (by omega)
theorem nI_5 {i : Nat} : nI i + Int32.ofInt 5 = nI (i + 5) := nI_add i 5
set_option maxRecDepth 100000 in
theorem l_loop {p : Program} {l : Launch} {e : Env} {s : State} {m : MethodId} {below : List Frame} {meth : Method} {c : Code} {D : va_G} {ca : FieldType → ClassId} {aX aM tt sa sv : Nat → Nat} {ob b L : Nat} {xs : Nat → Int32} (hO : lOK p l s m meth c D ca aX aM tt sa sv ob b L xs) : ∀ (k n : Nat), n + k = 512 → 5 * n ≤ L → ∀ (SX SM : zS) (f : Nat → Int64) (H : Heap) (locs : List Loc) (ls : Array Slot), RR n SX SM → lv_has ls 8 (lLo b aX aM ob (nI (5 * n))) → lWo D ca aX aM ob SX SM f s H locs → lWr p l e s m below meth c b H locs n (F0 m 23 ls []) := by
  have hx := hO.1.1
  have hb := hO.1.2.1
  have hr := hO.1.2.2.1
  have hXs := hO.1.2.2.2.2.2.2.1
  have hbl := hO.1.2.2.2.2.2.2.2.1
  have hlk := hO.1.2.2.2.2.2.2.2.2.1
  have hbA : ¬ lA s b := Nat.not_le.mpr hbl
  have hL := hO.2.2.2.1
  intro k
  induction k with
  | zero =>
    intro n hn h5 SX SM f H locs ls hR hl hw
    refine lv_iload hx hb dL_law_23 (lv_at hl 4 rfl) ?_
    refine lv_aload_n hx hb dL_law_25 rfl (lv_at hl 0 rfl) ?_
    refine va_slen hx hb hXs hbl hbA hw.2.2.2 dL_law_26 ?_
    refine lv_iconst (v := 5) hx hb dL_law_27 (by decide) ?_
    refine lv_isub hx hb dL_law_28 ?_
    refine lv_icmp_gt (tgt := 1565) hx hb dL_law_29 (by decide) (fun _ => ?_) (fun h => absurd ?_ h)
    · refine lv_iconst (v := 1) hx hb dL_law_1565 (by decide) ?_
      exact va_forget (fun q hq => hw.2.2.2.2.2 q hq) (W.widen (k := 601024) (n := 7293034) (by omega) (by unfold lKS; omega) (lw_ret hx hb hr hlk dL_law_1566))
    · show nI L - nI 5 < nI (5 * n)
      rw [fa_lt, pk_sub_toInt (by omega) (by omega), nI_toInt (by omega)]
      omega
  | succ k ih =>
    intro n hn h5 SX SM f H locs ls hR hl hw
    refine lv_iload hx hb dL_law_23 (lv_at hl 4 rfl) ?_
    refine lv_aload_n hx hb dL_law_25 rfl (lv_at hl 0 rfl) ?_
    refine va_slen hx hb hXs hbl hbA hw.2.2.2 dL_law_26 ?_
    refine lv_iconst (v := 5) hx hb dL_law_27 (by decide) ?_
    refine lv_isub hx hb dL_law_28 ?_
    refine lv_icmp_gt (tgt := 1565) hx hb dL_law_29 (by decide) (fun _ => ?_) (fun h => ?_)
    · refine lv_iconst (v := 1) hx hb dL_law_1565 (by decide) ?_
      exact va_forget (fun q hq => hw.2.2.2.2.2 q hq) (W.widen (k := 601024) (n := 7293034) (by omega) (by unfold lKS; omega) (lw_ret hx hb hr hlk dL_law_1566))
    · have hi : 5 * n + 5 ≤ L := by
        have h : ¬ nI L - nI 5 < nI (5 * n) := h
        rw [fa_lt, pk_sub_toInt (by omega) (by omega), nI_toInt (by omega)] at h
        omega
      refine lv_aload_n hx hb dL_law_32 rfl (lv_at hl 0 rfl) ?_
      refine lv_iload hx hb dL_law_33 (lv_at hl 4 rfl) ?_
      refine va_sld hx hb hXs hbl hbA hw.2.2.2 ?_ dL_law_35 ?_
      · have := lin (x4 := nI (5 * n)) rfl hi hL (y := 0) (k := 0) rfl (by decide)
        rwa [Int32.add_zero] at this
      refine lv_bipush (v := 63) hx hb dL_law_36 (by decide) ?_
      refine lv_iand hx hb dL_law_38 ?_
      refine l_go hO (by omega) rfl hi hR (fun SX2 SM2 f2 H locs ls hR2 hl hw => ?_) _ H locs ls hl hw
      refine lv_iinc (v := nI (5 * (n + 1))) (k := 4) hx hb dL_law_1559 hl rfl (by rw [nI_5]; rfl) (by decide) rfl (fun ls' hl' => ?_)
      refine lv_goto (tgt := 23) hx hb dL_law_1562 (by decide) ?_
      exact ih (n + 1) (by omega) (by omega) SX2 SM2 f2 H locs ls' hR2 (lv_sub hl' [1, 2, 3, 4, 0] rfl) hw
