def xsX (A : Nat → Prop) (tt : Nat → Nat) (U : State) : Prop := va_Z "BalloonsMoor$Winds" "EAST" "[I" (.ref (tt 0)) A U U.heap ∧ va_T .int (tt 0) tEAST.length (fun j => .int (tEAST.getD j 0)) A U U.heap ∧ va_Z "BalloonsMoor$Winds" "SOUTH" "[I" (.ref (tt 1)) A U U.heap ∧ va_T .int (tt 1) tSOUTH.length (fun j => .int (tSOUTH.getD j 0)) A U U.heap ∧ va_Z "BalloonsMoor$Rule" "LETTERS" "[C" (.ref (tt 2)) A U U.heap ∧ va_T .char (tt 2) tLETTERS.length (fun j => .int (tLETTERS.getD j 0)) A U U.heap ∧ va_Nw (.methodLinkNest RX3 148 yX11_highBy "BalloonsMoor") U ∧ va_Nw (.methodLinkNest RX3 159 yX11_isOver "BalloonsMoor") U ∧ va_Nw (.methodLinkNest RX4 90 yX11_isOver "BalloonsMoor") U ∧ va_Nw (.methodLinkNest RX4 105 yX11_highBy "BalloonsMoor") U ∧ xthr A U
theorem xsX_at {ad tt : Nat → Nat} {U : State} (h : xsX (zA layX.length ad) tt U) : xtX ad tt U := h
theorem xsX_narrow {A B : Nat → Prop} {tt : Nat → Nat} {U : State} (hAB : ∀ q, B q → A q) (h : xsX A tt U) : xsX B tt U := by
  obtain ⟨h0, h1, h2, h3, h4, h5, h6, h7, h8, h9, h10⟩ := h
  exact ⟨h0.narrow hAB, h1.narrow hAB, h2.narrow hAB, h3.narrow hAB, h4.narrow hAB, h5.narrow hAB, h6, h7, h8, h9, xthr_narrow hAB h10⟩
theorem xsX_stab {A : Nat → Prop} {tt : Nat → Nat} : zStab A (xsX A tt) := by
  intro s U hW hz hq h
  obtain ⟨h0, h1, h2, h3, h4, h5, h6, h7, h8, h9, h10⟩ := h
  exact ⟨(h0.kept hq).moved hW.alike, (h1.kept hq).moved hW.alike, (h2.kept hq).moved hW.alike, (h3.kept hq).moved hW.alike, (h4.kept hq).moved hW.alike, (h5.kept hq).moved hW.alike, h6.warmM hW, h7.warmM hW, h8.warmM hW, h9.warmM hW, xthr_stab s U hW hz hq h10⟩
def xsM (A : Nat → Prop) (sa sv : Nat → Nat) (U : State) : Prop := vk_S 8 lenS bytS sa sv A U U.heap ∧ va_Z "java/lang/String" "COMPACT_STRINGS" "Z" (.int 1) A U U.heap ∧ va_Zq "jdk/internal/util/Preconditions" "SIOOBE_FORMATTER" "Ljava/util/function/BiFunction;" A U U.heap ∧ vk_R RX12 246 "*/" (sa 0) U ∧ vk_R RX12 244 "+-" (sa 1) U ∧ vk_R RX12 189 "01234567" (sa 2) U ∧ vk_R RX12 222 "123" (sa 3) U ∧ vk_R RX12 217 "123456789" (sa 4) U ∧ vk_R RX12 242 "<>=" (sa 5) U ∧ vk_R RX12 237 "gsclorhb" (sa 6) U ∧ vk_R RX12 391 "lmcsh" (sa 7) U
theorem xsM_at {ad sa sv : Nat → Nat} {U : State} (h : xsM (zA layM.length ad) sa sv U) : xtM ad sa sv U := h
theorem xsM_narrow {A B : Nat → Prop} {sa sv : Nat → Nat} {U : State} (hAB : ∀ q, B q → A q) (h : xsM A sa sv U) : xsM B sa sv U := by
  obtain ⟨h0, h1, h2, h3, h4, h5, h6, h7, h8, h9, h10⟩ := h
  exact ⟨h0.narrow hAB, h1.narrow hAB, h2.narrow hAB, h3, h4, h5, h6, h7, h8, h9, h10⟩
theorem xsM_stab {A : Nat → Prop} {sa sv : Nat → Nat} : zStab A (xsM A sa sv) := by
  intro s U hW hz hq h
  obtain ⟨h0, h1, h2, h3, h4, h5, h6, h7, h8, h9, h10⟩ := h
  exact ⟨(h0.kept hq).moved hW.alike, (h1.kept hq).moved hW.alike, (h2.kept hq).moved hW.alike, h3.warm hW, h4.warm hW, h5.warm hW, h6.warm hW, h7.warm hW, h8.warm hW, h9.warm hW, h10.warm hW⟩
theorem wz_nRX3_148 : Cond.methodLinkNest RX3 148 yX11_highBy "BalloonsMoor" ∈ lw_tbl := List.mem_append_right _ (show _ ∈ tables_1 from List.mem_append_right _ (List.mem_append_right _ (List.mem_append_right _ (List.mem_append_left _ (List.mem_of_getElem? (i := 29) (by decide +kernel))))))
theorem wz_nRX3_159 : Cond.methodLinkNest RX3 159 yX11_isOver "BalloonsMoor" ∈ lw_tbl := List.mem_append_right _ (show _ ∈ tables_1 from List.mem_append_right _ (List.mem_append_right _ (List.mem_append_right _ (List.mem_append_left _ (List.mem_of_getElem? (i := 30) (by decide +kernel))))))
theorem wz_nRX4_90 : Cond.methodLinkNest RX4 90 yX11_isOver "BalloonsMoor" ∈ lw_tbl := List.mem_append_right _ (show _ ∈ tables_1 from List.mem_append_right _ (List.mem_append_right _ (List.mem_append_right _ (List.mem_append_right _ (List.mem_append_left _ (List.mem_of_getElem? (i := 10) (by decide +kernel)))))))
theorem wz_nRX4_105 : Cond.methodLinkNest RX4 105 yX11_highBy "BalloonsMoor" ∈ lw_tbl := List.mem_append_right _ (show _ ∈ tables_1 from List.mem_append_right _ (List.mem_append_right _ (List.mem_append_right _ (List.mem_append_right _ (List.mem_append_left _ (List.mem_of_getElem? (i := 20) (by decide +kernel)))))))
theorem wz_i_9 : Cond.methodLinkNest RX11 9 yX8_init "BalloonsMoor" ∈ lw_tbl := List.mem_append_right _ (show _ ∈ tables_1 from List.mem_append_left _ (List.mem_of_getElem? (i := 36) (by decide +kernel)))
theorem wz_i_18 : Cond.methodLinkNest RX11 18 yX9_init "BalloonsMoor" ∈ lw_tbl := List.mem_append_right _ (show _ ∈ tables_1 from List.mem_append_left _ (List.mem_of_getElem? (i := 57) (by decide +kernel)))
theorem wz_i_32 : Cond.methodLinkNest RX11 32 yX7_init "BalloonsMoor" ∈ lw_tbl := List.mem_append_right _ (show _ ∈ tables_1 from List.mem_append_left _ (List.mem_of_getElem? (i := 121) (by decide +kernel)))
theorem wz_i_51 : Cond.methodLinkNest RX11 51 yX6_init "BalloonsMoor" ∈ lw_tbl := List.mem_append_right _ (show _ ∈ tables_1 from List.mem_append_left _ (List.mem_of_getElem? (i := 228) (by decide +kernel)))
theorem wz_i_58 : Cond.methodLinkNest RX11 58 yX1_init "BalloonsMoor" ∈ lw_tbl := List.mem_append_right _ (show _ ∈ tables_1 from List.mem_append_right _ (List.mem_append_left _ (List.mem_of_getElem? (i := 13) (by decide +kernel))))
theorem wz_i_65 : Cond.methodLinkNest RX11 65 yX5_init "BalloonsMoor" ∈ lw_tbl := List.mem_append_right _ (show _ ∈ tables_1 from List.mem_append_right _ (List.mem_append_left _ (List.mem_of_getElem? (i := 29) (by decide +kernel))))
theorem wz_i_72 : Cond.methodLinkNest RX11 72 yX0_init "BalloonsMoor" ∈ lw_tbl := List.mem_append_right _ (show _ ∈ tables_1 from List.mem_append_right _ (List.mem_append_left _ (List.mem_of_getElem? (i := 74) (by decide +kernel))))
theorem wz_s0 : Cond.laysStatic "BalloonsMoor$Winds" "EAST" "[I" ∈ lw_tbl := List.mem_append_right _ (show _ ∈ tables_1 from List.mem_append_right _ (List.mem_append_right _ (List.mem_append_left _ (List.mem_of_getElem? (i := 83) (by decide +kernel)))))
theorem wz_t0 : Cond.initialized "BalloonsMoor$Winds" ∈ lw_tbl := List.mem_append_right _ (show _ ∈ tables_1 from List.mem_append_left _ (List.mem_of_getElem? (i := 4) (by decide +kernel)))
theorem wz_s1 : Cond.laysStatic "BalloonsMoor$Winds" "SOUTH" "[I" ∈ lw_tbl := List.mem_append_right _ (show _ ∈ tables_1 from List.mem_append_right _ (List.mem_append_right _ (List.mem_append_left _ (List.mem_of_getElem? (i := 85) (by decide +kernel)))))
theorem wz_t1 : Cond.initialized "BalloonsMoor$Winds" ∈ lw_tbl := List.mem_append_right _ (show _ ∈ tables_1 from List.mem_append_left _ (List.mem_of_getElem? (i := 4) (by decide +kernel)))
theorem wz_s2 : Cond.laysStatic "BalloonsMoor$Rule" "LETTERS" "[C" ∈ lw_tbl := List.mem_append_right _ (show _ ∈ tables_1 from List.mem_append_right _ (List.mem_append_right _ (List.mem_append_left _ (List.mem_of_getElem? (i := 127) (by decide +kernel)))))
theorem wz_t2 : Cond.initialized "BalloonsMoor$Rule" ∈ lw_tbl := List.mem_append_right _ (show _ ∈ tables_1 from List.mem_append_left _ (List.mem_of_getElem? (i := 6) (by decide +kernel)))
theorem wz_sc : Cond.laysStatic "java/lang/String" "COMPACT_STRINGS" "Z" ∈ lw_tbl := List.mem_append_right _ (show _ ∈ tables_1 from List.mem_append_right _ (List.mem_append_right _ (List.mem_append_right _ (List.mem_append_right _ (List.mem_append_right _ (List.mem_append_right _ (List.mem_append_left _ (List.mem_of_getElem? (i := 50) (by decide +kernel)))))))))
theorem wz_ic : Cond.initialized "java/lang/String" ∈ lw_tbl := List.mem_append_right _ (show _ ∈ tables_1 from List.mem_append_left _ (List.mem_of_getElem? (i := 16) (by decide +kernel)))
theorem wz_sq : Cond.laysStatic "jdk/internal/util/Preconditions" "SIOOBE_FORMATTER" "Ljava/util/function/BiFunction;" ∈ lw_tbl := List.mem_append_right _ (show _ ∈ tables_1 from List.mem_append_right _ (List.mem_append_right _ (List.mem_append_right _ (List.mem_append_right _ (List.mem_append_right _ (List.mem_append_right _ (List.mem_append_left _ (List.mem_of_getElem? (i := 66) (by decide +kernel)))))))))
theorem wz_iq : Cond.initialized "jdk/internal/util/Preconditions" ∈ lw_tbl := List.mem_append_right _ (show _ ∈ tables_1 from List.mem_append_left _ (List.mem_of_getElem? (i := 18) (by decide +kernel)))
theorem wz_r246 : Cond.stringRef RX12 246 "*/" ∈ lw_tbl := List.mem_append_right _ (show _ ∈ tables_1 from List.mem_append_right _ (List.mem_append_right _ (List.mem_append_right _ (List.mem_append_right _ (List.mem_append_right _ (List.mem_append_right _ (List.mem_append_left _ (List.mem_of_getElem? (i := 138) (by decide +kernel)))))))))
theorem wz_r244 : Cond.stringRef RX12 244 "+-" ∈ lw_tbl := List.mem_append_right _ (show _ ∈ tables_1 from List.mem_append_right _ (List.mem_append_right _ (List.mem_append_right _ (List.mem_append_right _ (List.mem_append_right _ (List.mem_append_right _ (List.mem_append_left _ (List.mem_of_getElem? (i := 137) (by decide +kernel)))))))))
theorem wz_r189 : Cond.stringRef RX12 189 "01234567" ∈ lw_tbl := List.mem_append_right _ (show _ ∈ tables_1 from List.mem_append_right _ (List.mem_append_right _ (List.mem_append_right _ (List.mem_append_right _ (List.mem_append_right _ (List.mem_append_right _ (List.mem_append_left _ (List.mem_of_getElem? (i := 32) (by decide +kernel)))))))))
theorem wz_r222 : Cond.stringRef RX12 222 "123" ∈ lw_tbl := List.mem_append_right _ (show _ ∈ tables_1 from List.mem_append_right _ (List.mem_append_right _ (List.mem_append_right _ (List.mem_append_right _ (List.mem_append_right _ (List.mem_append_right _ (List.mem_append_left _ (List.mem_of_getElem? (i := 118) (by decide +kernel)))))))))
theorem wz_r217 : Cond.stringRef RX12 217 "123456789" ∈ lw_tbl := List.mem_append_right _ (show _ ∈ tables_1 from List.mem_append_right _ (List.mem_append_right _ (List.mem_append_right _ (List.mem_append_right _ (List.mem_append_right _ (List.mem_append_right _ (List.mem_append_left _ (List.mem_of_getElem? (i := 109) (by decide +kernel)))))))))
theorem wz_r242 : Cond.stringRef RX12 242 "<>=" ∈ lw_tbl := List.mem_append_right _ (show _ ∈ tables_1 from List.mem_append_right _ (List.mem_append_right _ (List.mem_append_right _ (List.mem_append_right _ (List.mem_append_right _ (List.mem_append_right _ (List.mem_append_left _ (List.mem_of_getElem? (i := 136) (by decide +kernel)))))))))
theorem wz_r237 : Cond.stringRef RX12 237 "gsclorhb" ∈ lw_tbl := List.mem_append_right _ (show _ ∈ tables_1 from List.mem_append_right _ (List.mem_append_right _ (List.mem_append_right _ (List.mem_append_right _ (List.mem_append_right _ (List.mem_append_right _ (List.mem_append_left _ (List.mem_of_getElem? (i := 135) (by decide +kernel)))))))))
theorem wz_r391 : Cond.stringRef RX12 391 "lmcsh" ∈ lw_tbl := List.mem_append_right _ (show _ ∈ tables_1 from List.mem_append_right _ (List.mem_append_right _ (List.mem_append_right _ (List.mem_append_right _ (List.mem_append_right _ (List.mem_append_right _ (List.mem_append_right _ (List.mem_append_left _ (List.mem_of_getElem? (i := 91) (by decide +kernel))))))))))
theorem wz_a_int : Cond.arrayClass .int ∈ lw_tbl := List.mem_append_right _ (show _ ∈ tables_1 from List.mem_append_left _ (List.mem_of_getElem? (i := 87) (by decide +kernel)))
theorem wz_a_char : Cond.arrayClass .char ∈ lw_tbl := List.mem_append_right _ (show _ ∈ tables_1 from List.mem_append_left _ (List.mem_of_getElem? (i := 54) (by decide +kernel)))
theorem wz_a_boolean : Cond.arrayClass .boolean ∈ lw_tbl := List.mem_append_right _ (show _ ∈ tables_1 from List.mem_append_right _ (List.mem_append_left _ (List.mem_of_getElem? (i := 10) (by decide +kernel))))
theorem wz_a_long : Cond.arrayClass .long ∈ lw_tbl := List.mem_append_right _ (show _ ∈ tables_1 from List.mem_append_right _ (List.mem_append_left _ (List.mem_of_getElem? (i := 26) (by decide +kernel))))
theorem wz_k0 : Cond.instantiable RX0 4 ∈ lw_tbl := List.mem_append_right _ (show _ ∈ tables_1 from List.mem_append_right _ (List.mem_append_left _ (List.mem_of_getElem? (i := 73) (by decide +kernel))))
theorem wz_k1 : Cond.instantiable RX1 2 ∈ lw_tbl := List.mem_append_right _ (show _ ∈ tables_1 from List.mem_append_right _ (List.mem_append_left _ (List.mem_of_getElem? (i := 12) (by decide +kernel))))
theorem wz_k2 : Cond.instantiable RX2 7 ∈ lw_tbl := List.mem_append_right _ (show _ ∈ tables_1 from List.mem_append_right _ (List.mem_append_left _ (List.mem_of_getElem? (i := 96) (by decide +kernel))))
theorem wz_k3 : Cond.instantiable RX3 19 ∈ lw_tbl := List.mem_append_right _ (show _ ∈ tables_1 from List.mem_append_left _ (List.mem_of_getElem? (i := 142) (by decide +kernel)))
theorem wz_k4 : Cond.instantiable RX4 12 ∈ lw_tbl := List.mem_append_right _ (show _ ∈ tables_1 from List.mem_append_right _ (List.mem_append_left _ (List.mem_of_getElem? (i := 126) (by decide +kernel))))
theorem wz_k5 : Cond.instantiable RX5 11 ∈ lw_tbl := List.mem_append_right _ (show _ ∈ tables_1 from List.mem_append_right _ (List.mem_append_left _ (List.mem_of_getElem? (i := 28) (by decide +kernel))))
theorem wz_k6 : Cond.instantiable RX6 5 ∈ lw_tbl := List.mem_append_right _ (show _ ∈ tables_1 from List.mem_append_left _ (List.mem_of_getElem? (i := 227) (by decide +kernel)))
theorem wz_k7 : Cond.instantiable RX7 5 ∈ lw_tbl := List.mem_append_right _ (show _ ∈ tables_1 from List.mem_append_left _ (List.mem_of_getElem? (i := 120) (by decide +kernel)))
theorem wz_k8 : Cond.instantiable RX8 4 ∈ lw_tbl := List.mem_append_right _ (show _ ∈ tables_1 from List.mem_append_left _ (List.mem_of_getElem? (i := 35) (by decide +kernel)))
theorem wz_k9 : Cond.instantiable RX9 7 ∈ lw_tbl := List.mem_append_right _ (show _ ∈ tables_1 from List.mem_append_left _ (List.mem_of_getElem? (i := 56) (by decide +kernel)))
theorem wz_k10 : Cond.instantiable RX10 5 ∈ lw_tbl := List.mem_append_right _ (show _ ∈ tables_1 from List.mem_append_left _ (List.mem_of_getElem? (i := 89) (by decide +kernel)))
theorem wz_k11 : Cond.instantiable RX11 12 ∈ lw_tbl := List.mem_append_right _ (show _ ∈ tables_1 from List.mem_append_left _ (List.mem_of_getElem? (i := 27) (by decide +kernel)))
theorem wz_k12 : Cond.instantiable RX12 63 ∈ lw_tbl := List.mem_append_right _ (show _ ∈ tables_1 from List.mem_append_right _ (List.mem_append_right _ (List.mem_append_right _ (List.mem_append_right _ (List.mem_append_right _ (List.mem_append_left _ (List.mem_of_getElem? (i := 39) (by decide +kernel))))))))
theorem zarr {s : State} {args : Array Value} {ty : FieldType} (h : (Cond.arrayClass ty).before args s = true) : ∃ cA : ClassId, s.vm.findClass ("[" ++ ty.toString) = some cA ∧ ArrOfT s cA ty := by
  obtain ⟨c, k, comp, h1, h2, h3⟩ := Cond.arrayClass_spec h
  refine ⟨c, h1, fun n z => ?_⟩
  exact ⟨fun k h => (by cases h), k, h2, comp, h3⟩

theorem zstartK {s : State} {args : Array Value} (hts : ∀ w ∈ lw_tbl, w.before args s = true) : ∃ D : va_G, ∀ (k : Nat) (q : vw_C), vwCl[k]? = some q → u_Kn s q.1 q.2.1 q.2.2 (D.1 k) (D.2 k) := by
  obtain ⟨c0, i0, hk0⟩ := u_known (C := RX0) (T := TX0) (N := 4) (n := 4) hts (fun w hw => (List.mem_filter.mp (inN_0 w hw)).1) (hts _ wz_k0)
  obtain ⟨c1, i1, hk1⟩ := u_known (C := RX1) (T := TX1) (N := 2) (n := 2) hts (fun w hw => (List.mem_filter.mp (inN_1 w hw)).1) (hts _ wz_k1)
  obtain ⟨c2, i2, hk2⟩ := u_known (C := RX2) (T := TX2) (N := 7) (n := 7) hts (fun w hw => (List.mem_filter.mp (inN_2 w hw)).1) (hts _ wz_k2)
  obtain ⟨c3, i3, hk3⟩ := u_known (C := RX3) (T := TX3) (N := 19) (n := 19) hts (fun w hw => (List.mem_filter.mp (inN_3 w hw)).1) (hts _ wz_k3)
  obtain ⟨c4, i4, hk4⟩ := u_known (C := RX4) (T := TX4) (N := 12) (n := 12) hts (fun w hw => (List.mem_filter.mp (inN_4 w hw)).1) (hts _ wz_k4)
  obtain ⟨c5, i5, hk5⟩ := u_known (C := RX5) (T := TX5) (N := 11) (n := 11) hts (fun w hw => (List.mem_filter.mp (inN_5 w hw)).1) (hts _ wz_k5)
  obtain ⟨c6, i6, hk6⟩ := u_known (C := RX6) (T := TX6) (N := 5) (n := 5) hts (fun w hw => (List.mem_filter.mp (inN_6 w hw)).1) (hts _ wz_k6)
  obtain ⟨c7, i7, hk7⟩ := u_known (C := RX7) (T := TX7) (N := 5) (n := 5) hts (fun w hw => (List.mem_filter.mp (inN_7 w hw)).1) (hts _ wz_k7)
  obtain ⟨c8, i8, hk8⟩ := u_known (C := RX8) (T := TX8) (N := 4) (n := 4) hts (fun w hw => (List.mem_filter.mp (inN_8 w hw)).1) (hts _ wz_k8)
  obtain ⟨c9, i9, hk9⟩ := u_known (C := RX9) (T := TX9) (N := 7) (n := 7) hts (fun w hw => (List.mem_filter.mp (inN_9 w hw)).1) (hts _ wz_k9)
  obtain ⟨c10, i10, hk10⟩ := u_known (C := RX10) (T := TX10) (N := 5) (n := 5) hts (fun w hw => (List.mem_filter.mp (inN_10 w hw)).1) (hts _ wz_k10)
  obtain ⟨c11, i11, hk11⟩ := u_known (C := RX11) (T := TX11) (N := 12) (n := 12) hts (fun w hw => (List.mem_filter.mp (inN_11 w hw)).1) (hts _ wz_k11)
  obtain ⟨c12, i12, hk12⟩ := u_known (C := RX12) (T := TX12) (N := 63) (n := 63) hts (fun w hw => (List.mem_filter.mp (inN_12 w hw)).1) (hts _ wz_k12)
  refine ⟨(fun k => [c0, c1, c2, c3, c4, c5, c6, c7, c8, c9, c10, c11, c12].getD k 0, fun k => [i0, i1, i2, i3, i4, i5, i6, i7, i8, i9, i10, i11, i12].getD k i0), ?_⟩
  intro k q hq
  match k, hq with
  | 0, hq => cases hq; exact hk0
  | 1, hq => cases hq; exact hk1
  | 2, hq => cases hq; exact hk2
  | 3, hq => cases hq; exact hk3
  | 4, hq => cases hq; exact hk4
  | 5, hq => cases hq; exact hk5
  | 6, hq => cases hq; exact hk6
  | 7, hq => cases hq; exact hk7
  | 8, hq => cases hq; exact hk8
  | 9, hq => cases hq; exact hk9
  | 10, hq => cases hq; exact hk10
  | 11, hq => cases hq; exact hk11
  | 12, hq => cases hq; exact hk12
  | k + 13, hq => simp [vwCl] at hq
theorem zst_0 {s : State} {args : Array Value} (hts : ∀ w ∈ lw_tbl, w.before args s = true) (hg : (Jvm.Cond.and given_1 narrow_1).before args s = true) : ∃ t : Nat, va_Z "BalloonsMoor$Winds" "EAST" "[I" (.ref t) (fun q => s.heap.size ≤ q) s s.heap ∧ va_T .int t tEAST.length (fun j => .int (tEAST.getD j 0)) (fun q => s.heap.size ≤ q) s s.heap := by
  have hs := flat_of_before _ hg
  have harr : (Cond.arrayOf (.static "BalloonsMoor$Winds" "EAST" "[I") .int).before args s = true := hs _ (by decide +kernel)
  have hlen : (Cond.eq (.length (.static "BalloonsMoor$Winds" "EAST" "[I")) (.int 8)).before args s = true := hs _ (by decide +kernel)
  have h0 : (Cond.eq (.elem (.static "BalloonsMoor$Winds" "EAST" "[I") (.int 0)) (.int 0)).before args s = true := hs _ (by decide +kernel)
  have h1 : (Cond.eq (.elem (.static "BalloonsMoor$Winds" "EAST" "[I") (.int 1)) (.int 1)).before args s = true := hs _ (by decide +kernel)
  have h2 : (Cond.eq (.elem (.static "BalloonsMoor$Winds" "EAST" "[I") (.int 2)) (.int 1)).before args s = true := hs _ (by decide +kernel)
  have h3 : (Cond.eq (.elem (.static "BalloonsMoor$Winds" "EAST" "[I") (.int 3)) (.int 1)).before args s = true := hs _ (by decide +kernel)
  have h4 : (Cond.eq (.elem (.static "BalloonsMoor$Winds" "EAST" "[I") (.int 4)) (.int 0)).before args s = true := hs _ (by decide +kernel)
  have h5 : (Cond.eq (.elem (.static "BalloonsMoor$Winds" "EAST" "[I") (.int 5)) (.int (-1))).before args s = true := hs _ (by decide +kernel)
  have h6 : (Cond.eq (.elem (.static "BalloonsMoor$Winds" "EAST" "[I") (.int 6)) (.int (-1))).before args s = true := hs _ (by decide +kernel)
  have h7 : (Cond.eq (.elem (.static "BalloonsMoor$Winds" "EAST" "[I") (.int 7)) (.int (-1))).before args s = true := hs _ (by decide +kernel)
  obtain ⟨t, ht, hT⟩ := va_Tof (N := 8) (f := fun j => .int (tEAST.getD j 0)) (A := fun q => s.heap.size ≤ q) (by decide) harr (va_eqt hlen) (fun j hj => by
    match j, hj with
    | 0, _ => exact va_eqt h0
    | 1, _ => exact va_eqt h1
    | 2, _ => exact va_eqt h2
    | 3, _ => exact va_eqt h3
    | 4, _ => exact va_eqt h4
    | 5, _ => exact va_eqt h5
    | 6, _ => exact va_eqt h6
    | 7, _ => exact va_eqt h7
    | j + 8, hj => exact absurd hj (by omega)) (fun a ha => Nat.not_le.mpr ha)
  exact ⟨t, va_Zof (hts _ wz_s0) (hts _ wz_t0) ht (fun a ha => Nat.not_le.mpr ha), hT⟩
theorem zst_1 {s : State} {args : Array Value} (hts : ∀ w ∈ lw_tbl, w.before args s = true) (hg : (Jvm.Cond.and given_1 narrow_1).before args s = true) : ∃ t : Nat, va_Z "BalloonsMoor$Winds" "SOUTH" "[I" (.ref t) (fun q => s.heap.size ≤ q) s s.heap ∧ va_T .int t tSOUTH.length (fun j => .int (tSOUTH.getD j 0)) (fun q => s.heap.size ≤ q) s s.heap := by
  have hs := flat_of_before _ hg
  have harr : (Cond.arrayOf (.static "BalloonsMoor$Winds" "SOUTH" "[I") .int).before args s = true := hs _ (by decide +kernel)
  have hlen : (Cond.eq (.length (.static "BalloonsMoor$Winds" "SOUTH" "[I")) (.int 8)).before args s = true := hs _ (by decide +kernel)
  have h0 : (Cond.eq (.elem (.static "BalloonsMoor$Winds" "SOUTH" "[I") (.int 0)) (.int (-1))).before args s = true := hs _ (by decide +kernel)
  have h1 : (Cond.eq (.elem (.static "BalloonsMoor$Winds" "SOUTH" "[I") (.int 1)) (.int (-1))).before args s = true := hs _ (by decide +kernel)
  have h2 : (Cond.eq (.elem (.static "BalloonsMoor$Winds" "SOUTH" "[I") (.int 2)) (.int 0)).before args s = true := hs _ (by decide +kernel)
  have h3 : (Cond.eq (.elem (.static "BalloonsMoor$Winds" "SOUTH" "[I") (.int 3)) (.int 1)).before args s = true := hs _ (by decide +kernel)
  have h4 : (Cond.eq (.elem (.static "BalloonsMoor$Winds" "SOUTH" "[I") (.int 4)) (.int 1)).before args s = true := hs _ (by decide +kernel)
  have h5 : (Cond.eq (.elem (.static "BalloonsMoor$Winds" "SOUTH" "[I") (.int 5)) (.int 1)).before args s = true := hs _ (by decide +kernel)
  have h6 : (Cond.eq (.elem (.static "BalloonsMoor$Winds" "SOUTH" "[I") (.int 6)) (.int 0)).before args s = true := hs _ (by decide +kernel)
  have h7 : (Cond.eq (.elem (.static "BalloonsMoor$Winds" "SOUTH" "[I") (.int 7)) (.int (-1))).before args s = true := hs _ (by decide +kernel)
  obtain ⟨t, ht, hT⟩ := va_Tof (N := 8) (f := fun j => .int (tSOUTH.getD j 0)) (A := fun q => s.heap.size ≤ q) (by decide) harr (va_eqt hlen) (fun j hj => by
    match j, hj with
    | 0, _ => exact va_eqt h0
    | 1, _ => exact va_eqt h1
    | 2, _ => exact va_eqt h2
    | 3, _ => exact va_eqt h3
    | 4, _ => exact va_eqt h4
    | 5, _ => exact va_eqt h5
    | 6, _ => exact va_eqt h6
    | 7, _ => exact va_eqt h7
    | j + 8, hj => exact absurd hj (by omega)) (fun a ha => Nat.not_le.mpr ha)
  exact ⟨t, va_Zof (hts _ wz_s1) (hts _ wz_t1) ht (fun a ha => Nat.not_le.mpr ha), hT⟩
theorem zst_2 {s : State} {args : Array Value} (hts : ∀ w ∈ lw_tbl, w.before args s = true) (hg : (Jvm.Cond.and given_1 narrow_1).before args s = true) : ∃ t : Nat, va_Z "BalloonsMoor$Rule" "LETTERS" "[C" (.ref t) (fun q => s.heap.size ≤ q) s s.heap ∧ va_T .char t tLETTERS.length (fun j => .int (tLETTERS.getD j 0)) (fun q => s.heap.size ≤ q) s s.heap := by
  have hs := flat_of_before _ hg
  have harr : (Cond.arrayOf (.static "BalloonsMoor$Rule" "LETTERS" "[C") .char).before args s = true := hs _ (by decide +kernel)
  have hlen : (Cond.eq (.length (.static "BalloonsMoor$Rule" "LETTERS" "[C")) (.int 8)).before args s = true := hs _ (by decide +kernel)
  have h0 : (Cond.eq (.elem (.static "BalloonsMoor$Rule" "LETTERS" "[C") (.int 0)) (.int 103)).before args s = true := hs _ (by decide +kernel)
  have h1 : (Cond.eq (.elem (.static "BalloonsMoor$Rule" "LETTERS" "[C") (.int 1)) (.int 115)).before args s = true := hs _ (by decide +kernel)
  have h2 : (Cond.eq (.elem (.static "BalloonsMoor$Rule" "LETTERS" "[C") (.int 2)) (.int 99)).before args s = true := hs _ (by decide +kernel)
  have h3 : (Cond.eq (.elem (.static "BalloonsMoor$Rule" "LETTERS" "[C") (.int 3)) (.int 108)).before args s = true := hs _ (by decide +kernel)
  have h4 : (Cond.eq (.elem (.static "BalloonsMoor$Rule" "LETTERS" "[C") (.int 4)) (.int 111)).before args s = true := hs _ (by decide +kernel)
  have h5 : (Cond.eq (.elem (.static "BalloonsMoor$Rule" "LETTERS" "[C") (.int 5)) (.int 114)).before args s = true := hs _ (by decide +kernel)
  have h6 : (Cond.eq (.elem (.static "BalloonsMoor$Rule" "LETTERS" "[C") (.int 6)) (.int 104)).before args s = true := hs _ (by decide +kernel)
  have h7 : (Cond.eq (.elem (.static "BalloonsMoor$Rule" "LETTERS" "[C") (.int 7)) (.int 98)).before args s = true := hs _ (by decide +kernel)
  obtain ⟨t, ht, hT⟩ := va_Tof (N := 8) (f := fun j => .int (tLETTERS.getD j 0)) (A := fun q => s.heap.size ≤ q) (by decide) harr (va_eqt hlen) (fun j hj => by
    match j, hj with
    | 0, _ => exact va_eqt h0
    | 1, _ => exact va_eqt h1
    | 2, _ => exact va_eqt h2
    | 3, _ => exact va_eqt h3
    | 4, _ => exact va_eqt h4
    | 5, _ => exact va_eqt h5
    | 6, _ => exact va_eqt h6
    | 7, _ => exact va_eqt h7
    | j + 8, hj => exact absurd hj (by omega)) (fun a ha => Nat.not_le.mpr ha)
  exact ⟨t, va_Zof (hts _ wz_s2) (hts _ wz_t2) ht (fun a ha => Nat.not_le.mpr ha), hT⟩
def stIx : List Nat := [246, 244, 189, 222, 217, 242, 237, 391]
theorem zst_S {s : State} {args : Array Value} (hts : ∀ w ∈ lw_tbl, w.before args s = true) (hg : (Jvm.Cond.and given_1 narrow_1).before args s = true) : ∃ sa sv : Nat → Nat, xsM (fun q => s.heap.size ≤ q) sa sv s := by
  have hs := flat_of_before _ hg
  have hA : ∀ a : Nat, a < s.heap.size → ¬ (fun q : Nat => s.heap.size ≤ q) a := fun a ha => Nat.not_le.mpr ha
  have hex : ∀ i : Nat, i < 8 → (Cond.exactly ((fun i : Nat => (Term.string RX12 (stIx.getD i 0))) i) "java/lang/String").before args s = true := fun i hi => by
    match i, hi with
    | 0, _ => exact hs _ (by decide +kernel)
    | 1, _ => exact hs _ (by decide +kernel)
    | 2, _ => exact hs _ (by decide +kernel)
    | 3, _ => exact hs _ (by decide +kernel)
    | 4, _ => exact hs _ (by decide +kernel)
    | 5, _ => exact hs _ (by decide +kernel)
    | 6, _ => exact hs _ (by decide +kernel)
    | 7, _ => exact hs _ (by decide +kernel)
    | i + 8, hi => exact absurd hi (by omega)
  have hco : ∀ i : Nat, i < 8 → (Cond.eq (.field ((fun i : Nat => (Term.string RX12 (stIx.getD i 0))) i) "java/lang/String" "coder" "B") (.int 0)).before args s = true := fun i hi => by
    match i, hi with
    | 0, _ => exact hs _ (by decide +kernel)
    | 1, _ => exact hs _ (by decide +kernel)
    | 2, _ => exact hs _ (by decide +kernel)
    | 3, _ => exact hs _ (by decide +kernel)
    | 4, _ => exact hs _ (by decide +kernel)
    | 5, _ => exact hs _ (by decide +kernel)
    | 6, _ => exact hs _ (by decide +kernel)
    | 7, _ => exact hs _ (by decide +kernel)
    | i + 8, hi => exact absurd hi (by omega)
  have har : ∀ i : Nat, i < 8 → (Cond.arrayOf (.field ((fun i : Nat => (Term.string RX12 (stIx.getD i 0))) i) "java/lang/String" "value" "[B") .byte).before args s = true := fun i hi => by
    match i, hi with
    | 0, _ => exact hs _ (by decide +kernel)
    | 1, _ => exact hs _ (by decide +kernel)
    | 2, _ => exact hs _ (by decide +kernel)
    | 3, _ => exact hs _ (by decide +kernel)
    | 4, _ => exact hs _ (by decide +kernel)
    | 5, _ => exact hs _ (by decide +kernel)
    | 6, _ => exact hs _ (by decide +kernel)
    | 7, _ => exact hs _ (by decide +kernel)
    | i + 8, hi => exact absurd hi (by omega)
  have hle : ∀ i : Nat, i < 8 → (Cond.eq (.length (.field ((fun i : Nat => (Term.string RX12 (stIx.getD i 0))) i) "java/lang/String" "value" "[B")) (.int (Int32.ofNat (lenS.getD i 0)))).before args s = true := fun i hi => by
    match i, hi with
    | 0, _ => exact hs _ (by decide +kernel)
    | 1, _ => exact hs _ (by decide +kernel)
    | 2, _ => exact hs _ (by decide +kernel)
    | 3, _ => exact hs _ (by decide +kernel)
    | 4, _ => exact hs _ (by decide +kernel)
    | 5, _ => exact hs _ (by decide +kernel)
    | 6, _ => exact hs _ (by decide +kernel)
    | 7, _ => exact hs _ (by decide +kernel)
    | i + 8, hi => exact absurd hi (by omega)
  have hel : ∀ i : Nat, i < 8 → ∀ j : Nat, j < lenS.getD i 0 → (Cond.eq (.elem (.field ((fun i : Nat => (Term.string RX12 (stIx.getD i 0))) i) "java/lang/String" "value" "[B") (.int (Int32.ofNat j))) (.int ((bytS.getD i []).getD j 0))).before args s = true := fun i hi j hj => by
    match i, j, hi, hj with
    | 0, 0, _, _ => exact hs _ (by decide +kernel)
    | 0, 1, _, _ => exact hs _ (by decide +kernel)
    | 0, j + 2, _, hj => exact absurd hj (by simp [lenS])
    | 1, 0, _, _ => exact hs _ (by decide +kernel)
    | 1, 1, _, _ => exact hs _ (by decide +kernel)
    | 1, j + 2, _, hj => exact absurd hj (by simp [lenS])
    | 2, 0, _, _ => exact hs _ (by decide +kernel)
    | 2, 1, _, _ => exact hs _ (by decide +kernel)
    | 2, 2, _, _ => exact hs _ (by decide +kernel)
    | 2, 3, _, _ => exact hs _ (by decide +kernel)
    | 2, 4, _, _ => exact hs _ (by decide +kernel)
    | 2, 5, _, _ => exact hs _ (by decide +kernel)
    | 2, 6, _, _ => exact hs _ (by decide +kernel)
    | 2, 7, _, _ => exact hs _ (by decide +kernel)
    | 2, j + 8, _, hj => exact absurd hj (by simp [lenS])
    | 3, 0, _, _ => exact hs _ (by decide +kernel)
    | 3, 1, _, _ => exact hs _ (by decide +kernel)
    | 3, 2, _, _ => exact hs _ (by decide +kernel)
    | 3, j + 3, _, hj => exact absurd hj (by simp [lenS])
    | 4, 0, _, _ => exact hs _ (by decide +kernel)
    | 4, 1, _, _ => exact hs _ (by decide +kernel)
    | 4, 2, _, _ => exact hs _ (by decide +kernel)
    | 4, 3, _, _ => exact hs _ (by decide +kernel)
    | 4, 4, _, _ => exact hs _ (by decide +kernel)
    | 4, 5, _, _ => exact hs _ (by decide +kernel)
    | 4, 6, _, _ => exact hs _ (by decide +kernel)
    | 4, 7, _, _ => exact hs _ (by decide +kernel)
    | 4, 8, _, _ => exact hs _ (by decide +kernel)
    | 4, j + 9, _, hj => exact absurd hj (by simp [lenS])
    | 5, 0, _, _ => exact hs _ (by decide +kernel)
    | 5, 1, _, _ => exact hs _ (by decide +kernel)
    | 5, 2, _, _ => exact hs _ (by decide +kernel)
    | 5, j + 3, _, hj => exact absurd hj (by simp [lenS])
    | 6, 0, _, _ => exact hs _ (by decide +kernel)
    | 6, 1, _, _ => exact hs _ (by decide +kernel)
    | 6, 2, _, _ => exact hs _ (by decide +kernel)
    | 6, 3, _, _ => exact hs _ (by decide +kernel)
    | 6, 4, _, _ => exact hs _ (by decide +kernel)
    | 6, 5, _, _ => exact hs _ (by decide +kernel)
    | 6, 6, _, _ => exact hs _ (by decide +kernel)
    | 6, 7, _, _ => exact hs _ (by decide +kernel)
    | 6, j + 8, _, hj => exact absurd hj (by simp [lenS])
    | 7, 0, _, _ => exact hs _ (by decide +kernel)
    | 7, 1, _, _ => exact hs _ (by decide +kernel)
    | 7, 2, _, _ => exact hs _ (by decide +kernel)
    | 7, 3, _, _ => exact hs _ (by decide +kernel)
    | 7, 4, _, _ => exact hs _ (by decide +kernel)
    | 7, j + 5, _, hj => exact absurd hj (by simp [lenS])
    | i + 8, _, hi, _ => exact absurd hi (by omega)
  have hne : ∀ i j : Nat, i < 8 → j < 8 → i ≠ j → (Cond.not (Cond.eq ((fun i : Nat => (Term.string RX12 (stIx.getD i 0))) i) ((fun i : Nat => (Term.string RX12 (stIx.getD i 0))) j))).before args s = true ∨ (Cond.not (Cond.eq ((fun i : Nat => (Term.string RX12 (stIx.getD i 0))) j) ((fun i : Nat => (Term.string RX12 (stIx.getD i 0))) i))).before args s = true := fun i j hi hj hij => by
    match i, j, hi, hj, hij with
    | 0, 0, _, _, hij => exact absurd rfl hij
    | 0, 1, _, _, _ => exact Or.inr (hs _ (by decide +kernel))
    | 0, 2, _, _, _ => exact Or.inr (hs _ (by decide +kernel))
    | 0, 3, _, _, _ => exact Or.inr (hs _ (by decide +kernel))
    | 0, 4, _, _, _ => exact Or.inr (hs _ (by decide +kernel))
    | 0, 5, _, _, _ => exact Or.inr (hs _ (by decide +kernel))
    | 0, 6, _, _, _ => exact Or.inr (hs _ (by decide +kernel))
    | 0, 7, _, _, _ => exact Or.inl (hs _ (by decide +kernel))
    | 0, j + 8, _, hj, _ => exact absurd hj (by omega)
    | 1, 0, _, _, _ => exact Or.inl (hs _ (by decide +kernel))
    | 1, 1, _, _, hij => exact absurd rfl hij
    | 1, 2, _, _, _ => exact Or.inr (hs _ (by decide +kernel))
    | 1, 3, _, _, _ => exact Or.inr (hs _ (by decide +kernel))
    | 1, 4, _, _, _ => exact Or.inr (hs _ (by decide +kernel))
    | 1, 5, _, _, _ => exact Or.inr (hs _ (by decide +kernel))
    | 1, 6, _, _, _ => exact Or.inr (hs _ (by decide +kernel))
    | 1, 7, _, _, _ => exact Or.inl (hs _ (by decide +kernel))
    | 1, j + 8, _, hj, _ => exact absurd hj (by omega)
    | 2, 0, _, _, _ => exact Or.inl (hs _ (by decide +kernel))
    | 2, 1, _, _, _ => exact Or.inl (hs _ (by decide +kernel))
    | 2, 2, _, _, hij => exact absurd rfl hij
    | 2, 3, _, _, _ => exact Or.inl (hs _ (by decide +kernel))
    | 2, 4, _, _, _ => exact Or.inl (hs _ (by decide +kernel))
    | 2, 5, _, _, _ => exact Or.inl (hs _ (by decide +kernel))
    | 2, 6, _, _, _ => exact Or.inl (hs _ (by decide +kernel))
    | 2, 7, _, _, _ => exact Or.inl (hs _ (by decide +kernel))
    | 2, j + 8, _, hj, _ => exact absurd hj (by omega)
    | 3, 0, _, _, _ => exact Or.inl (hs _ (by decide +kernel))
    | 3, 1, _, _, _ => exact Or.inl (hs _ (by decide +kernel))
    | 3, 2, _, _, _ => exact Or.inr (hs _ (by decide +kernel))
    | 3, 3, _, _, hij => exact absurd rfl hij
    | 3, 4, _, _, _ => exact Or.inr (hs _ (by decide +kernel))
    | 3, 5, _, _, _ => exact Or.inl (hs _ (by decide +kernel))
    | 3, 6, _, _, _ => exact Or.inl (hs _ (by decide +kernel))
    | 3, 7, _, _, _ => exact Or.inl (hs _ (by decide +kernel))
    | 3, j + 8, _, hj, _ => exact absurd hj (by omega)
    | 4, 0, _, _, _ => exact Or.inl (hs _ (by decide +kernel))
    | 4, 1, _, _, _ => exact Or.inl (hs _ (by decide +kernel))
    | 4, 2, _, _, _ => exact Or.inr (hs _ (by decide +kernel))
    | 4, 3, _, _, _ => exact Or.inl (hs _ (by decide +kernel))
    | 4, 4, _, _, hij => exact absurd rfl hij
    | 4, 5, _, _, _ => exact Or.inl (hs _ (by decide +kernel))
    | 4, 6, _, _, _ => exact Or.inl (hs _ (by decide +kernel))
    | 4, 7, _, _, _ => exact Or.inl (hs _ (by decide +kernel))
    | 4, j + 8, _, hj, _ => exact absurd hj (by omega)
    | 5, 0, _, _, _ => exact Or.inl (hs _ (by decide +kernel))
    | 5, 1, _, _, _ => exact Or.inl (hs _ (by decide +kernel))
    | 5, 2, _, _, _ => exact Or.inr (hs _ (by decide +kernel))
    | 5, 3, _, _, _ => exact Or.inr (hs _ (by decide +kernel))
    | 5, 4, _, _, _ => exact Or.inr (hs _ (by decide +kernel))
    | 5, 5, _, _, hij => exact absurd rfl hij
    | 5, 6, _, _, _ => exact Or.inr (hs _ (by decide +kernel))
    | 5, 7, _, _, _ => exact Or.inl (hs _ (by decide +kernel))
    | 5, j + 8, _, hj, _ => exact absurd hj (by omega)
    | 6, 0, _, _, _ => exact Or.inl (hs _ (by decide +kernel))
    | 6, 1, _, _, _ => exact Or.inl (hs _ (by decide +kernel))
    | 6, 2, _, _, _ => exact Or.inr (hs _ (by decide +kernel))
    | 6, 3, _, _, _ => exact Or.inr (hs _ (by decide +kernel))
    | 6, 4, _, _, _ => exact Or.inr (hs _ (by decide +kernel))
    | 6, 5, _, _, _ => exact Or.inl (hs _ (by decide +kernel))
    | 6, 6, _, _, hij => exact absurd rfl hij
    | 6, 7, _, _, _ => exact Or.inl (hs _ (by decide +kernel))
    | 6, j + 8, _, hj, _ => exact absurd hj (by omega)
    | 7, 0, _, _, _ => exact Or.inr (hs _ (by decide +kernel))
    | 7, 1, _, _, _ => exact Or.inr (hs _ (by decide +kernel))
    | 7, 2, _, _, _ => exact Or.inr (hs _ (by decide +kernel))
    | 7, 3, _, _, _ => exact Or.inr (hs _ (by decide +kernel))
    | 7, 4, _, _, _ => exact Or.inr (hs _ (by decide +kernel))
    | 7, 5, _, _, _ => exact Or.inr (hs _ (by decide +kernel))
    | 7, 6, _, _, _ => exact Or.inr (hs _ (by decide +kernel))
    | 7, 7, _, _, hij => exact absurd rfl hij
    | 7, j + 8, _, hj, _ => exact absurd hj (by omega)
    | i + 8, _, hi, _, _ => exact absurd hi (by omega)
  obtain ⟨sa, sv, hS, hev⟩ := vk_Sof (N := 8) (tm := (fun i : Nat => (Term.string RX12 (stIx.getD i 0)))) (len := lenS) (byt := bytS) (A := fun q => s.heap.size ≤ q) (by decide) hex hco har hle hel hne hA
  have hr : ∀ (i : Nat) (tx : String), i < 8 → (Cond.stringRef RX12 (stIx.getD i 0) tx).before args s = true → vk_R RX12 (stIx.getD i 0) tx (sa i) s := fun i tx hi h => vk_R.of h (hev i hi)
  exact ⟨sa, sv, hS, va_Zof (hts _ wz_sc) (hts _ wz_ic) (va_eqt (hs _ (by decide +kernel))) hA, va_Zqof (hts _ wz_sq) (hts _ wz_iq) (hs _ (by decide +kernel)) hA, hr 0 "*/" (by decide) (hts _ wz_r246), hr 1 "+-" (by decide) (hts _ wz_r244), hr 2 "01234567" (by decide) (hts _ wz_r189), hr 3 "123" (by decide) (hts _ wz_r222), hr 4 "123456789" (by decide) (hts _ wz_r217), hr 5 "<>=" (by decide) (hts _ wz_r242), hr 6 "gsclorhb" (by decide) (hts _ wz_r237), hr 7 "lmcsh" (by decide) (hts _ wz_r391)⟩
