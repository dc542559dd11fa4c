def bytS : List (List Int32) := [[42, 47], [43, 45], [48, 49, 50, 51, 52, 53, 54, 55], [49, 50, 51], [49, 50, 51, 52, 53, 54, 55, 56, 57], [60, 62, 61], [103, 115, 99, 108, 111, 114, 104, 98], [108, 109, 99, 115, 104]]
def lenS : List Nat := [2, 2, 8, 3, 9, 3, 8, 5]
theorem lenS_eq : ∀ q, q < 8 → lenS.getD q 0 = (bytS.getD q []).length := by decide +kernel
def xtM (ad sa sv : Nat → Nat) (U : State) : Prop := vk_S 8 lenS bytS sa sv (zA layM.length ad) U U.heap ∧ va_Z "java/lang/String" "COMPACT_STRINGS" "Z" (.int 1) (zA layM.length ad) U U.heap ∧ va_Zq "jdk/internal/util/Preconditions" "SIOOBE_FORMATTER" "Ljava/util/function/BiFunction;" (zA layM.length ad) U U.heap ∧ vk_R RX12 246 "*/" (sa 0) U ∧ vk_R RX12 244 "+-" (sa 1) U ∧ vk_R RX12 189 "01234567" (sa 2) U ∧ vk_R RX12 222 "123" (sa 3) U ∧ vk_R RX12 217 "123456789" (sa 4) U ∧ vk_R RX12 242 "<>=" (sa 5) U ∧ vk_R RX12 237 "gsclorhb" (sa 6) U ∧ vk_R RX12 391 "lmcsh" (sa 7) U
theorem sR_246 {ad sa sv : Nat → Nat} (U : State) (h : xtM ad sa sv U) : vk_R RX12 246 "*/" (sa 0) U := h.2.2.2.1
theorem sR_244 {ad sa sv : Nat → Nat} (U : State) (h : xtM ad sa sv U) : vk_R RX12 244 "+-" (sa 1) U := h.2.2.2.2.1
theorem sR_189 {ad sa sv : Nat → Nat} (U : State) (h : xtM ad sa sv U) : vk_R RX12 189 "01234567" (sa 2) U := h.2.2.2.2.2.1
theorem sR_222 {ad sa sv : Nat → Nat} (U : State) (h : xtM ad sa sv U) : vk_R RX12 222 "123" (sa 3) U := h.2.2.2.2.2.2.1
theorem sR_217 {ad sa sv : Nat → Nat} (U : State) (h : xtM ad sa sv U) : vk_R RX12 217 "123456789" (sa 4) U := h.2.2.2.2.2.2.2.1
theorem sR_242 {ad sa sv : Nat → Nat} (U : State) (h : xtM ad sa sv U) : vk_R RX12 242 "<>=" (sa 5) U := h.2.2.2.2.2.2.2.2.1
theorem sR_237 {ad sa sv : Nat → Nat} (U : State) (h : xtM ad sa sv U) : vk_R RX12 237 "gsclorhb" (sa 6) U := h.2.2.2.2.2.2.2.2.2.1
theorem sR_391 {ad sa sv : Nat → Nat} (U : State) (h : xtM ad sa sv U) : vk_R RX12 391 "lmcsh" (sa 7) U := h.2.2.2.2.2.2.2.2.2.2
theorem wc_J0_length_8abf5 : Cond.code yJ0_length_8abf5 cJ0_length_8abf5 1 (some .int) ∈ zTB := zch_7 _ (List.mem_of_getElem? (i := 44) (by decide +kernel)) rfl
theorem wc_J0_charAt_5068e : Cond.code yJ0_charAt_5068e cJ0_charAt_5068e 2 (some .char) ∈ zTB := zch_7 _ (List.mem_of_getElem? (i := 54) (by decide +kernel)) rfl
theorem wc_J0_coder_7d493 : Cond.code yJ0_coder_7d493 cJ0_coder_7d493 1 (some .byte) ∈ zTB := zch_7 _ (List.mem_of_getElem? (i := 48) (by decide +kernel)) rfl
theorem wc_J0_isLatin1_aae02 : Cond.code yJ0_isLatin1_aae02 cJ0_isLatin1_aae02 1 (some .boolean) ∈ zTB := zch_7 _ (List.mem_of_getElem? (i := 58) (by decide +kernel)) rfl
theorem wc_J1_charAt_3b067 : Cond.code yJ1_charAt_3b067 cJ1_charAt_3b067 2 (some .char) ∈ zTB := zch_7 _ (List.mem_of_getElem? (i := 61) (by decide +kernel)) rfl
theorem wc_J0_checkIndex_df160 : Cond.code yJ0_checkIndex_df160 cJ0_checkIndex_df160 2 none ∈ zTB := zch_7 _ (List.mem_of_getElem? (i := 64) (by decide +kernel)) rfl
theorem wc_J3_checkIndex_8e157 : Cond.code yJ3_checkIndex_8e157 cJ3_checkIndex_8e157 3 (some .int) ∈ zTB := zch_7 _ (List.mem_of_getElem? (i := 69) (by decide +kernel)) rfl
theorem ws_f9 : Cond.fieldLink RJ0 9 "java/lang/String" "value" "[B" ∈ zTB := zch_9 _ (List.mem_of_getElem? (i := 69) (by decide +kernel)) rfl
theorem ws_f15 : Cond.fieldLink RJ0 15 "java/lang/String" "coder" "B" ∈ zTB := zch_9 _ (List.mem_of_getElem? (i := 70) (by decide +kernel)) rfl
theorem ws_f38 : Cond.fieldLink RJ0 38 "java/lang/String" "COMPACT_STRINGS" "Z" ∈ zTB := zch_7 _ (List.mem_of_getElem? (i := 49) (by decide +kernel)) rfl
theorem ws_f1053 : Cond.fieldLink RJ0 1053 "jdk/internal/util/Preconditions" "SIOOBE_FORMATTER" "Ljava/util/function/BiFunction;" ∈ zTB := zch_7 _ (List.mem_of_getElem? (i := 65) (by decide +kernel)) rfl
theorem ks_335_1 : Cond.methodLink RJ0 335 yJ0_coder_7d493 ∈ zTB := zch_7 _ (List.mem_of_getElem? (i := 45) (by decide +kernel)) rfl
theorem ks_335_2 : Cond.instanceMethod yJ0_coder_7d493 ∈ zTB := zch_7 _ (List.mem_of_getElem? (i := 46) (by decide +kernel)) rfl
theorem ks_335_3 : Cond.selects RJ0 yJ0_coder_7d493 yJ0_coder_7d493 ∈ zTB := zch_7 _ (List.mem_of_getElem? (i := 47) (by decide +kernel)) rfl
theorem ks_335_4 : Cond.initialized RJ0 ∈ zTB := zch_1 _ (List.mem_of_getElem? (i := 16) (by decide +kernel)) rfl
theorem ks_335 : zKV RJ0 335 RJ0 yJ0_coder_7d493 cJ0_coder_7d493 1 (some .byte) 0 := ⟨ks_335_1, ks_335_2, ks_335_3, ks_335_4, wc_J0_coder_7d493, by decide +kernel, by decide⟩
theorem ks_492_1 : Cond.methodLink RJ0 492 yJ0_isLatin1_aae02 ∈ zTB := zch_7 _ (List.mem_of_getElem? (i := 55) (by decide +kernel)) rfl
theorem ks_492_2 : Cond.instanceMethod yJ0_isLatin1_aae02 ∈ zTB := zch_7 _ (List.mem_of_getElem? (i := 56) (by decide +kernel)) rfl
theorem ks_492_3 : Cond.selects RJ0 yJ0_isLatin1_aae02 yJ0_isLatin1_aae02 ∈ zTB := zch_7 _ (List.mem_of_getElem? (i := 57) (by decide +kernel)) rfl
theorem ks_492_4 : Cond.initialized RJ0 ∈ zTB := zch_1 _ (List.mem_of_getElem? (i := 16) (by decide +kernel)) rfl
theorem ks_492 : zKV RJ0 492 RJ0 yJ0_isLatin1_aae02 cJ0_isLatin1_aae02 1 (some .boolean) 0 := ⟨ks_492_1, ks_492_2, ks_492_3, ks_492_4, wc_J0_isLatin1_aae02, by decide +kernel, by decide⟩
theorem ks_495_1 : Cond.methodLink RJ0 495 yJ1_charAt_3b067 ∈ zTB := zch_7 _ (List.mem_of_getElem? (i := 59) (by decide +kernel)) rfl
theorem ks_495_2 : Cond.static yJ1_charAt_3b067 ∈ zTB := zch_7 _ (List.mem_of_getElem? (i := 60) (by decide +kernel)) rfl
theorem ks_495_4 : Cond.initialized yJ1_charAt_3b067.cls ∈ zTB := zch_1 _ (List.mem_of_getElem? (i := 17) (by decide +kernel)) rfl
theorem ks_495 : zKS RJ0 495 yJ1_charAt_3b067 cJ1_charAt_3b067 2 (some .char) 2 := ⟨ks_495_1, ks_495_2, ks_495_4, wc_J1_charAt_3b067, by decide +kernel, by decide⟩
theorem ks_9_1 : Cond.methodLink RJ1 9 yJ0_checkIndex_df160 ∈ zTB := zch_7 _ (List.mem_of_getElem? (i := 62) (by decide +kernel)) rfl
theorem ks_9_2 : Cond.static yJ0_checkIndex_df160 ∈ zTB := zch_7 _ (List.mem_of_getElem? (i := 63) (by decide +kernel)) rfl
theorem ks_9_4 : Cond.initialized yJ0_checkIndex_df160.cls ∈ zTB := zch_1 _ (List.mem_of_getElem? (i := 16) (by decide +kernel)) rfl
theorem ks_9 : zKS RJ1 9 yJ0_checkIndex_df160 cJ0_checkIndex_df160 2 none 2 := ⟨ks_9_1, ks_9_2, ks_9_4, wc_J0_checkIndex_df160, by decide +kernel, by decide⟩
theorem ks_1059_1 : Cond.methodLink RJ0 1059 yJ3_checkIndex_8e157 ∈ zTB := zch_7 _ (List.mem_of_getElem? (i := 67) (by decide +kernel)) rfl
theorem ks_1059_2 : Cond.static yJ3_checkIndex_8e157 ∈ zTB := zch_7 _ (List.mem_of_getElem? (i := 68) (by decide +kernel)) rfl
theorem ks_1059_4 : Cond.initialized yJ3_checkIndex_8e157.cls ∈ zTB := zch_1 _ (List.mem_of_getElem? (i := 18) (by decide +kernel)) rfl
theorem ks_1059 : zKS RJ0 1059 yJ3_checkIndex_8e157 cJ3_checkIndex_8e157 3 (some .int) 3 := ⟨ks_1059_1, ks_1059_2, ks_1059_4, wc_J3_checkIndex_8e157, by decide +kernel, by decide⟩
theorem dJ0_length_8abf5_0 : decode cJ0_length_8abf5 0 = .ok (.aload_n 0, 1) := by decide +kernel
theorem dJ0_length_8abf5_1 : decode cJ0_length_8abf5 1 = .ok (.getfield 9, 3) := by decide +kernel
theorem dJ0_length_8abf5_4 : decode cJ0_length_8abf5 4 = .ok (.arraylength, 1) := by decide +kernel
theorem dJ0_length_8abf5_5 : decode cJ0_length_8abf5 5 = .ok (.aload_n 0, 1) := by decide +kernel
theorem dJ0_length_8abf5_6 : decode cJ0_length_8abf5 6 = .ok (.invokevirtual 335, 3) := by decide +kernel
theorem dJ0_length_8abf5_9 : decode cJ0_length_8abf5 9 = .ok (.ishr, 1) := by decide +kernel
theorem dJ0_length_8abf5_10 : decode cJ0_length_8abf5 10 = .ok (.ireturn, 1) := by decide +kernel
theorem dJ0_charAt_5068e_0 : decode cJ0_charAt_5068e 0 = .ok (.aload_n 0, 1) := by decide +kernel
theorem dJ0_charAt_5068e_1 : decode cJ0_charAt_5068e 1 = .ok (.invokevirtual 492, 3) := by decide +kernel
theorem dJ0_charAt_5068e_4 : decode cJ0_charAt_5068e 4 = .ok (.ifCond .eq 12, 3) := by decide +kernel
theorem dJ0_charAt_5068e_7 : decode cJ0_charAt_5068e 7 = .ok (.aload_n 0, 1) := by decide +kernel
theorem dJ0_charAt_5068e_8 : decode cJ0_charAt_5068e 8 = .ok (.getfield 9, 3) := by decide +kernel
theorem dJ0_charAt_5068e_11 : decode cJ0_charAt_5068e 11 = .ok (.iload_n 1, 1) := by decide +kernel
theorem dJ0_charAt_5068e_12 : decode cJ0_charAt_5068e 12 = .ok (.invokestatic 495, 3) := by decide +kernel
theorem dJ0_charAt_5068e_15 : decode cJ0_charAt_5068e 15 = .ok (.ireturn, 1) := by decide +kernel
theorem dJ0_charAt_5068e_16 : decode cJ0_charAt_5068e 16 = .ok (.aload_n 0, 1) := by decide +kernel
theorem dJ0_charAt_5068e_17 : decode cJ0_charAt_5068e 17 = .ok (.getfield 9, 3) := by decide +kernel
theorem dJ0_charAt_5068e_20 : decode cJ0_charAt_5068e 20 = .ok (.iload_n 1, 1) := by decide +kernel
theorem dJ0_charAt_5068e_21 : decode cJ0_charAt_5068e 21 = .ok (.invokestatic 498, 3) := by decide +kernel
theorem dJ0_charAt_5068e_24 : decode cJ0_charAt_5068e 24 = .ok (.ireturn, 1) := by decide +kernel
theorem dJ0_coder_7d493_0 : decode cJ0_coder_7d493 0 = .ok (.getstatic 38, 3) := by decide +kernel
theorem dJ0_coder_7d493_3 : decode cJ0_coder_7d493 3 = .ok (.ifCond .eq 10, 3) := by decide +kernel
theorem dJ0_coder_7d493_6 : decode cJ0_coder_7d493 6 = .ok (.aload_n 0, 1) := by decide +kernel
theorem dJ0_coder_7d493_7 : decode cJ0_coder_7d493 7 = .ok (.getfield 15, 3) := by decide +kernel
theorem dJ0_coder_7d493_10 : decode cJ0_coder_7d493 10 = .ok (.goto 4, 3) := by decide +kernel
theorem dJ0_coder_7d493_13 : decode cJ0_coder_7d493 13 = .ok (.iconst 1, 1) := by decide +kernel
theorem dJ0_coder_7d493_14 : decode cJ0_coder_7d493 14 = .ok (.ireturn, 1) := by decide +kernel
theorem dJ0_isLatin1_aae02_0 : decode cJ0_isLatin1_aae02 0 = .ok (.getstatic 38, 3) := by decide +kernel
theorem dJ0_isLatin1_aae02_3 : decode cJ0_isLatin1_aae02 3 = .ok (.ifCond .eq 14, 3) := by decide +kernel
theorem dJ0_isLatin1_aae02_6 : decode cJ0_isLatin1_aae02 6 = .ok (.aload_n 0, 1) := by decide +kernel
theorem dJ0_isLatin1_aae02_7 : decode cJ0_isLatin1_aae02 7 = .ok (.getfield 15, 3) := by decide +kernel
theorem dJ0_isLatin1_aae02_10 : decode cJ0_isLatin1_aae02 10 = .ok (.ifCond .ne 7, 3) := by decide +kernel
theorem dJ0_isLatin1_aae02_13 : decode cJ0_isLatin1_aae02 13 = .ok (.iconst 1, 1) := by decide +kernel
theorem dJ0_isLatin1_aae02_14 : decode cJ0_isLatin1_aae02 14 = .ok (.goto 4, 3) := by decide +kernel
theorem dJ0_isLatin1_aae02_17 : decode cJ0_isLatin1_aae02 17 = .ok (.iconst 0, 1) := by decide +kernel
theorem dJ0_isLatin1_aae02_18 : decode cJ0_isLatin1_aae02 18 = .ok (.ireturn, 1) := by decide +kernel
theorem dJ0_checkIndex_df160_0 : decode cJ0_checkIndex_df160 0 = .ok (.iload_n 0, 1) := by decide +kernel
theorem dJ0_checkIndex_df160_1 : decode cJ0_checkIndex_df160 1 = .ok (.iload_n 1, 1) := by decide +kernel
theorem dJ0_checkIndex_df160_2 : decode cJ0_checkIndex_df160 2 = .ok (.getstatic 1053, 3) := by decide +kernel
theorem dJ0_checkIndex_df160_5 : decode cJ0_checkIndex_df160 5 = .ok (.invokestatic 1059, 3) := by decide +kernel
theorem dJ0_checkIndex_df160_8 : decode cJ0_checkIndex_df160 8 = .ok (.pop, 1) := by decide +kernel
theorem dJ0_checkIndex_df160_9 : decode cJ0_checkIndex_df160 9 = .ok (.return_, 1) := by decide +kernel
theorem dJ1_charAt_3b067_0 : decode cJ1_charAt_3b067 0 = .ok (.iload_n 1, 1) := by decide +kernel
theorem dJ1_charAt_3b067_1 : decode cJ1_charAt_3b067 1 = .ok (.aload_n 0, 1) := by decide +kernel
theorem dJ1_charAt_3b067_2 : decode cJ1_charAt_3b067 2 = .ok (.arraylength, 1) := by decide +kernel
theorem dJ1_charAt_3b067_3 : decode cJ1_charAt_3b067 3 = .ok (.invokestatic 9, 3) := by decide +kernel
theorem dJ1_charAt_3b067_6 : decode cJ1_charAt_3b067 6 = .ok (.aload_n 0, 1) := by decide +kernel
theorem dJ1_charAt_3b067_7 : decode cJ1_charAt_3b067 7 = .ok (.iload_n 1, 1) := by decide +kernel
theorem dJ1_charAt_3b067_8 : decode cJ1_charAt_3b067 8 = .ok (.baload, 1) := by decide +kernel
theorem dJ1_charAt_3b067_9 : decode cJ1_charAt_3b067 9 = .ok (.sipush 255, 3) := by decide +kernel
theorem dJ1_charAt_3b067_12 : decode cJ1_charAt_3b067 12 = .ok (.iand, 1) := by decide +kernel
theorem dJ1_charAt_3b067_13 : decode cJ1_charAt_3b067 13 = .ok (.i2c, 1) := by decide +kernel
theorem dJ1_charAt_3b067_14 : decode cJ1_charAt_3b067 14 = .ok (.ireturn, 1) := by decide +kernel
theorem dJ3_checkIndex_8e157_0 : decode cJ3_checkIndex_8e157 0 = .ok (.iload_n 0, 1) := by decide +kernel
theorem dJ3_checkIndex_8e157_1 : decode cJ3_checkIndex_8e157 1 = .ok (.ifCond .lt 8, 3) := by decide +kernel
theorem dJ3_checkIndex_8e157_4 : decode cJ3_checkIndex_8e157 4 = .ok (.iload_n 0, 1) := by decide +kernel
theorem dJ3_checkIndex_8e157_5 : decode cJ3_checkIndex_8e157 5 = .ok (.iload_n 1, 1) := by decide +kernel
theorem dJ3_checkIndex_8e157_6 : decode cJ3_checkIndex_8e157 6 = .ok (.if_icmp .lt 10, 3) := by decide +kernel
theorem dJ3_checkIndex_8e157_9 : decode cJ3_checkIndex_8e157 9 = .ok (.aload_n 2, 1) := by decide +kernel
theorem dJ3_checkIndex_8e157_10 : decode cJ3_checkIndex_8e157 10 = .ok (.iload_n 0, 1) := by decide +kernel
theorem dJ3_checkIndex_8e157_11 : decode cJ3_checkIndex_8e157 11 = .ok (.iload_n 1, 1) := by decide +kernel
theorem dJ3_checkIndex_8e157_12 : decode cJ3_checkIndex_8e157 12 = .ok (.invokestatic 95, 3) := by decide +kernel
theorem dJ3_checkIndex_8e157_15 : decode cJ3_checkIndex_8e157 15 = .ok (.athrow, 1) := by decide +kernel
theorem dJ3_checkIndex_8e157_16 : decode cJ3_checkIndex_8e157 16 = .ok (.iload_n 0, 1) := by decide +kernel
theorem dJ3_checkIndex_8e157_17 : decode cJ3_checkIndex_8e157 17 = .ok (.ireturn, 1) := by decide +kernel
def zlt8 {ρ : Type} (q : Nat) (k : zM ρ) : zM ρ := fun S => if q < 8 then k S else none
theorem z_lt8 {ρ : Type} {lay : List zY} {ad : Nat → Nat} {E : zE} {nL pc q : Nat} {Fn : ρ → zS → State → Prop} {L : List (Nat × Value)} {st : List Value} {mm : zM ρ} (h : q < 8 → Z lay ad E nL Fn pc L st mm) : Z lay ad E nL Fn pc L st (zlt8 q mm) := fun S H locs ls hl hP hS r S2 he => by
  by_cases hq : q < 8
  · exact h hq S H locs ls hl hP hS r S2 (by simpa [zlt8, hq] using he)
  · simp [zlt8, hq] at he
section ZSTR
variable {ρ ρ' : Type} {lay : List zY} {ad : Nat → Nat} {Xt : State → Prop} {E : zE} {cc : ByteArray} {nL d : Nat} {own : String} {Fn : ρ → zS → State → Prop} {pc : Nat} {L L' : List (Nat × Value)} {st st0 : List Value} {mm ma mb : zM ρ}
theorem z_ldcs (hE : zok lay ad Xt E cc nL own d) {idx q : Nat} {tx : String} (hR : ∀ U, Xt U → vk_R own idx tx q U) (hd : decode cc pc = .ok (.ldc idx, 2)) (k : Z lay ad E nL Fn (pc + 2) L (.ref q :: st) mm) : Z lay ad E nL Fn pc L st mm := fun S H locs ls hl hP hS r S' h => va_ldcS hE.1.1 hE.1.2.1 hE.1.2.2.2.1 (hR _ hE.2.2.2.2.1) hd (k S H locs ls hl hP hS r S' h)
theorem ldcWS {p : Program} {l : Launch} {e : Env} {R : Room} {s : State} {m : MethodId} {args : Array Value} {below : List Frame} {meth : Method} {c : Code} {T : State} {locs : List Loc} {cells slots : Nat}
    (X : Stand p l e R s m args below meth c T locs cells slots) (hexec : p.tables.exec = Jvm.exec) {own text : String} {index : Nat} {a : Addr} (hown : s.vm.findClass own = some m.cls)
    (hconst : (Cond.stringRef own index text).before #[] s = true) (hev : (Term.string own index).eval #[] s none [] s = some (.ref a)) {g : JFrame} (hg : g.method = m) (hdg : decode c.code g.pc = .ok (.ldc_w index, 3)) :
    ∀ target, Steps p.tables e below (T.setTop { g with pc := g.pc + 3, stack := .ref a :: g.stack }) target → Steps p.tables e below (T.setTop g) target := by
  obtain ⟨k, cf, i, a', hk, hcf, hcp, -, hr, hev'⟩ := Cond.stringRef_spec hown hconst
  cases hev.symm.trans hev'
  obtain ⟨k', hk', he⟩ := X.warmed.alike.2.2 _ _ hk
  have hr' : k'.resolved[index]? = some (some (.string a)) := by
    rcases X.warmed.entry hk hk' index with h | ⟨h, -⟩
    · rw [h]; exact hr
    · rw [hr] at h; cases h
  intro target hrest
  subst hg
  jvm_step X.here [hexec, hdg, ldc_w.wp_string (e := e) (s := T) (f := g) X.here.top hk' (by rw [he]; exact hcf) hcp hr']
  exact hrest
theorem z_ldcsw (hE : zok lay ad Xt E cc nL own d) {idx q : Nat} {tx : String} (hR : ∀ U, Xt U → vk_R own idx tx q U) (hd : decode cc pc = .ok (.ldc_w idx, 3)) (k : Z lay ad E nL Fn (pc + 3) L (.ref q :: st) mm) : Z lay ad E nL Fn pc L st mm := fun S H locs ls hl hP hS r S' h => by
  intro T hT X
  obtain ⟨t, a, b⟩ := k S H locs ls hl hP hS r S' h T hT X
  exact ⟨t, ldcWS X hE.1.1 hE.1.2.2.2.1 (hR _ hE.2.2.2.2.1).1 (hR _ hE.2.2.2.2.1).2 (g := F0 E.2.1.1 pc ls st) rfl (by rw [hE.1.2.1]; exact hd) t a, b⟩
theorem z_getfs (hE : zok lay ad Xt E cc nL own d) {o n dd : String} {v : Value} {idx q : Nat} (hF : ∀ U, Xt U → va_OF o n dd v q (zA lay.length ad) U U.heap) (w : Cond.fieldLink own idx o n dd ∈ zTB) (hd : decode cc pc = .ok (.getfield idx, 3)) (k : Z lay ad E nL Fn (pc + 3) L (v :: st) mm) : Z lay ad E nL Fn pc L (.ref q :: st) mm := fun S H locs ls hl hP hS r S' h => vk_getf hE.1.1 hE.1.2.1 (hF _ hE.2.2.2.2.1) hS hE.1.2.2.2.1 (hE.1.2.2.2.2 _ w) (fun _ h => h) hd (k S H locs ls hl hP hS r S' h)
theorem z_getsv (hE : zok lay ad Xt E cc nL own d) {C n dd : String} {idx : Nat} {v : Value} (hZ : ∀ U, Xt U → va_Z C n dd v (zA lay.length ad) U U.heap) (w : Cond.fieldLink own idx C n dd ∈ zTB) (hd : decode cc pc = .ok (.getstatic idx, 3)) (k : Z lay ad E nL Fn (pc + 3) L (v :: st) mm) : Z lay ad E nL Fn pc L st mm := fun S H locs ls hl hP hS r S' h =>
  va_gets hE.1.1 hE.1.2.1 (hZ _ hE.2.2.2.2.1) hS hE.1.2.2.2.1 (hE.1.2.2.2.2 _ w) (fun _ h => h) hd (k S H locs ls hl hP hS r S' h)
theorem z_getsq (hE : zok lay ad Xt E cc nL own d) {C n dd : String} {idx : Nat} (hZ : ∀ U, Xt U → va_Zq C n dd (zA lay.length ad) U U.heap) (w : Cond.fieldLink own idx C n dd ∈ zTB) (hd : decode cc pc = .ok (.getstatic idx, 3)) (k0 : Z lay ad E nL Fn (pc + 3) L (.null :: st) mm) (k1 : ∀ t, Z lay ad E nL Fn (pc + 3) L (.ref t :: st) mm) : Z lay ad E nL Fn pc L st mm := fun S H locs ls hl hP hS r S' h => by
  rcases hZ _ hE.2.2.2.2.1 with hz | ⟨t, hz⟩
  · exact va_gets hE.1.1 hE.1.2.1 hz hS hE.1.2.2.2.1 (hE.1.2.2.2.2 _ w) (fun _ h => h) hd (k0 S H locs ls hl hP hS r S' h)
  · exact va_gets hE.1.1 hE.1.2.1 hz hS hE.1.2.2.2.1 (hE.1.2.2.2.2 _ w) (fun _ h => h) hd (k1 t S H locs ls hl hP hS r S' h)
theorem z_tb (hE : zok lay ad Xt E cc nL own d) {t n : Nat} (tb : List Int32) (hn : n = tb.length) {x : Int32} {mk : Int32 → zM ρ} (hT : ∀ U, Xt U → va_T .byte t n (fun j => .int (tb.getD j 0)) (zA lay.length ad) U U.heap) (hd : decode cc pc = .ok (.baload, 1)) (k : ∀ v, Z lay ad E nL Fn (pc + 1) L (.int v :: st) (mk v)) : Z lay ad E nL Fn pc L (.int x :: .ref t :: st) (zta tb x mk) := fun S H locs ls hl hP hS r S' h => by
  subst hn
  by_cases hx : x < 0 ∨ tb.length ≤ x.toNatClampNeg
  · simp [zta, hx] at h
  · exact va_tb hE.1.1 hE.1.2.1 (hT _ hE.2.2.2.2.1) hS (zvin hx) rfl hd (k _ S H locs ls hl hP hS r S' (by simpa [zta, hx] using h))
theorem z_tlenN (hE : zok lay ad Xt E cc nL own d) {t n : Nat} {ty : FieldType} {f : Nat → Value} (hT : ∀ U, Xt U → va_T ty t n f (zA lay.length ad) U U.heap) (hd : decode cc pc = .ok (.arraylength, 1)) (k : Z lay ad E nL Fn (pc + 1) L (.int (Int32.ofNat n) :: st) mm) : Z lay ad E nL Fn pc L (.ref t :: st) mm := fun S H locs ls hl hP hS r S' h => va_tlen hE.1.1 hE.1.2.1 (hT _ hE.2.2.2.2.1) hS rfl hd (k S H locs ls hl hP hS r S' h)
theorem z_nreturn {v : Int32} {ty : FieldType} (hE : zok lay ad Xt E cc nL own d) (hr : E.2.1.2.2.2.1.sig.returnType = some ty) (hn : narrow ty (.int v) = .int v) (hd : decode cc pc = .ok (.ireturn, 1)) : Z lay ad E nL (zFin lay ad E zvi) pc L [.int v] (zret v) := fun S H locs ls hl hP hS r S' h => by
  simp only [zret, Option.some.injEq, Prod.mk.injEq] at h
  obtain ⟨rfl, rfl⟩ := h
  exact W.zret hE.1.1 hE.1.2.1 hr hn (fun t ht hW => ⟨rfl, by rw [ht]; exact hP, hS.F ht⟩) hS.2.2 hd hE.2.1
theorem z_callVs {val : ρ' → Option Value} {f : zM ρ'} {k : ρ' → zM ρ} {idx : Nat} {C : String} {y : MethodName} {bytes : ByteArray} {maxL n dc b : Nat} {ret : Option FieldType} (As : List Value) (hE : zok lay ad Xt E cc nL own d) (hK : zKV own idx C y bytes maxL ret n)
    (hC : zC E.1.2.1 y bytes maxL ret dc lay ad E.2.2.1 E.2.2.2 Xt (.ref b :: As) val f) (hrv : ∀ U, Xt U → va_O C b (zA lay.length ad) U U.heap) (hn : As.length = n) (hst : st0 = As.reverse ++ .ref b :: st) (hsum : (st.map fun v => v.category).sum ≤ 8) (hR : dc + 1 ≤ d)
    (hd : decode cc pc = .ok (.invokevirtual idx, 3)) (kk : ∀ r, Z lay ad E nL Fn (pc + 3) L ((val r).toList ++ st) (k r)) : Z lay ad E nL Fn pc L st0 (zb f k) := by
  refine z_run (val := val) (fun S H locs ls r S' hl hP hS hf => ⟨(Value.ref b :: As).toArray, ?_⟩) kk
  obtain ⟨w1, w2, w3, w4, w5, w6, w7⟩ := hK
  have hG : GoodIn zTB (wsV own idx C y (zws y bytes maxL ret)) := zgoodIn (fun w hw => by
    simp only [wsV, zws, List.cons_append, List.nil_append, List.mem_cons] at hw
    rcases hw with rfl | rfl | rfl | rfl | rfl | hw
    · exact w1
    · exact w2
    · exact w3
    · exact w4
    · exact w5
    · exact hw)
  have hv : ∃ cell : Cell, H[b]? = some cell ∧ cell.vm.isStatics = false ∧ E.1.2.2.2.2.vm.findClass C = some cell.cls := by
    obtain ⟨cell, h1, h2, h3, -⟩ := (hrv _ hE.2.2.2.2.1).kept hS.2.1
    exact ⟨cell, h1, h2, h3⟩
  exact va_runV (As := As) (rest := st) hE.1 (hC S r S' hf) (cwV n hE.1.2.2.2.2 hG rfl rfl rfl w6 (zroom hE.2.2.2.2.2.2 hR w7)) ⟨zPre_blind _ _ _ _ _ _ _, hv, fun U hU hW => ⟨rfl, zpre_at hE hP hS U hU hW⟩⟩ rfl hn hl.1 hst (lv_room hsum) hd ⟨Nat.zero_le _, Nat.zero_le _⟩
theorem z_callVsi {f : zM Int32} {k : Int32 → zM ρ} {idx : Nat} {C : String} {y : MethodName} {bytes : ByteArray} {maxL n dc b : Nat} {ret : Option FieldType} (As : List Value) (hE : zok lay ad Xt E cc nL own d) (hK : zKV own idx C y bytes maxL ret n)
    (hC : zC E.1.2.1 y bytes maxL ret dc lay ad E.2.2.1 E.2.2.2 Xt (.ref b :: As) zvi f) (hrv : ∀ U, Xt U → va_O C b (zA lay.length ad) U U.heap) (hn : As.length = n) (hst : st0 = As.reverse ++ .ref b :: st) (hsum : (st.map fun v => v.category).sum ≤ 8) (hR : dc + 1 ≤ d)
    (hd : decode cc pc = .ok (.invokevirtual idx, 3)) (kk : ∀ r, Z lay ad E nL Fn (pc + 3) L (.int r :: st) (k r)) : Z lay ad E nL Fn pc L st0 (zb f k) := z_callVs As hE hK hC hrv hn hst hsum hR hd kk
end ZSTR
section ZSTRM
variable {l : Launch} {ad : Nat → Nat} {ca : FieldType → ClassId} {D : va_G} {sa sv : Nat → Nat}
theorem sO {q : Nat} (hq : q < 8) (U : State) (h : xtM ad sa sv U) : va_O RJ0 (sa q) (zA layM.length ad) U U.heap := (h.1.1 q hq).1
theorem sC {q : Nat} (hq : q < 8) (U : State) (h : xtM ad sa sv U) : va_OF "java/lang/String" "coder" "B" (.int 0) (sa q) (zA layM.length ad) U U.heap := (h.1.1 q hq).2.1
theorem sV {q : Nat} (hq : q < 8) (U : State) (h : xtM ad sa sv U) : va_OF "java/lang/String" "value" "[B" (.ref (sv q)) (sa q) (zA layM.length ad) U U.heap := (h.1.1 q hq).2.2.1
theorem sT {q : Nat} (hq : q < 8) (U : State) (h : xtM ad sa sv U) : va_T .byte (sv q) (lenS.getD q 0) (fun j => .int ((bytS.getD q []).getD j 0)) (zA layM.length ad) U U.heap := (h.1.1 q hq).2.2.2
theorem sZ (U : State) (h : xtM ad sa sv U) : va_Z "java/lang/String" "COMPACT_STRINGS" "Z" (.int 1) (zA layM.length ad) U U.heap := h.2.1
theorem sQ (U : State) (h : xtM ad sa sv U) : va_Zq "jdk/internal/util/Preconditions" "SIOOBE_FORMATTER" "Ljava/util/function/BiFunction;" (zA layM.length ad) U U.heap := h.2.2.1
theorem zone {ρ : Type} {lay : List zY} {E : zE} {nL pc : Nat} {Fn : ρ → zS → State → Prop} {L : List (Nat × Value)} {st : List Value} {mm : zM ρ} {x y : Int32} {mb : zM ρ} (h : Z lay ad E nL Fn pc L st (zeq x y mb mm)) (hx : x ≠ y) : Z lay ad E nL Fn pc L st mm := fun S H locs ls hl hP hS r S' he => h S H locs ls hl hP hS r S' (by simpa [zeq, hx] using he)
theorem zone' {ρ : Type} {lay : List zY} {E : zE} {nL pc : Nat} {Fn : ρ → zS → State → Prop} {L : List (Nat × Value)} {st : List Value} {mm : zM ρ} {x y : Int32} {mb : zM ρ} (h : Z lay ad E nL Fn pc L st (zeq x y mm mb)) (hx : x = y) : Z lay ad E nL Fn pc L st mm := fun S H locs ls hl hP hS r S' he => h S H locs ls hl hP hS r S' (by simpa [zeq, hx] using he)
theorem c_J0_coder (q : Nat) (hq : q < 8) : zC l yJ0_coder_7d493 cJ0_coder_7d493 1 (some .byte) 0 layM ad ca D (xtM ad sa sv) [.ref (sa q)] zvi (zret 0) := by
  refine z_enter (by decide) (Nat.le_of_ble_eq_true rfl) (fun E hE hl0 hcD hr => ?_)
  have hE : zok layM ad (xtM ad sa sv) E cJ0_coder_7d493 1 RJ0 0 := hE
  show Z layM ad E 1 (zFin layM ad E zvi) 0 [(0, .ref (sa q))] [] (zret 0)
  refine z_getsv (pc := 0) hE sZ ws_f38 dJ0_coder_7d493_0 ?_
  refine zone (y := 0) (mb := znone) (z_if_eq (pc := 3) hE 13 rfl dJ0_coder_7d493_3 z_none ?_) (by decide)
  refine z_aload_n (pc := 6) hE 0 0 rfl rfl dJ0_coder_7d493_6 ?_
  refine z_getfs (pc := 7) hE (sC hq) ws_f15 dJ0_coder_7d493_7 ?_
  refine z_goto (pc := 10) hE 14 rfl dJ0_coder_7d493_10 ?_
  exact z_nreturn (pc := 14) hE hr (by decide) dJ0_coder_7d493_14
theorem c_J0_isLatin1 (q : Nat) (hq : q < 8) : zC l yJ0_isLatin1_aae02 cJ0_isLatin1_aae02 1 (some .boolean) 0 layM ad ca D (xtM ad sa sv) [.ref (sa q)] zvi (zret 1) := by
  refine z_enter (by decide) (Nat.le_of_ble_eq_true rfl) (fun E hE hl0 hcD hr => ?_)
  have hE : zok layM ad (xtM ad sa sv) E cJ0_isLatin1_aae02 1 RJ0 0 := hE
  show Z layM ad E 1 (zFin layM ad E zvi) 0 [(0, .ref (sa q))] [] (zret 1)
  refine z_getsv (pc := 0) hE sZ ws_f38 dJ0_isLatin1_aae02_0 ?_
  refine zone (y := 0) (mb := znone) (z_if_eq (pc := 3) hE 17 rfl dJ0_isLatin1_aae02_3 z_none ?_) (by decide)
  refine z_aload_n (pc := 6) hE 0 0 rfl rfl dJ0_isLatin1_aae02_6 ?_
  refine z_getfs (pc := 7) hE (sC hq) ws_f15 dJ0_isLatin1_aae02_7 ?_
  refine zone' (y := 0) (mb := znone) (z_if_ne (pc := 10) hE 17 rfl dJ0_isLatin1_aae02_10 z_none ?_) (by decide)
  refine z_iconst (v := 1) (pc := 13) hE dJ0_isLatin1_aae02_13 (by decide) ?_
  refine z_goto (pc := 14) hE 18 rfl dJ0_isLatin1_aae02_14 ?_
  exact z_nreturn (pc := 18) hE hr (by decide) dJ0_isLatin1_aae02_18
noncomputable def p_J0_length_8abf5 (q : Nat) : zM Int32 := zb (zret (0 : Int32)) (fun x => zret (Int32.ofNat (lenS.getD q 0) >>> (x &&& 31)))
theorem c_J0_length_8abf5 (q : Nat) (hq : q < 8) : zC l yJ0_length_8abf5 cJ0_length_8abf5 1 (some .int) 1 layM ad ca D (xtM ad sa sv) [.ref (sa q)] zvi (p_J0_length_8abf5 q) := by
  refine z_enter (by decide) (Nat.le_of_ble_eq_true rfl) (fun E hE hl0 hcD hr => ?_)
  have hE : zok layM ad (xtM ad sa sv) E cJ0_length_8abf5 1 RJ0 1 := hE
  show Z layM ad E 1 (zFin layM ad E zvi) 0 [(0, .ref (sa q))] [] (p_J0_length_8abf5 q)
  unfold p_J0_length_8abf5
  refine z_aload_n (pc := 0) hE 0 0 rfl rfl dJ0_length_8abf5_0 ?_
  refine z_getfs (pc := 1) hE (sV hq) ws_f9 dJ0_length_8abf5_1 ?_
  refine z_tlenN (pc := 4) hE (sT hq) dJ0_length_8abf5_4 ?_
  refine z_aload_n (pc := 5) hE 0 0 rfl rfl dJ0_length_8abf5_5 ?_
  refine z_callVsi (pc := 6) (st := [.int (Int32.ofNat (lenS.getD q 0))]) [] hE ks_335 (c_J0_coder q hq) (sO hq) rfl rfl (Nat.le_of_ble_eq_true rfl) (by decide) dJ0_length_8abf5_6 (fun x => ?_)
  refine z_ishr (pc := 9) hE dJ0_length_8abf5_9 ?_
  exact z_ireturn (pc := 10) hE hr dJ0_length_8abf5_10
theorem c_J3_null (a1 a2 : Int32) : zC l yJ3_checkIndex_8e157 cJ3_checkIndex_8e157 3 (some .int) 0 layM ad ca D (xtM ad sa sv) [.int a1, .int a2, .null] zvi (zlt a1 0 znone (zlt a1 a2 (zret a1) znone)) := by
  refine z_enter (by decide) (Nat.le_of_ble_eq_true rfl) (fun E hE hl0 hcD hr => ?_)
  have hE : zok layM ad (xtM ad sa sv) E cJ3_checkIndex_8e157 3 RJ3 0 := hE
  show Z layM ad E 3 (zFin layM ad E zvi) 0 [(0, .int a1), (1, .int a2), (2, .null)] [] _
  refine z_iload_n (pc := 0) hE 0 0 rfl rfl dJ3_checkIndex_8e157_0 ?_
  refine z_if_lt (pc := 1) hE 9 rfl dJ3_checkIndex_8e157_1 z_none ?_
  refine z_iload_n (pc := 4) hE 0 0 rfl rfl dJ3_checkIndex_8e157_4 ?_
  refine z_iload_n (pc := 5) hE 1 1 rfl rfl dJ3_checkIndex_8e157_5 ?_
  refine z_icmp_lt (pc := 6) hE 16 rfl dJ3_checkIndex_8e157_6 ?_ z_none
  refine z_iload_n (pc := 16) hE 0 0 rfl rfl dJ3_checkIndex_8e157_16 ?_
  exact z_ireturn (pc := 17) hE hr dJ3_checkIndex_8e157_17
theorem c_J3_ref (a1 a2 : Int32) (t : Nat) : zC l yJ3_checkIndex_8e157 cJ3_checkIndex_8e157 3 (some .int) 0 layM ad ca D (xtM ad sa sv) [.int a1, .int a2, .ref t] zvi (zlt a1 0 znone (zlt a1 a2 (zret a1) znone)) := by
  refine z_enter (by decide) (Nat.le_of_ble_eq_true rfl) (fun E hE hl0 hcD hr => ?_)
  have hE : zok layM ad (xtM ad sa sv) E cJ3_checkIndex_8e157 3 RJ3 0 := hE
  show Z layM ad E 3 (zFin layM ad E zvi) 0 [(0, .int a1), (1, .int a2), (2, .ref t)] [] _
  refine z_iload_n (pc := 0) hE 0 0 rfl rfl dJ3_checkIndex_8e157_0 ?_
  refine z_if_lt (pc := 1) hE 9 rfl dJ3_checkIndex_8e157_1 z_none ?_
  refine z_iload_n (pc := 4) hE 0 0 rfl rfl dJ3_checkIndex_8e157_4 ?_
  refine z_iload_n (pc := 5) hE 1 1 rfl rfl dJ3_checkIndex_8e157_5 ?_
  refine z_icmp_lt (pc := 6) hE 16 rfl dJ3_checkIndex_8e157_6 ?_ z_none
  refine z_iload_n (pc := 16) hE 0 0 rfl rfl dJ3_checkIndex_8e157_16 ?_
  exact z_ireturn (pc := 17) hE hr dJ3_checkIndex_8e157_17
noncomputable def p_J0_check (a1 a2 : Int32) : zM Unit := zb (zlt a1 0 znone (zlt a1 a2 (zret a1) znone)) (fun _ => zret ())
theorem c_J0_check (a1 a2 : Int32) : zC l yJ0_checkIndex_df160 cJ0_checkIndex_df160 2 none 1 layM ad ca D (xtM ad sa sv) [.int a1, .int a2] zvn (p_J0_check a1 a2) := by
  refine z_enter (by decide) (Nat.le_of_ble_eq_true rfl) (fun E hE hl0 hcD hr => ?_)
  have hE : zok layM ad (xtM ad sa sv) E cJ0_checkIndex_df160 2 RJ0 1 := hE
  show Z layM ad E 2 (zFin layM ad E zvn) 0 [(0, .int a1), (1, .int a2)] [] (p_J0_check a1 a2)
  unfold p_J0_check
  refine z_iload_n (pc := 0) hE 0 0 rfl rfl dJ0_checkIndex_df160_0 ?_
  refine z_iload_n (pc := 1) hE 1 1 rfl rfl dJ0_checkIndex_df160_1 ?_
  refine z_getsq (pc := 2) hE sQ ws_f1053 dJ0_checkIndex_df160_2 ?_ (fun t => ?_)
  · refine z_callSi (pc := 5) (st := []) [.int a1, .int a2, .null] hE ks_1059 (c_J3_null a1 a2) rfl rfl (Nat.le_of_ble_eq_true rfl) (by decide) dJ0_checkIndex_df160_5 (fun x => ?_)
    refine z_pop (pc := 8) hE dJ0_checkIndex_df160_8 rfl ?_
    exact z_return (pc := 9) hE hr dJ0_checkIndex_df160_9
  · refine z_callSi (pc := 5) (st := []) [.int a1, .int a2, .ref t] hE ks_1059 (c_J3_ref a1 a2 t) rfl rfl (Nat.le_of_ble_eq_true rfl) (by decide) dJ0_checkIndex_df160_5 (fun x => ?_)
    refine z_pop (pc := 8) hE dJ0_checkIndex_df160_8 rfl ?_
    exact z_return (pc := 9) hE hr dJ0_checkIndex_df160_9
noncomputable def p_J1_charAt (q : Nat) (a1 : Int32) : zM Int32 := zb (p_J0_check a1 (Int32.ofNat (lenS.getD q 0))) (fun _ => zta (bytS.getD q []) a1 (fun x => zret ((x &&& 255).toUInt32 % 65536).toInt32))
theorem c_J1_charAt (q : Nat) (hq : q < 8) (a1 : Int32) : zC l yJ1_charAt_3b067 cJ1_charAt_3b067 2 (some .char) 2 layM ad ca D (xtM ad sa sv) [.ref (sv q), .int a1] zvi (p_J1_charAt q a1) := by
  refine z_enter (by decide) (Nat.le_of_ble_eq_true rfl) (fun E hE hl0 hcD hr => ?_)
  have hE : zok layM ad (xtM ad sa sv) E cJ1_charAt_3b067 2 RJ1 2 := hE
  show Z layM ad E 2 (zFin layM ad E zvi) 0 [(0, .ref (sv q)), (1, .int a1)] [] (p_J1_charAt q a1)
  unfold p_J1_charAt
  refine z_iload_n (pc := 0) hE 1 1 rfl rfl dJ1_charAt_3b067_0 ?_
  refine z_aload_n (pc := 1) hE 0 0 rfl rfl dJ1_charAt_3b067_1 ?_
  refine z_tlenN (pc := 2) hE (sT hq) dJ1_charAt_3b067_2 ?_
  refine z_callSv (pc := 3) (st := []) [.int a1, .int (Int32.ofNat (lenS.getD q 0))] hE ks_9 (c_J0_check a1 _) rfl rfl (Nat.le_of_ble_eq_true rfl) (by decide) dJ1_charAt_3b067_3 (fun x => ?_)
  refine z_aload_n (pc := 6) hE 0 0 rfl rfl dJ1_charAt_3b067_6 ?_
  refine z_iload_n (pc := 7) hE 1 1 rfl rfl dJ1_charAt_3b067_7 ?_
  refine z_tb (pc := 8) hE (bytS.getD q []) (lenS_eq q hq) (sT hq) dJ1_charAt_3b067_8 (fun x => ?_)
  refine z_sipush (v := 255) (pc := 9) hE dJ1_charAt_3b067_9 (by decide) ?_
  refine z_iand (pc := 12) hE dJ1_charAt_3b067_12 ?_
  refine z_i2c (pc := 13) hE dJ1_charAt_3b067_13 ?_
  exact z_nreturn (pc := 14) hE hr (pk_nc _) dJ1_charAt_3b067_14
noncomputable def p_J0_charAt_5068e (q : Nat) (a1 : Int32) : zM Int32 := zb (zret (1 : Int32)) (fun _ => zb (p_J1_charAt q a1) (fun x => zret x))
theorem zchr (q : Nat) (a1 : Int32) {S S' : zS} {r : Int32} (h : p_J1_charAt q a1 S = some (r, S')) : narrow .char (.int r) = .int r := by
  simp only [p_J1_charAt, zb] at h
  cases hc : p_J0_check a1 (Int32.ofNat (lenS.getD q 0)) S with
  | none => rw [hc] at h; cases h
  | some u =>
    rw [hc] at h
    simp only [zta] at h
    split at h
    · cases h
    · simp only [zret, Option.some.injEq, Prod.mk.injEq] at h
      rw [← h.1]
      exact pk_nc _
theorem c_J0_charAt_5068e (q : Nat) (hq : q < 8) (a1 : Int32) : zC l yJ0_charAt_5068e cJ0_charAt_5068e 2 (some .char) 3 layM ad ca D (xtM ad sa sv) [.ref (sa q), .int a1] zvi (p_J0_charAt_5068e q a1) := by
  refine z_enter (by decide) (Nat.le_of_ble_eq_true rfl) (fun E hE hl0 hcD hr => ?_)
  have hE : zok layM ad (xtM ad sa sv) E cJ0_charAt_5068e 2 RJ0 3 := hE
  show Z layM ad E 2 (zFin layM ad E zvi) 0 [(0, .ref (sa q)), (1, .int a1)] [] (p_J0_charAt_5068e q a1)
  unfold p_J0_charAt_5068e
  refine z_aload_n (pc := 0) hE 0 0 rfl rfl dJ0_charAt_5068e_0 ?_
  have key : Z layM ad E 2 (zFin layM ad E zvi) 1 [(0, .ref (sa q)), (1, .int a1)] [.ref (sa q)] (zb (zret (1 : Int32)) (fun x0 => zeq x0 0 znone (zb (p_J1_charAt q a1) (fun x => zlt 0 1 (fun S => if narrow .char (.int x) = .int x then some (x, S) else none) znone)))) := by
    refine z_callVsi (pc := 1) (st := []) [] hE ks_492 (c_J0_isLatin1 q hq) (sO hq) rfl rfl (Nat.le_of_ble_eq_true rfl) (by decide) dJ0_charAt_5068e_1 (fun x0 => ?_)
    refine z_if_eq (pc := 4) hE 16 rfl dJ0_charAt_5068e_4 z_none ?_
    refine z_aload_n (pc := 7) hE 0 0 rfl rfl dJ0_charAt_5068e_7 ?_
    refine z_getfs (pc := 8) hE (sV hq) ws_f9 dJ0_charAt_5068e_8 ?_
    refine z_iload_n (pc := 11) hE 1 1 rfl rfl dJ0_charAt_5068e_11 ?_
    refine z_callSi (pc := 12) (st := []) [.ref (sv q), .int a1] hE ks_495 (c_J1_charAt q hq a1) rfl rfl (Nat.le_of_ble_eq_true rfl) (by decide) dJ0_charAt_5068e_12 (fun x => ?_)
    intro S H locs ls hl hP hS r S' h
    by_cases hx : narrow .char (.int x) = .int x
    · exact z_nreturn (pc := 15) hE hr hx dJ0_charAt_5068e_15 S H locs ls hl hP hS r S' (by simpa [zlt, hx, zret] using h)
    · simp [zlt, hx] at h
  intro S H locs ls hl hP hS r S' h
  refine key S H locs ls hl hP hS r S' ?_
  cases hc : p_J1_charAt q a1 S with
  | none => simp [zb, zret, hc] at h
  | some u =>
    obtain ⟨u1, u2⟩ := u
    have hz := zchr q a1 hc
    have h' : some (u1, u2) = some (r, S') := by simpa [zb, zret, hc] using h
    rw [← h']
    simp only [zb, zret, zeq, hc]
    rw [if_neg (by decide)]
    simp only [zlt]
    rw [if_pos (by decide), if_pos hz]
end ZSTRM

