section ZCALL
variable {ρ ρ' : Type} {lay : List zY} {ad : Nat → Nat} {Xt : State → Prop} {E : zE} {cc : ByteArray} {nL d : Nat} {own : String} {Fn : ρ → zS → State → Prop} {pc : Nat} {L L' : List (Nat × Value)} {st st0 : List Value} {mm ma mb : zM ρ}
theorem zgood {w : Cond} (h : w ∈ zTB) : (w.onTables && w.keeps) = true ∨ ∃ ty, w = .arrayClass ty := good_of_word (List.mem_filter.mp h).2
theorem zgoodIn {ws : List Cond} (h : ∀ w ∈ ws, w ∈ zTB) : GoodIn zTB ws := fun w hw => ⟨h w hw, zgood (h w hw)⟩
theorem z_run {val : ρ' → Option Value} {f : zM ρ'} {k : ρ' → zM ρ}
    (run : ∀ (S : zS) (H : Heap) (locs : List Loc) (ls : Array Slot) (r : ρ') (S' : zS), lv_has ls nL L → va_P E.2.2.2 vwCl (zW lay ad E.2.2.1 S) H → va_S (zA lay.length ad) E.1.2.2.2.2.heap H locs → f S = some (r, S') →
      ∃ a, va_Run E.1.1 E.1.2.1 E.1.2.2.1 E.1.2.2.2.1 E.1.2.2.2.2 E.2.1.1 E.2.1.2.1 E.2.1.2.2.1 E.2.1.2.2.2.1 E.2.1.2.2.2.2 H locs 0 0 0 0 (F0 E.2.1.1 pc ls st0) st (zPost lay ad E.2.2.1 E.2.2.2 (val r) S' a) (zA lay.length ad))
    (kk : ∀ r, Z lay ad E nL Fn (pc + 3) L ((val r).toList ++ st) (k r)) : Z lay ad E nL Fn pc L st0 (zb f k) := by
  intro S H locs ls hl hP hS r S' h
  unfold zb at h
  cases hf : f S with
  | none => rw [hf] at h; cases h
  | some q =>
    obtain ⟨r1, S1⟩ := q
    rw [hf] at h
    obtain ⟨a, hr⟩ := run S H locs ls r1 S1 hl hP hS hf
    intro T hT X
    obtain ⟨v, st₀, t, T', Lc, h0, X', hL, e1, e2, ⟨hv, hP1, hz, hk⟩, go⟩ := hr T hT X
    cases hv
    rw [h0] at hz hk
    have K := kk r1 S1 T'.heap (locs ++ Lc) ls hl (by rw [e1]; exact hP1) ⟨Nat.le_trans hS.1 (by rw [e1]; exact hz), fun q h1 h2 => by rw [e1, hk q (Nat.lt_of_lt_of_le h1 hS.1) h2]; exact hS.2.1 q h1 h2, fun q hq => by
      rcases List.mem_append.mp hq with h | h
      · exact hS.2.2 q h
      · exact hL q h⟩ r S' h
    obtain ⟨t2, a1, b1⟩ := K T' rfl X'
    exact ⟨t2, go t2 a1, b1⟩
theorem zpre_at (hE : zok lay ad Xt E cc nL own d) {S : zS} {H : Heap} {locs : List Loc} (hP : va_P E.2.2.2 vwCl (zW lay ad E.2.2.1 S) H) (hS : va_S (zA lay.length ad) E.1.2.2.2.2.heap H locs) (U : State) (hU : U.heap = H) (hW : E.1.2.2.2.2.WarmedH U.vm) : zPre lay ad E.2.2.1 E.2.2.2 Xt S U := by
  obtain ⟨-, -, hK, hD, hX, hs, -⟩ := hE
  exact ⟨by rw [hU]; exact hP, va_K.moved hW.alike hK, hD S, hs _ U hW (by rw [hU]; exact hS.1) (fun q h1 h2 => by rw [hU]; exact hS.2.1 q h1 h2) hX, hs⟩
def zKV (own : String) (idx : Nat) (C : String) (y : MethodName) (bytes : ByteArray) (maxL : Nat) (ret : Option FieldType) (n : Nat) : Prop :=
  Cond.methodLink own idx y ∈ zTB ∧ Cond.instanceMethod y ∈ zTB ∧ Cond.selects C y y ∈ zTB ∧ Cond.initialized C ∈ zTB ∧ Cond.code y bytes maxL ret ∈ zTB ∧ (y.cls = C ∧ y.cls ≠ "java/lang/invoke/MethodHandle" ∧ y.cls ≠ "java/lang/invoke/VarHandle" ∧ (parseMethodDescriptor y.desc).map (fun d => d.parameters.length) = some n) ∧ maxL ≤ 21
def zKS (own : String) (idx : Nat) (y : MethodName) (bytes : ByteArray) (maxL : Nat) (ret : Option FieldType) (n : Nat) : Prop :=
  Cond.methodLink own idx y ∈ zTB ∧ Cond.static y ∈ zTB ∧ Cond.initialized y.cls ∈ zTB ∧ Cond.code y bytes maxL ret ∈ zTB ∧ (y.cls ≠ "java/lang/invoke/MethodHandle" ∧ y.cls ≠ "java/lang/invoke/VarHandle" ∧ (parseMethodDescriptor y.desc).map (fun d => d.parameters.length) = some n) ∧ maxL ≤ 21
def zKN (own : String) (idx : Nat) (y : MethodName) (host : String) (bytes : ByteArray) (maxL : Nat) (ret : Option FieldType) (n : Nat) (Xt : State → Prop) : Prop :=
  (∀ U, Xt U → va_Nw (.methodLinkNest own idx y host) U) ∧ Cond.static y ∈ zTB ∧ Cond.initialized y.cls ∈ zTB ∧ Cond.code y bytes maxL ret ∈ zTB ∧ (y.cls ≠ "java/lang/invoke/MethodHandle" ∧ y.cls ≠ "java/lang/invoke/VarHandle" ∧ (parseMethodDescriptor y.desc).map (fun d => d.parameters.length) = some n) ∧ maxL ≤ 21
theorem zroom {R : Room} {d dc maxL : Nat} (h : d ≤ R.frames ∧ 40 * d ≤ R.locals) (hd : dc + 1 ≤ d) (hm : maxL ≤ 21) : (zrm dc).frames + 1 ≤ R.frames ∧ 8 + (maxL + 11) + (zrm dc).locals ≤ R.locals :=
  ⟨Nat.le_trans hd h.1, by show 8 + (maxL + 11) + 40 * dc ≤ R.locals; have := h.2; omega⟩
theorem z_callV {val : ρ' → Option Value} {f : zM ρ'} {k : ρ' → zM ρ} {idx : Nat} {C : String} {y : MethodName} {bytes : ByteArray} {maxL n dc i ci N : Nat} {ret : Option FieldType} {T : u_T} {sl : List (Nat ⊕ Bool)} (As : List Value) (hE : zok lay ad Xt E cc nL own d) (hK : zKV own idx C y bytes maxL ret n)
    (hC : zC E.1.2.1 y bytes maxL ret dc lay ad E.2.2.1 E.2.2.2 Xt (.ref (ad i) :: As) val f) (hi : lay[i]? = some (.inl (ci, sl))) (hc : vwCl[ci]? = some (C, T, N)) (hn : As.length = n) (hst : st0 = As.reverse ++ .ref (ad i) :: st) (hsum : (st.map fun v => v.category).sum ≤ 8) (hR : dc + 1 ≤ d)
    (hd : decode cc pc = .ok (.invokevirtual idx, 3)) (kk : ∀ r, Z lay ad E nL Fn (pc + 3) L ((val r).toList ++ st) (k r)) : Z lay ad E nL Fn pc L st0 (zb f k) := by
  refine z_run (val := val) (fun S H locs ls r S' hl hP hS hf => ⟨(Value.ref (ad i) :: As).toArray, ?_⟩) kk
  obtain ⟨w1, w2, w3, w4, w5, w6, w7⟩ := hK
  have hG : GoodIn zTB (wsV own idx C y (zws y bytes maxL ret)) := zgoodIn (fun w hw => by
    simp only [wsV, zws, List.cons_append, List.nil_append, List.mem_cons] at hw
    rcases hw with rfl | rfl | rfl | rfl | rfl | hw
    · exact w1
    · exact w2
    · exact w3
    · exact w4
    · exact w5
    · exact hw)
  exact va_runV (As := As) (rest := st) hE.1 (hC S r S' hf) (cwV n hE.1.2.2.2.2 hG rfl rfl rfl w6 (zroom hE.2.2.2.2.2.2 hR w7)) ⟨zPre_blind _ _ _ _ _ _ _, va_recv hE.2.2.1 hP hc (zW_at hi), fun U hU hW => ⟨rfl, zpre_at hE hP hS U hU hW⟩⟩ rfl hn hl.1 hst (lv_room hsum) hd ⟨Nat.zero_le _, Nat.zero_le _⟩
theorem z_callS {val : ρ' → Option Value} {f : zM ρ'} {k : ρ' → zM ρ} {idx : Nat} {y : MethodName} {bytes : ByteArray} {maxL n dc : Nat} {ret : Option FieldType} (As : List Value) (hE : zok lay ad Xt E cc nL own d) (hK : zKS own idx y bytes maxL ret n)
    (hC : zC E.1.2.1 y bytes maxL ret dc lay ad E.2.2.1 E.2.2.2 Xt As val f) (hn : As.length = n) (hst : st0 = As.reverse ++ st) (hsum : (st.map fun v => v.category).sum ≤ 8) (hR : dc + 1 ≤ d)
    (hd : decode cc pc = .ok (.invokestatic idx, 3)) (kk : ∀ r, Z lay ad E nL Fn (pc + 3) L ((val r).toList ++ st) (k r)) : Z lay ad E nL Fn pc L st0 (zb f k) := by
  refine z_run (val := val) (fun S H locs ls r S' hl hP hS hf => ⟨As.toArray, ?_⟩) kk
  obtain ⟨w1, w2, w4, w5, w6, w7⟩ := hK
  have hG : GoodIn zTB (va_wsS own idx y (zws y bytes maxL ret)) := zgoodIn (fun w hw => by
    simp only [va_wsS, zws, List.cons_append, List.nil_append, List.mem_cons] at hw
    rcases hw with rfl | rfl | rfl | rfl | hw
    · exact w1
    · exact w2
    · exact w4
    · exact w5
    · exact hw)
  exact va_runS (As := As) (rest := st) hE.1 (hC S r S' hf) (va_cwS n hE.1.2.2.2.2 hG rfl rfl rfl w6 (zroom hE.2.2.2.2.2.2 hR w7)) ⟨zPre_blind _ _ _ _ _ _ _, fun U hU hW => ⟨rfl, zpre_at hE hP hS U hU hW⟩⟩ rfl hn hl.1 hst (lv_room hsum) hd ⟨Nat.zero_le _, Nat.zero_le _⟩
theorem z_callN {val : ρ' → Option Value} {f : zM ρ'} {k : ρ' → zM ρ} {idx : Nat} {y : MethodName} {host : String} {bytes : ByteArray} {maxL n dc : Nat} {ret : Option FieldType} (As : List Value) (hE : zok lay ad Xt E cc nL own d) (hK : zKN own idx y host bytes maxL ret n Xt)
    (hC : zC E.1.2.1 y bytes maxL ret dc lay ad E.2.2.1 E.2.2.2 Xt As val f) (hn : As.length = n) (hst : st0 = As.reverse ++ st) (hsum : (st.map fun v => v.category).sum ≤ 8) (hR : dc + 1 ≤ d)
    (hd : decode cc pc = .ok (.invokestatic idx, 3)) (kk : ∀ r, Z lay ad E nL Fn (pc + 3) L ((val r).toList ++ st) (k r)) : Z lay ad E nL Fn pc L st0 (zb f k) := by
  refine z_run (val := val) (fun S H locs ls r S' hl hP hS hf => ⟨As.toArray, ?_⟩) kk
  obtain ⟨w1, w2, w4, w5, w6, w7⟩ := hK
  have hG : GoodIn zTB (zws y bytes maxL ret) := zgoodIn (fun w hw => by
    simp only [zws, List.mem_cons] at hw
    rcases hw with rfl | hw
    · exact w5
    · exact hw)
  exact va_runSN (As := As) (rest := st) hE.1 (hC S r S' hf) ⟨va_cnB n hE.1.2.2.2.2 hG rfl rfl rfl (w1 _ hE.2.2.2.2.1) (hE.1.2.2.2.2 _ w4) w6 (zroom hE.2.2.2.2.2.2 hR w7), hE.1.2.2.2.2 _ w2, trivial⟩ ⟨zPre_blind _ _ _ _ _ _ _, fun U hU hW => ⟨rfl, zpre_at hE hP hS U hU hW⟩⟩ rfl hn hl.1 hst (lv_room hsum) hd ⟨Nat.zero_le _, Nat.zero_le _⟩
/-! Math -/
def zmx (x y : Int32) : Int32 := if x < y then y else x
def zmn (x y : Int32) : Int32 := if y < x then y else x
def zab (x : Int32) : Int32 := if 0 ≤ x then x else 0 - x
theorem z_max (hE : zok lay ad Xt E cc nL own d) {idx n : Nat} {x y : Int32} (hK : zKS own idx Lib.Math.max.name Lib.Math.max.code 2 (some .int) n) (hsum : (st.map fun v => v.category).sum ≤ 8) (hR : 1 ≤ d) (hd : decode cc pc = .ok (.invokestatic idx, 3)) (k : Z lay ad E nL Fn (pc + 3) L (.int (zmx x y) :: st) mm) : Z lay ad E nL Fn pc L (.int y :: .int x :: st) mm := fun S H locs ls hl hP hS r S' h => by
  obtain ⟨w1, w2, w4, w5, -⟩ := hK
  have hRm := hE.2.2.2.2.2.2
  exact va_mmax hE.1.1 hE.1.2.1 (by rw [hE.1.2.2.1, hl.1]) hE.1.2.2.2.1 (hE.1.2.2.2.2 _ w1) (hE.1.2.2.2.2 _ w2) (hE.1.2.2.2.2 _ w4) (hE.1.2.2.2.2 _ w5) (Nat.le_trans hR hRm.1) (by have := hRm.2; omega) (Nat.zero_le _) (Nat.zero_le _) hd (k S H locs ls hl hP hS r S' h)
theorem z_min (hE : zok lay ad Xt E cc nL own d) {idx n : Nat} {x y : Int32} (hK : zKS own idx Lib.Math.min.name Lib.Math.min.code 2 (some .int) n) (hsum : (st.map fun v => v.category).sum ≤ 8) (hR : 1 ≤ d) (hd : decode cc pc = .ok (.invokestatic idx, 3)) (k : Z lay ad E nL Fn (pc + 3) L (.int (zmn x y) :: st) mm) : Z lay ad E nL Fn pc L (.int y :: .int x :: st) mm := fun S H locs ls hl hP hS r S' h => by
  obtain ⟨w1, w2, w4, w5, -⟩ := hK
  have hRm := hE.2.2.2.2.2.2
  exact va_mmin hE.1.1 hE.1.2.1 (by rw [hE.1.2.2.1, hl.1]) hE.1.2.2.2.1 (hE.1.2.2.2.2 _ w1) (hE.1.2.2.2.2 _ w2) (hE.1.2.2.2.2 _ w4) (hE.1.2.2.2.2 _ w5) (Nat.le_trans hR hRm.1) (by have := hRm.2; omega) (Nat.zero_le _) (Nat.zero_le _) hd (k S H locs ls hl hP hS r S' h)
theorem z_abs (hE : zok lay ad Xt E cc nL own d) {idx n : Nat} {x : Int32} (hK : zKS own idx Lib.Math.abs.name Lib.Math.abs.code 1 (some .int) n) (hsum : (st.map fun v => v.category).sum ≤ 8) (hR : 1 ≤ d) (hd : decode cc pc = .ok (.invokestatic idx, 3)) (k : Z lay ad E nL Fn (pc + 3) L (.int (zab x) :: st) mm) : Z lay ad E nL Fn pc L (.int x :: st) mm := fun S H locs ls hl hP hS r S' h => by
  obtain ⟨w1, w2, w4, w5, -⟩ := hK
  have hRm := hE.2.2.2.2.2.2
  exact va_mabs hE.1.1 hE.1.2.1 (by rw [hE.1.2.2.1, hl.1]) hE.1.2.2.2.1 (hE.1.2.2.2.2 _ w1) (hE.1.2.2.2.2 _ w2) (hE.1.2.2.2.2 _ w4) (hE.1.2.2.2.2 _ w5) (Nat.le_trans hR hRm.1) (by have := hRm.2; omega) (Nat.zero_le _) (Nat.zero_le _) hd (k S H locs ls hl hP hS r S' h)
/-- System.arraycopy of ints, between two cells that are apart -/
theorem z_copy (hE : zok lay ad Xt E cc nL own d) {idx i j n m : Nat} {sp dp len : Int32} (w1 : Cond.methodLink own idx arraycopyName ∈ zTB) (w2 : Cond.native arraycopyName ∈ zTB) (w3 : Cond.static arraycopyName ∈ zTB) (w4 : Cond.initialized "java/lang/System" ∈ zTB) (hi : lay[i]? = some (.inr (.int, n))) (hj : lay[j]? = some (.inr (.int, m))) (hsum : (st.map fun v => v.category).sum ≤ 8) (hR : 1 ≤ d) (hd : decode cc pc = .ok (.invokestatic idx, 3)) (k : Z lay ad E nL Fn (pc + 3) L st mm) : Z lay ad E nL Fn pc L (.int len :: .int dp :: .ref (ad j) :: .int sp :: .ref (ad i) :: st) (zcpy i n j m sp dp len mm) := fun S H locs ls hl hP hS r S' h => by
  have hRm := hE.2.2.2.2.2.2
  by_cases hx : sp < 0 ∨ dp < 0 ∨ len < 0 ∨ n < sp.toNatClampNeg + len.toNatClampNeg ∨ m < dp.toNatClampNeg + len.toNatClampNeg
  · simp [zcpy, hx] at h
  · have h' : mm (zpr S j (va_cpy (S.1 i) (S.1 j) sp.toNatClampNeg dp.toNatClampNeg len.toNatClampNeg)) = some (r, S') := by simpa [zcpy, hx] using h
    simp only [not_or] at hx
    obtain ⟨x1, x2, x3, x4, x5⟩ := hx
    have f1 : 1 ≤ E.1.2.2.2.1.frames := Nat.le_trans hR hRm.1
    have f0 : nativeFrameWords "java/lang/System" "arraycopy" 5 ≤ 20 := by decide +kernel
    have f2 : (st.map fun v => v.category).sum + (nativeFrameWords "java/lang/System" "arraycopy" 5 + 11) ≤ E.1.2.2.2.1.locals := by
      have := hRm.2
      omega
    refine va_copyi (f := S.1 i) (g := S.1 j) (ty := .int) hE.1.1 hE.1.2.1 (by rw [hE.1.2.2.1, hl.1]) hE.1.2.2.2.1 (hE.1.2.2.2.2 _ w1) (hE.1.2.2.2.2 _ w2) (hE.1.2.2.2.2 _ w3) (hE.1.2.2.2.2 _ w4) hE.2.2.1 hP (hE.2.2.2.1 S) hS i j 0 0 (zW_at hi) (zW_at hj) rfl rfl rfl x1 x2 x3 (Nat.not_lt.mp x4) (Nat.not_lt.mp x5) (fun _ _ => rfl) f1 f2 hd (fun H1 locs1 hP1 _ hS1 => ?_)
    have e1 := zW_set (ad := ad) (ca := E.2.2.1) (S := S) (S' := zpr S j (va_cpy (S.1 i) (S.1 j) sp.toNatClampNeg dp.toNatClampNeg len.toNatClampNeg)) hj zpr_off.1 zpr_off.2
    have e2 : (zpr S j (va_cpy (S.1 i) (S.1 j) sp.toNatClampNeg dp.toNatClampNeg len.toNatClampNeg)).1 j = va_cpy (S.1 i) (S.1 j) sp.toNatClampNeg dp.toNatClampNeg len.toNatClampNeg := by simp [zpr]
    simp only [zct, e2] at e1
    rw [e1] at hP1
    exact k _ H1 locs1 ls hl hP1 hS1 r S' h'
/-! static tables -/
theorem z_gets (hE : zok lay ad Xt E cc nL own d) {C n dd : String} {idx t : Nat} (hZ : ∀ U, Xt U → va_Z C n dd (.ref t) (zA lay.length ad) U U.heap) (w : Cond.fieldLink own idx C n dd ∈ zTB) (hd : decode cc pc = .ok (.getstatic idx, 3)) (k : Z lay ad E nL Fn (pc + 3) L (.ref t :: st) mm) : Z lay ad E nL Fn pc L st mm := fun S H locs ls hl hP hS r S' h =>
  va_gets hE.1.1 hE.1.2.1 (hZ _ hE.2.2.2.2.1) hS hE.1.2.2.2.1 (hE.1.2.2.2.2 _ w) (fun _ h => h) hd (k S H locs ls hl hP hS r S' h)
theorem z_ti (hE : zok lay ad Xt E cc nL own d) {t : Nat} (tb : List Int32) {x : Int32} {mk : Int32 → zM ρ} (hT : ∀ U, Xt U → va_T .int t tb.length (fun j => .int (tb.getD j 0)) (zA lay.length ad) U U.heap) (hd : decode cc pc = .ok (.iaload, 1)) (k : ∀ v, Z lay ad E nL Fn (pc + 1) L (.int v :: st) (mk v)) : Z lay ad E nL Fn pc L (.int x :: .ref t :: st) (zta tb x mk) := fun S H locs ls hl hP hS r S' h => by
  by_cases hx : x < 0 ∨ tb.length ≤ x.toNatClampNeg
  · simp [zta, hx] at h
  · exact va_ti hE.1.1 hE.1.2.1 (hT _ hE.2.2.2.2.1) hS (zvin hx) rfl hd (k _ S H locs ls hl hP hS r S' (by simpa [zta, hx] using h))
theorem z_tc (hE : zok lay ad Xt E cc nL own d) {t : Nat} (tb : List Int32) {x : Int32} {mk : Int32 → zM ρ} (hT : ∀ U, Xt U → va_T .char t tb.length (fun j => .int (tb.getD j 0)) (zA lay.length ad) U U.heap) (hd : decode cc pc = .ok (.caload, 1)) (k : ∀ v, Z lay ad E nL Fn (pc + 1) L (.int v :: st) (mk v)) : Z lay ad E nL Fn pc L (.int x :: .ref t :: st) (zta tb x mk) := fun S H locs ls hl hP hS r S' h => by
  by_cases hx : x < 0 ∨ tb.length ≤ x.toNatClampNeg
  · simp [zta, hx] at h
  · exact va_tc hE.1.1 hE.1.2.1 (hT _ hE.2.2.2.2.1) hS (zvin hx) rfl hd (k _ S H locs ls hl hP hS r S' (by simpa [zta, hx] using h))
theorem z_tlen (hE : zok lay ad Xt E cc nL own d) {t : Nat} {ty : FieldType} (tb : List Int32) {v : Int32} (hv : Int32.ofNat tb.length = v) (hT : ∀ U, Xt U → va_T ty t tb.length (fun j => .int (tb.getD j 0)) (zA lay.length ad) U U.heap) (hd : decode cc pc = .ok (.arraylength, 1)) (k : Z lay ad E nL Fn (pc + 1) L (.int v :: st) mm) : Z lay ad E nL Fn pc L (.ref t :: st) mm := fun S H locs ls hl hP hS r S' h => va_tlen hE.1.1 hE.1.2.1 (hT _ hE.2.2.2.2.1) hS hv hd (k S H locs ls hl hP hS r S' h)
end ZCALL
