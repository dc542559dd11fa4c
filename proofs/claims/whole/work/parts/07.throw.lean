abbrev zNSE : String := "java/util/NoSuchElementException"
abbrev zNM : List String := ["java/lang/RuntimeException", "java/lang/Exception"]
def zrx (d : Nat) : Room := { frames := d, cells := 1, slots := 6, locals := 40 * d }
def zPostX {ρ : Type} (lay : List zY) (ad : Nat → Nat) (ca : FieldType → ClassId) (D : va_G) (val : ρ → Option Value) (r : Option ρ) (S : zS) : Array Value → State → Outcome → State → Prop := fun _ st oc t => (∃ v, r = some v ∧ oc = .returned (val v)) ∧ va_P D vwCl (zW lay ad ca S) t.heap ∧ va_F (zA lay.length ad) st t
def zXC {ρ : Type} (lay : List zY) (ad : Nat → Nat) (ca : FieldType → ClassId) (D : va_G) (r : Option ρ) (S : zS) : String → State → State → Prop := fun E st t => r = none ∧ E = zNSE ∧ va_P D vwCl (zW lay ad ca S) t.heap ∧ va_F (zA lay.length ad) st t
/-- the contract of a method that may throw NoSuchElementException: none is that -/
def zCX {ρ : Type} (l : Launch) (y : MethodName) (bytes : ByteArray) (maxL : Nat) (ret : Option FieldType) (d : Nat) (lay : List zY) (ad : Nat → Nat) (ca : FieldType → ClassId) (D : va_G) (Xt : State → Prop) (As : List Value) (val : ρ → Option Value) (f : zM (Option ρ)) : Prop :=
  ∀ (S : zS) (r : Option ρ) (S' : zS), f S = some (r, S') → vx_Met l y (zws y bytes maxL ret) (zrx d) (va_Pc As (zPre lay ad ca D Xt S)) (zPostX lay ad ca D val r S') (zXC lay ad ca D r S') 1 6 (zA lay.length ad)
def zFinX {ρ : Type} (lay : List zY) (ad : Nat → Nat) (E : zE) (val : ρ → Option Value) : Option ρ → zS → State → Prop := fun r S' => vx_MQ E.2.1.2.2.1 (zPostX lay ad E.2.2.1 E.2.2.2 val r S') (zXC lay ad E.2.2.1 E.2.2.2 r S') E.2.1.2.1 E.1.2.2.2.2 1 6 (zA lay.length ad)
theorem z_enterX {ρ : Type} {l : Launch} {y : MethodName} {bytes : ByteArray} {maxL : Nat} {ret : Option FieldType} {d : Nat} {lay : List zY} {ad : Nat → Nat} {ca : FieldType → ClassId} {D : va_G} {Xt : State → Prop} {As : List Value} {val : ρ → Option Value} {f : zM (Option ρ)} (hlt : l.stackTraces = false) (hy : plainName y.cls = true) (hn : (lg_sl As).length ≤ maxL)
    (body : ∀ E : zE, zok lay ad Xt E bytes maxL y.cls d → E.1.2.1.stackTraces = false → (∀ x ∈ E.2.1.2.2.2.2.exceptionTable.toList, False) → 1 ≤ E.1.2.2.2.1.cells ∧ 6 ≤ E.1.2.2.2.1.slots → E.2.1.2.2.2.1.sig.returnType = ret → Z lay ad E maxL (zFinX lay ad E val) 0 (lv_args 0 As) [] f) : zCX l y bytes maxL ret d lay ad ca D Xt As val f := by
  intro S r S' hf
  refine vx_ofW (cc := bytes) (maxL := maxL) (ret := ret) hy rfl ?_
  intro p e s m args below meth c s₁ B hml hT hv
  obtain ⟨rfl, hP, hK, hD, hX, hs⟩ := hv
  have hts := atoms_spec (ws := zws y bytes maxL ret) B.pre
  have hown : s.vm.findClass y.cls = some m.cls := findClass_of_methodNamed B.named
  have hl := lv_entry As (n := maxL) hn
  rw [lg_entry_eq]
  exact body ((p, l, e, zrx d, s), (m, As.toArray, below, meth, c), (ca, D)) ⟨⟨B.exec, B.bytes, hml, hown, fun w hw => hts w (List.mem_cons_of_mem _ hw)⟩, B.notSynchronized, hK, fun S2 => zD_any hD S2, hX, hs, Nat.le_refl _, Nat.le_refl _⟩ hlt hT ⟨Nat.le_refl _, Nat.le_refl _⟩ B.returns S s.heap [] _ hl hP va_S.rf r S' hf
section ZTHR
variable {ρ : Type} {lay : List zY} {ad : Nat → Nat} {Xt : State → Prop} {E : zE} {cc : ByteArray} {nL d : Nat} {own : String} {pc : Nat} {L : List (Nat × Value)} {st : List Value}
theorem z_ireturnX {v : Int32} (hE : zok lay ad Xt E cc nL own d) (hr : E.2.1.2.2.2.1.sig.returnType = some .int) (hd : decode cc pc = .ok (.ireturn, 1)) : Z lay ad E nL (zFinX lay ad E zvi) pc L [.int v] (zret (some v)) := fun S H locs ls hl hP hS r S' h => by
  simp only [zret, Option.some.injEq, Prod.mk.injEq] at h
  obtain ⟨rfl, rfl⟩ := h
  exact vx_ret (W.widen (k := 1) (n := 6) (Nat.zero_le _) (Nat.zero_le _) (W.iret hE.1.1 hE.1.2.1 hr (fun t ht hW => ⟨⟨v, rfl, rfl⟩, by rw [ht]; exact hP, hS.F ht⟩) hS.2.2 hd hE.2.1))
theorem z_lreturnX {v : Int64} (hE : zok lay ad Xt E cc nL own d) (hr : E.2.1.2.2.2.1.sig.returnType = some .long) (hd : decode cc pc = .ok (.lreturn, 1)) : Z lay ad E nL (zFinX lay ad E zvl) pc L [.long v] (zret (some v)) := fun S H locs ls hl hP hS r S' h => by
  simp only [zret, Option.some.injEq, Prod.mk.injEq] at h
  obtain ⟨rfl, rfl⟩ := h
  exact vx_ret (W.widen (k := 1) (n := 6) (Nat.zero_le _) (Nat.zero_le _) (W.lret hE.1.1 hE.1.2.1 hr (fun t ht hW => ⟨⟨v, rfl, rfl⟩, by rw [ht]; exact hP, hS.F ht⟩) hS.2.2 hd hE.2.1))
/-- what a throw needs of the state, beside the good words -/
def xthr (A : Nat → Prop) (U : State) : Prop := vx_Zq Bundle.tN "UNASSIGNED_STACK" Bundle.steD A U U.heap ∧ vx_Zq Bundle.tN "SUPPRESSED_SENTINEL" Bundle.listD A U U.heap ∧ va_Nw (.castable zNSE zNSE) U ∧ va_Nw (.declares ⟨"java/lang/RuntimeException", "<init>", "()V"⟩) U ∧ va_Nw (.declares ⟨"java/lang/Exception", "<init>", "()V"⟩) U ∧ va_Nw (.declares ⟨"java/lang/Throwable", "<init>", "()V"⟩) U
theorem xthr_narrow {A B : Nat → Prop} {U : State} (hAB : ∀ q, B q → A q) (h : xthr A U) : xthr B U := ⟨h.1.narrow hAB, h.2.1.narrow hAB, h.2.2⟩
theorem xthr_stab {A : Nat → Prop} : zStab A (xthr A) := fun s U hW hz hq h => ⟨(h.1.kept hq).moved hW.alike, (h.2.1.kept hq).moved hW.alike, h.2.2.1.warmC hW, h.2.2.2.1.warmD hW, h.2.2.2.2.1.warmD hW, h.2.2.2.2.2.warmD hW⟩
theorem xthr_words : ∀ w ∈ (vx_at0 RX11 142 zNSE zNM).filter goodWord, w ∈ lw_tbl := by decide +kernel
theorem xthr_rest : ∀ w ∈ (vx_at0 RX11 142 zNSE zNM).filter (fun w => !goodWord w), w ∈ [Cond.castable zNSE zNSE, .declares ⟨"java/lang/RuntimeException", "<init>", "()V"⟩, .declares ⟨"java/lang/Exception", "<init>", "()V"⟩, .declares ⟨"java/lang/Throwable", "<init>", "()V"⟩] := by decide +kernel
theorem xthr_ot : ∀ w ∈ Cond.classLink RX11 140 zNSE :: Cond.initialized zNSE :: vx_at0 RX11 142 zNSE zNM, vx_ot w = true := by decide +kernel
theorem wt_140 : Cond.classLink RX11 140 zNSE ∈ lw_tbl := List.mem_append_right _ (show _ ∈ tables_1 from List.mem_append_right _ (List.mem_append_right _ (List.mem_append_right _ (List.mem_append_right _ (List.mem_append_left _ (List.mem_of_getElem? (i := 196) (by decide +kernel)))))))
theorem wt_ini : Cond.initialized zNSE ∈ lw_tbl := by decide +kernel
theorem z_throw (hE : zok lay ad Xt E cc nL RX11 d) (hXt : ∀ U, Xt U → xthr (zA lay.length ad) U) (hlt : E.1.2.1.stackTraces = false) (hT : ∀ x ∈ E.2.1.2.2.2.2.exceptionTable.toList, False) (hrm : 1 ≤ E.1.2.2.2.1.cells ∧ 6 ≤ E.1.2.2.2.1.slots) {val : ρ → Option Value} (hsum : (st.map fun v => v.category).sum ≤ 8) (h6 : 6 ≤ d)
    (d0 : decode cc pc = .ok (.new 140, 3)) (d3 : decode cc (pc + 3) = .ok (.dup, 1)) (d4 : decode cc (pc + 4) = .ok (.invokespecial 142, 3)) (d7 : decode cc (pc + 7) = .ok (.athrow, 1)) : Z lay ad E nL (zFinX lay ad E val) pc L st (zret none) := fun S H locs ls hl hP hS r S' h => by
  simp only [zret, Option.some.injEq, Prod.mk.injEq] at h
  obtain ⟨rfl, rfl⟩ := h
  have hq := hXt _ hE.2.2.2.2.1
  have hgood : ∀ w, w ∈ lw_tbl → goodWord w = true → w.before E.2.1.2.1 E.1.2.2.2.2 = true := fun w h1 h2 => hE.1.2.2.2.2 w (List.mem_filter.mpr ⟨h1, h2⟩)
  have hat := vx_hat (L := vx_at0 RX11 142 zNSE zNM) (args := E.2.1.2.1) (s := E.1.2.2.2.2) (fun w hw => hgood w (xthr_words w hw) (List.mem_filter.mp hw).2) xthr_rest (vx_c (hq.2.2.1.use rfl) (vx_c (hq.2.2.2.1.use rfl) (vx_c (hq.2.2.2.2.1.use rfl) (vx_c (hq.2.2.2.2.2.use rfl) vx_n))))
  have hr2 := hE.2.2.2.2.2.2
  have hfr : (["java/lang/RuntimeException", "java/lang/Exception"] : List String).length + 3 < E.1.2.2.2.1.frames := by
    have := hr2.1
    show 5 < _
    omega
  have hlo : (st.map fun v => v.category).sum + (13 * ((["java/lang/RuntimeException", "java/lang/Exception"] : List String).length + 1) + 42) ≤ E.1.2.2.2.1.locals := by
    have := hr2.2
    show _ + 81 ≤ _
    omega
  exact vx_throw0 (own := RX11) (cls := zNSE) (names := zNM) (ik := 140) (ic := 142) (A := zA lay.length ad) hE.1.1 hE.1.2.1 hlt hE.1.2.2.2.1 (by decide +kernel) (by decide +kernel) (hgood _ wt_140 rfl) (hgood _ wt_ini rfl) hat xthr_ot hq.1 hq.2.1 hS (by rw [hl.1, hE.1.2.2.1]) d0 d3 d4 d7 (fun x hx => (hT x hx).elim) hfr hlo hrm.1 hrm.2 hE.2.1
    (fun t ht h1 h2 => ⟨rfl, rfl, hP.kept (fun k q hk => h2 q.1 ((hP k q hk).lt)), Nat.le_trans hS.1 h1, fun q a1 a2 => (h2 q (Nat.lt_of_lt_of_le a1 hS.1)).trans (hS.2.1 q a1 a2)⟩) hS.2.2 (Nat.le_refl _) (Nat.le_refl _)
end ZTHR
