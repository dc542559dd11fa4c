theorem wn_ol8 : Cond.methodLink RX8 3 objectInit ∈ zTB := zch_1 _ (List.mem_of_getElem? (i := 39) (by decide +kernel)) rfl
theorem wn_f8_9 : Cond.fieldLink RX8 9 "BalloonsMoor$Told" "signs" "[C" ∈ zTB := zch_1 _ (List.mem_of_getElem? (i := 40) (by decide +kernel)) rfl
set_option maxHeartbeats 4000000 in
set_option maxRecDepth 100000 in
theorem nC_8 (l : Launch) (D : va_G) (ca : FieldType → ClassId) (h0 sz : Nat) : Met l yX8_init (zws yX8_init cX8_init 1 none) (nrm 2 1 80) (va_Pc [.ref h0] (fun U => U.heap.size = sz ∧ va_P D vwCl [(h0, .inr (8, [.null, .int 0, .int 0, .int 0]))] U.heap ∧ va_K D vwCl (zT ca) U ∧ va_D (fun _ => True) [(h0, .inr (8, [.null, .int 0, .int 0, .int 0]))])) (va_Qv (fun _ : Unit => True) (fun _ t => ∃ q1 : Nat, va_P D vwCl [(h0, .inr (8, [.ref q1, .int 0, .int 0, .int 0])), (q1, .inl (ca .char, 80, .inl (fun _ => 0)))] t.heap ∧ va_D (va_A [(h0, .inr (8, [.null, .int 0, .int 0, .int 0]))] sz) [(h0, .inr (8, [.ref q1, .int 0, .int 0, .int 0])), (q1, .inl (ca .char, 80, .inl (fun _ => 0)))]) (va_A [(h0, .inr (8, [.null, .int 0, .int 0, .int 0]))] sz)) 1 80 (va_A [(h0, .inr (8, [.null, .int 0, .int 0, .int 0]))] sz) := by
  refine Met.ofW (cc := cX8_init) (maxL := 1) (ret := none) (by decide) rfl ?_
  intro p e s m args below meth c s₁ B hml hv
  obtain ⟨rfl, hsz, hP, hK, hD0⟩ := hv
  have hx := B.exec
  have hb := B.bytes
  have hr := B.returns
  have hts0 := atoms_spec (ws := zws yX8_init cX8_init 1 none) B.pre
  have hts : ∀ w ∈ zTB, w.before [.ref h0].toArray s = true := fun w hw => hts0 w (List.mem_cons_of_mem _ hw)
  have hown : s.vm.findClass RX8 = some m.cls := findClass_of_methodNamed B.named
  have hlocks := B.notSynchronized
  have hin : meth.name = "<init>" := (name_of_methodNamed B.named B.method).1
  subst hsz
  have hD := hD0.self (sz := s.heap.size)
  generalize hAe : va_A [(h0, .inr (8, [.null, .int 0, .int 0, .int 0]))] s.heap.size = A at hD ⊢
  have hA : ∀ q : Nat, s.heap.size ≤ q → A q := fun q h => by rw [← hAe]; exact Or.inr h
  have hS : va_S A s.heap s.heap [] := va_S.rf
  have hl := lv_entry [.ref h0] (n := 1) (Nat.le_of_ble_eq_true rfl)
  rw [lg_entry_eq]
  generalize (lg_sl [.ref h0] ++ List.replicate (1 - (lg_sl [.ref h0]).length) Slot.unset).toArray = ls at hl ⊢
  have hl : lv_has ls 1 [(0, .ref h0)] := hl
  refine lv_aload_n hx hb dX8_init_0 rfl (lv_at hl 0 rfl) ?_
  refine W.objInit hx hb hown (hts _ wn_ol8) (hts _ wn_oi) (hts _ wn_oc) rfl (by rw [hml]; exact hl.1) rfl dX8_init_1 (Nat.le_of_ble_eq_true rfl) (Nat.le_of_ble_eq_true rfl) ?_
  refine W.eq (g2 := F0 m 4 ls []) rfl ?_
  refine lv_aload_n hx hb dX8_init_4 rfl (lv_at hl 0 rfl) ?_
  refine lv_bipush (v := (80 : Int32)) hx hb dX8_init_5 (by decide) ?_
  refine n_newc (N := 80) hx hb (hts _ wn_a_char) hK hP hD hS hA (by decide) (by decide) (by decide) (by decide) (by decide) dX8_init_7 (fun q1 H hP hD hS => ?_)
  have hP : va_P D vwCl [(h0, .inr (8, [.null, .int 0, .int 0, .int 0])), (q1, .inl (ca .char, 80, .inl (fun _ => 0)))] H := hP
  have hD : va_D A [(h0, .inr (8, [.null, .int 0, .int 0, .int 0])), (q1, .inl (ca .char, 80, .inl (fun _ => 0)))] := hD
  refine W.widen (k := 1) (n := 80) (by decide) (by decide) ?_
  refine va_putF (ci := 8) (v := .ref q1) (ty := (.array .char)) (C := RX8) (T := TX8) (N := 4) hx hb hts inN_8 tyX8 tyX8_ok nmX8 hown hK hP hD hS 0 rfl rfl 0 (by decide) (hts _ wn_f8_9) (fun _ h9 => h9) rfl hin rfl (by decide +kernel) rfl rfl (Nat.le_of_ble_eq_true rfl) dX8_init_9 (fun H locs hP hD hS => ?_)
  have hP : va_P D vwCl [(h0, .inr (8, [.ref q1, .int 0, .int 0, .int 0])), (q1, .inl (ca .char, 80, .inl (fun _ => 0)))] H := hP
  have hD : va_D A [(h0, .inr (8, [.ref q1, .int 0, .int 0, .int 0])), (q1, .inl (ca .char, 80, .inl (fun _ => 0)))] := hD
  have hP9 := hP.sub (ws' := [(h0, .inr (8, [.ref q1, .int 0, .int 0, .int 0])), (q1, .inl (ca .char, 80, .inl (fun _ => 0)))]) [0, 1] rfl
  have hD9 := hD.sub (ws' := [(h0, .inr (8, [.ref q1, .int 0, .int 0, .int 0])), (q1, .inl (ca .char, 80, .inl (fun _ => 0)))]) [0, 1] (by decide) rfl
  exact W.vret hx hb hr (fun t ht hW => ⟨⟨(), rfl, trivial, q1, by rw [ht]; exact hP9, hD9⟩, hS.F ht⟩) hS.2.2 dX8_init_12
theorem wn_ol9 : Cond.methodLink RX9 3 objectInit ∈ zTB := zch_1 _ (List.mem_of_getElem? (i := 60) (by decide +kernel)) rfl
theorem wn_f9_9 : Cond.fieldLink RX9 9 "BalloonsMoor$Tower" "height" "[I" ∈ zTB := zch_1 _ (List.mem_of_getElem? (i := 61) (by decide +kernel)) rfl
theorem wn_f9_15 : Cond.fieldLink RX9 15 "BalloonsMoor$Tower" "side" "[I" ∈ zTB := zch_1 _ (List.mem_of_getElem? (i := 63) (by decide +kernel)) rfl
theorem wn_f9_18 : Cond.fieldLink RX9 18 "BalloonsMoor$Tower" "draft" "[I" ∈ zTB := zch_1 _ (List.mem_of_getElem? (i := 65) (by decide +kernel)) rfl
theorem wn_f9_21 : Cond.fieldLink RX9 21 "BalloonsMoor$Tower" "near" "[I" ∈ zTB := zch_1 _ (List.mem_of_getElem? (i := 66) (by decide +kernel)) rfl
theorem wn_f9_24 : Cond.fieldLink RX9 24 "BalloonsMoor$Tower" "lower" "[I" ∈ zTB := zch_1 _ (List.mem_of_getElem? (i := 67) (by decide +kernel)) rfl
theorem wn_f9_27 : Cond.fieldLink RX9 27 "BalloonsMoor$Tower" "higher" "[I" ∈ zTB := zch_1 _ (List.mem_of_getElem? (i := 68) (by decide +kernel)) rfl
set_option maxHeartbeats 4000000 in
set_option maxRecDepth 100000 in
theorem nC_9 (l : Launch) (D : va_G) (ca : FieldType → ClassId) (h0 sz : Nat) : Met l yX9_init (zws yX9_init cX9_init 1 none) (nrm 2 6 56) (va_Pc [.ref h0] (fun U => U.heap.size = sz ∧ va_P D vwCl [(h0, .inr (9, [.null, .null, .null, .null, .null, .null, .int 0]))] U.heap ∧ va_K D vwCl (zT ca) U ∧ va_D (fun _ => True) [(h0, .inr (9, [.null, .null, .null, .null, .null, .null, .int 0]))])) (va_Qv (fun _ : Unit => True) (fun _ t => ∃ q1 q2 q3 q4 q5 q6 : Nat, va_P D vwCl [(h0, .inr (9, [.ref q1, .ref q2, .ref q3, .ref q4, .ref q5, .ref q6, .int 0])), (q1, .inl (ca .int, 8, .inl (fun _ => 0))), (q2, .inl (ca .int, 8, .inl (fun _ => 0))), (q3, .inl (ca .int, 16, .inl (fun _ => 0))), (q4, .inl (ca .int, 8, .inl (fun _ => 0))), (q5, .inl (ca .int, 8, .inl (fun _ => 0))), (q6, .inl (ca .int, 8, .inl (fun _ => 0)))] t.heap ∧ va_D (va_A [(h0, .inr (9, [.null, .null, .null, .null, .null, .null, .int 0]))] sz) [(h0, .inr (9, [.ref q1, .ref q2, .ref q3, .ref q4, .ref q5, .ref q6, .int 0])), (q1, .inl (ca .int, 8, .inl (fun _ => 0))), (q2, .inl (ca .int, 8, .inl (fun _ => 0))), (q3, .inl (ca .int, 16, .inl (fun _ => 0))), (q4, .inl (ca .int, 8, .inl (fun _ => 0))), (q5, .inl (ca .int, 8, .inl (fun _ => 0))), (q6, .inl (ca .int, 8, .inl (fun _ => 0)))]) (va_A [(h0, .inr (9, [.null, .null, .null, .null, .null, .null, .int 0]))] sz)) 6 56 (va_A [(h0, .inr (9, [.null, .null, .null, .null, .null, .null, .int 0]))] sz) := by
  refine Met.ofW (cc := cX9_init) (maxL := 1) (ret := none) (by decide) rfl ?_
  intro p e s m args below meth c s₁ B hml hv
  obtain ⟨rfl, hsz, hP, hK, hD0⟩ := hv
  have hx := B.exec
  have hb := B.bytes
  have hr := B.returns
  have hts0 := atoms_spec (ws := zws yX9_init cX9_init 1 none) B.pre
  have hts : ∀ w ∈ zTB, w.before [.ref h0].toArray s = true := fun w hw => hts0 w (List.mem_cons_of_mem _ hw)
  have hown : s.vm.findClass RX9 = some m.cls := findClass_of_methodNamed B.named
  have hlocks := B.notSynchronized
  have hin : meth.name = "<init>" := (name_of_methodNamed B.named B.method).1
  subst hsz
  have hD := hD0.self (sz := s.heap.size)
  generalize hAe : va_A [(h0, .inr (9, [.null, .null, .null, .null, .null, .null, .int 0]))] s.heap.size = A at hD ⊢
  have hA : ∀ q : Nat, s.heap.size ≤ q → A q := fun q h => by rw [← hAe]; exact Or.inr h
  have hS : va_S A s.heap s.heap [] := va_S.rf
  have hl := lv_entry [.ref h0] (n := 1) (Nat.le_of_ble_eq_true rfl)
  rw [lg_entry_eq]
  generalize (lg_sl [.ref h0] ++ List.replicate (1 - (lg_sl [.ref h0]).length) Slot.unset).toArray = ls at hl ⊢
  have hl : lv_has ls 1 [(0, .ref h0)] := hl
  refine lv_aload_n hx hb dX9_init_0 rfl (lv_at hl 0 rfl) ?_
  refine W.objInit hx hb hown (hts _ wn_ol9) (hts _ wn_oi) (hts _ wn_oc) rfl (by rw [hml]; exact hl.1) rfl dX9_init_1 (Nat.le_of_ble_eq_true rfl) (Nat.le_of_ble_eq_true rfl) ?_
  refine W.eq (g2 := F0 m 4 ls []) rfl ?_
  refine lv_aload_n hx hb dX9_init_4 rfl (lv_at hl 0 rfl) ?_
  refine lv_bipush (v := (8 : Int32)) hx hb dX9_init_5 (by decide) ?_
  refine n_newi (N := 8) hx hb (hts _ wn_a_int) hK hP hD hS hA (by decide) (by decide) (by decide) (by decide) (by decide) dX9_init_7 (fun q1 H hP hD hS => ?_)
  have hP : va_P D vwCl [(h0, .inr (9, [.null, .null, .null, .null, .null, .null, .int 0])), (q1, .inl (ca .int, 8, .inl (fun _ => 0)))] H := hP
  have hD : va_D A [(h0, .inr (9, [.null, .null, .null, .null, .null, .null, .int 0])), (q1, .inl (ca .int, 8, .inl (fun _ => 0)))] := hD
  refine W.widen (k := 1) (n := 8) (by decide) (by decide) ?_
  refine va_putF (ci := 9) (v := .ref q1) (ty := (.array .int)) (C := RX9) (T := TX9) (N := 7) hx hb hts inN_9 tyX9 tyX9_ok nmX9 hown hK hP hD hS 0 rfl rfl 0 (by decide) (hts _ wn_f9_9) (fun _ h9 => h9) rfl hin rfl (by decide +kernel) rfl rfl (Nat.le_of_ble_eq_true rfl) dX9_init_9 (fun H locs hP hD hS => ?_)
  have hP : va_P D vwCl [(h0, .inr (9, [.ref q1, .null, .null, .null, .null, .null, .int 0])), (q1, .inl (ca .int, 8, .inl (fun _ => 0)))] H := hP
  have hD : va_D A [(h0, .inr (9, [.ref q1, .null, .null, .null, .null, .null, .int 0])), (q1, .inl (ca .int, 8, .inl (fun _ => 0)))] := hD
  refine lv_aload_n hx hb dX9_init_12 rfl (lv_at hl 0 rfl) ?_
  refine lv_bipush (v := (8 : Int32)) hx hb dX9_init_13 (by decide) ?_
  refine n_newi (N := 8) hx hb (hts _ wn_a_int) hK hP hD hS hA (by decide) (by decide) (by decide) (by decide) (by decide) dX9_init_15 (fun q2 H hP hD hS => ?_)
  have hP : va_P D vwCl [(h0, .inr (9, [.ref q1, .null, .null, .null, .null, .null, .int 0])), (q1, .inl (ca .int, 8, .inl (fun _ => 0))), (q2, .inl (ca .int, 8, .inl (fun _ => 0)))] H := hP
  have hD : va_D A [(h0, .inr (9, [.ref q1, .null, .null, .null, .null, .null, .int 0])), (q1, .inl (ca .int, 8, .inl (fun _ => 0))), (q2, .inl (ca .int, 8, .inl (fun _ => 0)))] := hD
  refine W.widen (k := 2) (n := 16) (by decide) (by decide) ?_
  refine va_putF (ci := 9) (v := .ref q2) (ty := (.array .int)) (C := RX9) (T := TX9) (N := 7) hx hb hts inN_9 tyX9 tyX9_ok nmX9 hown hK hP hD hS 0 rfl rfl 1 (by decide) (hts _ wn_f9_15) (fun _ h9 => h9) rfl hin rfl (by decide +kernel) rfl rfl (Nat.le_of_ble_eq_true rfl) dX9_init_17 (fun H locs hP hD hS => ?_)
  have hP : va_P D vwCl [(h0, .inr (9, [.ref q1, .ref q2, .null, .null, .null, .null, .int 0])), (q1, .inl (ca .int, 8, .inl (fun _ => 0))), (q2, .inl (ca .int, 8, .inl (fun _ => 0)))] H := hP
  have hD : va_D A [(h0, .inr (9, [.ref q1, .ref q2, .null, .null, .null, .null, .int 0])), (q1, .inl (ca .int, 8, .inl (fun _ => 0))), (q2, .inl (ca .int, 8, .inl (fun _ => 0)))] := hD
  refine lv_aload_n hx hb dX9_init_20 rfl (lv_at hl 0 rfl) ?_
  refine lv_bipush (v := (16 : Int32)) hx hb dX9_init_21 (by decide) ?_
  refine n_newi (N := 16) hx hb (hts _ wn_a_int) hK hP hD hS hA (by decide) (by decide) (by decide) (by decide) (by decide) dX9_init_23 (fun q3 H hP hD hS => ?_)
  have hP : va_P D vwCl [(h0, .inr (9, [.ref q1, .ref q2, .null, .null, .null, .null, .int 0])), (q1, .inl (ca .int, 8, .inl (fun _ => 0))), (q2, .inl (ca .int, 8, .inl (fun _ => 0))), (q3, .inl (ca .int, 16, .inl (fun _ => 0)))] H := hP
  have hD : va_D A [(h0, .inr (9, [.ref q1, .ref q2, .null, .null, .null, .null, .int 0])), (q1, .inl (ca .int, 8, .inl (fun _ => 0))), (q2, .inl (ca .int, 8, .inl (fun _ => 0))), (q3, .inl (ca .int, 16, .inl (fun _ => 0)))] := hD
  refine W.widen (k := 3) (n := 32) (by decide) (by decide) ?_
  refine va_putF (ci := 9) (v := .ref q3) (ty := (.array .int)) (C := RX9) (T := TX9) (N := 7) hx hb hts inN_9 tyX9 tyX9_ok nmX9 hown hK hP hD hS 0 rfl rfl 2 (by decide) (hts _ wn_f9_18) (fun _ h9 => h9) rfl hin rfl (by decide +kernel) rfl rfl (Nat.le_of_ble_eq_true rfl) dX9_init_25 (fun H locs hP hD hS => ?_)
  have hP : va_P D vwCl [(h0, .inr (9, [.ref q1, .ref q2, .ref q3, .null, .null, .null, .int 0])), (q1, .inl (ca .int, 8, .inl (fun _ => 0))), (q2, .inl (ca .int, 8, .inl (fun _ => 0))), (q3, .inl (ca .int, 16, .inl (fun _ => 0)))] H := hP
  have hD : va_D A [(h0, .inr (9, [.ref q1, .ref q2, .ref q3, .null, .null, .null, .int 0])), (q1, .inl (ca .int, 8, .inl (fun _ => 0))), (q2, .inl (ca .int, 8, .inl (fun _ => 0))), (q3, .inl (ca .int, 16, .inl (fun _ => 0)))] := hD
  refine lv_aload_n hx hb dX9_init_28 rfl (lv_at hl 0 rfl) ?_
  refine lv_bipush (v := (8 : Int32)) hx hb dX9_init_29 (by decide) ?_
  refine n_newi (N := 8) hx hb (hts _ wn_a_int) hK hP hD hS hA (by decide) (by decide) (by decide) (by decide) (by decide) dX9_init_31 (fun q4 H hP hD hS => ?_)
  have hP : va_P D vwCl [(h0, .inr (9, [.ref q1, .ref q2, .ref q3, .null, .null, .null, .int 0])), (q1, .inl (ca .int, 8, .inl (fun _ => 0))), (q2, .inl (ca .int, 8, .inl (fun _ => 0))), (q3, .inl (ca .int, 16, .inl (fun _ => 0))), (q4, .inl (ca .int, 8, .inl (fun _ => 0)))] H := hP
  have hD : va_D A [(h0, .inr (9, [.ref q1, .ref q2, .ref q3, .null, .null, .null, .int 0])), (q1, .inl (ca .int, 8, .inl (fun _ => 0))), (q2, .inl (ca .int, 8, .inl (fun _ => 0))), (q3, .inl (ca .int, 16, .inl (fun _ => 0))), (q4, .inl (ca .int, 8, .inl (fun _ => 0)))] := hD
  refine W.widen (k := 4) (n := 40) (by decide) (by decide) ?_
  refine va_putF (ci := 9) (v := .ref q4) (ty := (.array .int)) (C := RX9) (T := TX9) (N := 7) hx hb hts inN_9 tyX9 tyX9_ok nmX9 hown hK hP hD hS 0 rfl rfl 3 (by decide) (hts _ wn_f9_21) (fun _ h9 => h9) rfl hin rfl (by decide +kernel) rfl rfl (Nat.le_of_ble_eq_true rfl) dX9_init_33 (fun H locs hP hD hS => ?_)
  have hP : va_P D vwCl [(h0, .inr (9, [.ref q1, .ref q2, .ref q3, .ref q4, .null, .null, .int 0])), (q1, .inl (ca .int, 8, .inl (fun _ => 0))), (q2, .inl (ca .int, 8, .inl (fun _ => 0))), (q3, .inl (ca .int, 16, .inl (fun _ => 0))), (q4, .inl (ca .int, 8, .inl (fun _ => 0)))] H := hP
  have hD : va_D A [(h0, .inr (9, [.ref q1, .ref q2, .ref q3, .ref q4, .null, .null, .int 0])), (q1, .inl (ca .int, 8, .inl (fun _ => 0))), (q2, .inl (ca .int, 8, .inl (fun _ => 0))), (q3, .inl (ca .int, 16, .inl (fun _ => 0))), (q4, .inl (ca .int, 8, .inl (fun _ => 0)))] := hD
  refine lv_aload_n hx hb dX9_init_36 rfl (lv_at hl 0 rfl) ?_
  refine lv_bipush (v := (8 : Int32)) hx hb dX9_init_37 (by decide) ?_
  refine n_newi (N := 8) hx hb (hts _ wn_a_int) hK hP hD hS hA (by decide) (by decide) (by decide) (by decide) (by decide) dX9_init_39 (fun q5 H hP hD hS => ?_)
  have hP : va_P D vwCl [(h0, .inr (9, [.ref q1, .ref q2, .ref q3, .ref q4, .null, .null, .int 0])), (q1, .inl (ca .int, 8, .inl (fun _ => 0))), (q2, .inl (ca .int, 8, .inl (fun _ => 0))), (q3, .inl (ca .int, 16, .inl (fun _ => 0))), (q4, .inl (ca .int, 8, .inl (fun _ => 0))), (q5, .inl (ca .int, 8, .inl (fun _ => 0)))] H := hP
  have hD : va_D A [(h0, .inr (9, [.ref q1, .ref q2, .ref q3, .ref q4, .null, .null, .int 0])), (q1, .inl (ca .int, 8, .inl (fun _ => 0))), (q2, .inl (ca .int, 8, .inl (fun _ => 0))), (q3, .inl (ca .int, 16, .inl (fun _ => 0))), (q4, .inl (ca .int, 8, .inl (fun _ => 0))), (q5, .inl (ca .int, 8, .inl (fun _ => 0)))] := hD
  refine W.widen (k := 5) (n := 48) (by decide) (by decide) ?_
  refine va_putF (ci := 9) (v := .ref q5) (ty := (.array .int)) (C := RX9) (T := TX9) (N := 7) hx hb hts inN_9 tyX9 tyX9_ok nmX9 hown hK hP hD hS 0 rfl rfl 4 (by decide) (hts _ wn_f9_24) (fun _ h9 => h9) rfl hin rfl (by decide +kernel) rfl rfl (Nat.le_of_ble_eq_true rfl) dX9_init_41 (fun H locs hP hD hS => ?_)
  have hP : va_P D vwCl [(h0, .inr (9, [.ref q1, .ref q2, .ref q3, .ref q4, .ref q5, .null, .int 0])), (q1, .inl (ca .int, 8, .inl (fun _ => 0))), (q2, .inl (ca .int, 8, .inl (fun _ => 0))), (q3, .inl (ca .int, 16, .inl (fun _ => 0))), (q4, .inl (ca .int, 8, .inl (fun _ => 0))), (q5, .inl (ca .int, 8, .inl (fun _ => 0)))] H := hP
  have hD : va_D A [(h0, .inr (9, [.ref q1, .ref q2, .ref q3, .ref q4, .ref q5, .null, .int 0])), (q1, .inl (ca .int, 8, .inl (fun _ => 0))), (q2, .inl (ca .int, 8, .inl (fun _ => 0))), (q3, .inl (ca .int, 16, .inl (fun _ => 0))), (q4, .inl (ca .int, 8, .inl (fun _ => 0))), (q5, .inl (ca .int, 8, .inl (fun _ => 0)))] := hD
  refine lv_aload_n hx hb dX9_init_44 rfl (lv_at hl 0 rfl) ?_
  refine lv_bipush (v := (8 : Int32)) hx hb dX9_init_45 (by decide) ?_
  refine n_newi (N := 8) hx hb (hts _ wn_a_int) hK hP hD hS hA (by decide) (by decide) (by decide) (by decide) (by decide) dX9_init_47 (fun q6 H hP hD hS => ?_)
  have hP : va_P D vwCl [(h0, .inr (9, [.ref q1, .ref q2, .ref q3, .ref q4, .ref q5, .null, .int 0])), (q1, .inl (ca .int, 8, .inl (fun _ => 0))), (q2, .inl (ca .int, 8, .inl (fun _ => 0))), (q3, .inl (ca .int, 16, .inl (fun _ => 0))), (q4, .inl (ca .int, 8, .inl (fun _ => 0))), (q5, .inl (ca .int, 8, .inl (fun _ => 0))), (q6, .inl (ca .int, 8, .inl (fun _ => 0)))] H := hP
  have hD : va_D A [(h0, .inr (9, [.ref q1, .ref q2, .ref q3, .ref q4, .ref q5, .null, .int 0])), (q1, .inl (ca .int, 8, .inl (fun _ => 0))), (q2, .inl (ca .int, 8, .inl (fun _ => 0))), (q3, .inl (ca .int, 16, .inl (fun _ => 0))), (q4, .inl (ca .int, 8, .inl (fun _ => 0))), (q5, .inl (ca .int, 8, .inl (fun _ => 0))), (q6, .inl (ca .int, 8, .inl (fun _ => 0)))] := hD
  refine W.widen (k := 6) (n := 56) (by decide) (by decide) ?_
  refine va_putF (ci := 9) (v := .ref q6) (ty := (.array .int)) (C := RX9) (T := TX9) (N := 7) hx hb hts inN_9 tyX9 tyX9_ok nmX9 hown hK hP hD hS 0 rfl rfl 5 (by decide) (hts _ wn_f9_27) (fun _ h9 => h9) rfl hin rfl (by decide +kernel) rfl rfl (Nat.le_of_ble_eq_true rfl) dX9_init_49 (fun H locs hP hD hS => ?_)
  have hP : va_P D vwCl [(h0, .inr (9, [.ref q1, .ref q2, .ref q3, .ref q4, .ref q5, .ref q6, .int 0])), (q1, .inl (ca .int, 8, .inl (fun _ => 0))), (q2, .inl (ca .int, 8, .inl (fun _ => 0))), (q3, .inl (ca .int, 16, .inl (fun _ => 0))), (q4, .inl (ca .int, 8, .inl (fun _ => 0))), (q5, .inl (ca .int, 8, .inl (fun _ => 0))), (q6, .inl (ca .int, 8, .inl (fun _ => 0)))] H := hP
  have hD : va_D A [(h0, .inr (9, [.ref q1, .ref q2, .ref q3, .ref q4, .ref q5, .ref q6, .int 0])), (q1, .inl (ca .int, 8, .inl (fun _ => 0))), (q2, .inl (ca .int, 8, .inl (fun _ => 0))), (q3, .inl (ca .int, 16, .inl (fun _ => 0))), (q4, .inl (ca .int, 8, .inl (fun _ => 0))), (q5, .inl (ca .int, 8, .inl (fun _ => 0))), (q6, .inl (ca .int, 8, .inl (fun _ => 0)))] := hD
  have hP9 := hP.sub (ws' := [(h0, .inr (9, [.ref q1, .ref q2, .ref q3, .ref q4, .ref q5, .ref q6, .int 0])), (q1, .inl (ca .int, 8, .inl (fun _ => 0))), (q2, .inl (ca .int, 8, .inl (fun _ => 0))), (q3, .inl (ca .int, 16, .inl (fun _ => 0))), (q4, .inl (ca .int, 8, .inl (fun _ => 0))), (q5, .inl (ca .int, 8, .inl (fun _ => 0))), (q6, .inl (ca .int, 8, .inl (fun _ => 0)))]) [0, 1, 2, 3, 4, 5, 6] rfl
  have hD9 := hD.sub (ws' := [(h0, .inr (9, [.ref q1, .ref q2, .ref q3, .ref q4, .ref q5, .ref q6, .int 0])), (q1, .inl (ca .int, 8, .inl (fun _ => 0))), (q2, .inl (ca .int, 8, .inl (fun _ => 0))), (q3, .inl (ca .int, 16, .inl (fun _ => 0))), (q4, .inl (ca .int, 8, .inl (fun _ => 0))), (q5, .inl (ca .int, 8, .inl (fun _ => 0))), (q6, .inl (ca .int, 8, .inl (fun _ => 0)))]) [0, 1, 2, 3, 4, 5, 6] (by decide) rfl
  exact W.vret hx hb hr (fun t ht hW => ⟨⟨(), rfl, trivial, q1, q2, q3, q4, q5, q6, by rw [ht]; exact hP9, hD9⟩, hS.F ht⟩) hS.2.2 dX9_init_52
theorem wn_ol7 : Cond.methodLink RX7 3 objectInit ∈ zTB := zch_1 _ (List.mem_of_getElem? (i := 124) (by decide +kernel)) rfl
theorem wn_f7_9 : Cond.fieldLink RX7 9 "BalloonsMoor$Rule" "steps" "[I" ∈ zTB := zch_1 _ (List.mem_of_getElem? (i := 125) (by decide +kernel)) rfl
theorem wn_f7_15 : Cond.fieldLink RX7 15 "BalloonsMoor$Rule" "draft" "[I" ∈ zTB := zch_1 _ (List.mem_of_getElem? (i := 126) (by decide +kernel)) rfl
theorem wn_f7_18 : Cond.fieldLink RX7 18 "BalloonsMoor$Rule" "stack" "[I" ∈ zTB := zch_1 _ (List.mem_of_getElem? (i := 127) (by decide +kernel)) rfl
set_option maxHeartbeats 4000000 in
set_option maxRecDepth 100000 in
theorem nC_7 (l : Launch) (D : va_G) (ca : FieldType → ClassId) (h0 sz : Nat) : Met l yX7_init (zws yX7_init cX7_init 1 none) (nrm 2 3 120) (va_Pc [.ref h0] (fun U => U.heap.size = sz ∧ va_P D vwCl [(h0, .inr (7, [.null, .null, .null, .int 0, .int 0]))] U.heap ∧ va_K D vwCl (zT ca) U ∧ va_D (fun _ => True) [(h0, .inr (7, [.null, .null, .null, .int 0, .int 0]))])) (va_Qv (fun _ : Unit => True) (fun _ t => ∃ q1 q2 q3 : Nat, va_P D vwCl [(h0, .inr (7, [.ref q1, .ref q2, .ref q3, .int 0, .int 0])), (q1, .inl (ca .int, 40, .inl (fun _ => 0))), (q2, .inl (ca .int, 40, .inl (fun _ => 0))), (q3, .inl (ca .int, 40, .inl (fun _ => 0)))] t.heap ∧ va_D (va_A [(h0, .inr (7, [.null, .null, .null, .int 0, .int 0]))] sz) [(h0, .inr (7, [.ref q1, .ref q2, .ref q3, .int 0, .int 0])), (q1, .inl (ca .int, 40, .inl (fun _ => 0))), (q2, .inl (ca .int, 40, .inl (fun _ => 0))), (q3, .inl (ca .int, 40, .inl (fun _ => 0)))]) (va_A [(h0, .inr (7, [.null, .null, .null, .int 0, .int 0]))] sz)) 3 120 (va_A [(h0, .inr (7, [.null, .null, .null, .int 0, .int 0]))] sz) := by
  refine Met.ofW (cc := cX7_init) (maxL := 1) (ret := none) (by decide) rfl ?_
  intro p e s m args below meth c s₁ B hml hv
  obtain ⟨rfl, hsz, hP, hK, hD0⟩ := hv
  have hx := B.exec
  have hb := B.bytes
  have hr := B.returns
  have hts0 := atoms_spec (ws := zws yX7_init cX7_init 1 none) B.pre
  have hts : ∀ w ∈ zTB, w.before [.ref h0].toArray s = true := fun w hw => hts0 w (List.mem_cons_of_mem _ hw)
  have hown : s.vm.findClass RX7 = some m.cls := findClass_of_methodNamed B.named
  have hlocks := B.notSynchronized
  have hin : meth.name = "<init>" := (name_of_methodNamed B.named B.method).1
  subst hsz
  have hD := hD0.self (sz := s.heap.size)
  generalize hAe : va_A [(h0, .inr (7, [.null, .null, .null, .int 0, .int 0]))] s.heap.size = A at hD ⊢
  have hA : ∀ q : Nat, s.heap.size ≤ q → A q := fun q h => by rw [← hAe]; exact Or.inr h
  have hS : va_S A s.heap s.heap [] := va_S.rf
  have hl := lv_entry [.ref h0] (n := 1) (Nat.le_of_ble_eq_true rfl)
  rw [lg_entry_eq]
  generalize (lg_sl [.ref h0] ++ List.replicate (1 - (lg_sl [.ref h0]).length) Slot.unset).toArray = ls at hl ⊢
  have hl : lv_has ls 1 [(0, .ref h0)] := hl
  refine lv_aload_n hx hb dX7_init_0 rfl (lv_at hl 0 rfl) ?_
  refine W.objInit hx hb hown (hts _ wn_ol7) (hts _ wn_oi) (hts _ wn_oc) rfl (by rw [hml]; exact hl.1) rfl dX7_init_1 (Nat.le_of_ble_eq_true rfl) (Nat.le_of_ble_eq_true rfl) ?_
  refine W.eq (g2 := F0 m 4 ls []) rfl ?_
  refine lv_aload_n hx hb dX7_init_4 rfl (lv_at hl 0 rfl) ?_
  refine lv_bipush (v := (40 : Int32)) hx hb dX7_init_5 (by decide) ?_
  refine n_newi (N := 40) hx hb (hts _ wn_a_int) hK hP hD hS hA (by decide) (by decide) (by decide) (by decide) (by decide) dX7_init_7 (fun q1 H hP hD hS => ?_)
  have hP : va_P D vwCl [(h0, .inr (7, [.null, .null, .null, .int 0, .int 0])), (q1, .inl (ca .int, 40, .inl (fun _ => 0)))] H := hP
  have hD : va_D A [(h0, .inr (7, [.null, .null, .null, .int 0, .int 0])), (q1, .inl (ca .int, 40, .inl (fun _ => 0)))] := hD
  refine W.widen (k := 1) (n := 40) (by decide) (by decide) ?_
  refine va_putF (ci := 7) (v := .ref q1) (ty := (.array .int)) (C := RX7) (T := TX7) (N := 5) hx hb hts inN_7 tyX7 tyX7_ok nmX7 hown hK hP hD hS 0 rfl rfl 0 (by decide) (hts _ wn_f7_9) (fun _ h9 => h9) rfl hin rfl (by decide +kernel) rfl rfl (Nat.le_of_ble_eq_true rfl) dX7_init_9 (fun H locs hP hD hS => ?_)
  have hP : va_P D vwCl [(h0, .inr (7, [.ref q1, .null, .null, .int 0, .int 0])), (q1, .inl (ca .int, 40, .inl (fun _ => 0)))] H := hP
  have hD : va_D A [(h0, .inr (7, [.ref q1, .null, .null, .int 0, .int 0])), (q1, .inl (ca .int, 40, .inl (fun _ => 0)))] := hD
  refine lv_aload_n hx hb dX7_init_12 rfl (lv_at hl 0 rfl) ?_
  refine lv_bipush (v := (40 : Int32)) hx hb dX7_init_13 (by decide) ?_
  refine n_newi (N := 40) hx hb (hts _ wn_a_int) hK hP hD hS hA (by decide) (by decide) (by decide) (by decide) (by decide) dX7_init_15 (fun q2 H hP hD hS => ?_)
  have hP : va_P D vwCl [(h0, .inr (7, [.ref q1, .null, .null, .int 0, .int 0])), (q1, .inl (ca .int, 40, .inl (fun _ => 0))), (q2, .inl (ca .int, 40, .inl (fun _ => 0)))] H := hP
  have hD : va_D A [(h0, .inr (7, [.ref q1, .null, .null, .int 0, .int 0])), (q1, .inl (ca .int, 40, .inl (fun _ => 0))), (q2, .inl (ca .int, 40, .inl (fun _ => 0)))] := hD
  refine W.widen (k := 2) (n := 80) (by decide) (by decide) ?_
  refine va_putF (ci := 7) (v := .ref q2) (ty := (.array .int)) (C := RX7) (T := TX7) (N := 5) hx hb hts inN_7 tyX7 tyX7_ok nmX7 hown hK hP hD hS 0 rfl rfl 1 (by decide) (hts _ wn_f7_15) (fun _ h9 => h9) rfl hin rfl (by decide +kernel) rfl rfl (Nat.le_of_ble_eq_true rfl) dX7_init_17 (fun H locs hP hD hS => ?_)
  have hP : va_P D vwCl [(h0, .inr (7, [.ref q1, .ref q2, .null, .int 0, .int 0])), (q1, .inl (ca .int, 40, .inl (fun _ => 0))), (q2, .inl (ca .int, 40, .inl (fun _ => 0)))] H := hP
  have hD : va_D A [(h0, .inr (7, [.ref q1, .ref q2, .null, .int 0, .int 0])), (q1, .inl (ca .int, 40, .inl (fun _ => 0))), (q2, .inl (ca .int, 40, .inl (fun _ => 0)))] := hD
  refine lv_aload_n hx hb dX7_init_20 rfl (lv_at hl 0 rfl) ?_
  refine lv_bipush (v := (40 : Int32)) hx hb dX7_init_21 (by decide) ?_
  refine n_newi (N := 40) hx hb (hts _ wn_a_int) hK hP hD hS hA (by decide) (by decide) (by decide) (by decide) (by decide) dX7_init_23 (fun q3 H hP hD hS => ?_)
  have hP : va_P D vwCl [(h0, .inr (7, [.ref q1, .ref q2, .null, .int 0, .int 0])), (q1, .inl (ca .int, 40, .inl (fun _ => 0))), (q2, .inl (ca .int, 40, .inl (fun _ => 0))), (q3, .inl (ca .int, 40, .inl (fun _ => 0)))] H := hP
  have hD : va_D A [(h0, .inr (7, [.ref q1, .ref q2, .null, .int 0, .int 0])), (q1, .inl (ca .int, 40, .inl (fun _ => 0))), (q2, .inl (ca .int, 40, .inl (fun _ => 0))), (q3, .inl (ca .int, 40, .inl (fun _ => 0)))] := hD
  refine W.widen (k := 3) (n := 120) (by decide) (by decide) ?_
  refine va_putF (ci := 7) (v := .ref q3) (ty := (.array .int)) (C := RX7) (T := TX7) (N := 5) hx hb hts inN_7 tyX7 tyX7_ok nmX7 hown hK hP hD hS 0 rfl rfl 2 (by decide) (hts _ wn_f7_18) (fun _ h9 => h9) rfl hin rfl (by decide +kernel) rfl rfl (Nat.le_of_ble_eq_true rfl) dX7_init_25 (fun H locs hP hD hS => ?_)
  have hP : va_P D vwCl [(h0, .inr (7, [.ref q1, .ref q2, .ref q3, .int 0, .int 0])), (q1, .inl (ca .int, 40, .inl (fun _ => 0))), (q2, .inl (ca .int, 40, .inl (fun _ => 0))), (q3, .inl (ca .int, 40, .inl (fun _ => 0)))] H := hP
  have hD : va_D A [(h0, .inr (7, [.ref q1, .ref q2, .ref q3, .int 0, .int 0])), (q1, .inl (ca .int, 40, .inl (fun _ => 0))), (q2, .inl (ca .int, 40, .inl (fun _ => 0))), (q3, .inl (ca .int, 40, .inl (fun _ => 0)))] := hD
  have hP9 := hP.sub (ws' := [(h0, .inr (7, [.ref q1, .ref q2, .ref q3, .int 0, .int 0])), (q1, .inl (ca .int, 40, .inl (fun _ => 0))), (q2, .inl (ca .int, 40, .inl (fun _ => 0))), (q3, .inl (ca .int, 40, .inl (fun _ => 0)))]) [0, 1, 2, 3] rfl
  have hD9 := hD.sub (ws' := [(h0, .inr (7, [.ref q1, .ref q2, .ref q3, .int 0, .int 0])), (q1, .inl (ca .int, 40, .inl (fun _ => 0))), (q2, .inl (ca .int, 40, .inl (fun _ => 0))), (q3, .inl (ca .int, 40, .inl (fun _ => 0)))]) [0, 1, 2, 3] (by decide) rfl
  exact W.vret hx hb hr (fun t ht hW => ⟨⟨(), rfl, trivial, q1, q2, q3, by rw [ht]; exact hP9, hD9⟩, hS.F ht⟩) hS.2.2 dX7_init_28
theorem wn_ol3 : Cond.methodLink RX3 5 objectInit ∈ zTB := zch_1 _ (List.mem_of_getElem? (i := 146) (by decide +kernel)) rfl
theorem wn_f3_13 : Cond.fieldLink RX3 13 "BalloonsMoor$Flock" "facts" "[I" ∈ zTB := zch_1 _ (List.mem_of_getElem? (i := 150) (by decide +kernel)) rfl
theorem wn_f3_17 : Cond.fieldLink RX3 17 "BalloonsMoor$Flock" "foreseen" "[I" ∈ zTB := zch_1 _ (List.mem_of_getElem? (i := 151) (by decide +kernel)) rfl
theorem wn_f3_20 : Cond.fieldLink RX3 20 "BalloonsMoor$Flock" "gas" "[I" ∈ zTB := zch_1 _ (List.mem_of_getElem? (i := 152) (by decide +kernel)) rfl
theorem wn_f3_23 : Cond.fieldLink RX3 23 "BalloonsMoor$Flock" "sacks" "[I" ∈ zTB := zch_1 _ (List.mem_of_getElem? (i := 155) (by decide +kernel)) rfl
theorem wn_f3_26 : Cond.fieldLink RX3 26 "BalloonsMoor$Flock" "cargo" "[I" ∈ zTB := zch_1 _ (List.mem_of_getElem? (i := 158) (by decide +kernel)) rfl
theorem wn_f3_29 : Cond.fieldLink RX3 29 "BalloonsMoor$Flock" "rope" "[I" ∈ zTB := zch_1 _ (List.mem_of_getElem? (i := 160) (by decide +kernel)) rfl
theorem wn_f3_32 : Cond.fieldLink RX3 32 "BalloonsMoor$Flock" "leak" "[I" ∈ zTB := zch_1 _ (List.mem_of_getElem? (i := 164) (by decide +kernel)) rfl
theorem wn_f3_35 : Cond.fieldLink RX3 35 "BalloonsMoor$Flock" "where" "[I" ∈ zTB := zch_1 _ (List.mem_of_getElem? (i := 167) (by decide +kernel)) rfl
theorem wn_f3_38 : Cond.fieldLink RX3 38 "BalloonsMoor$Flock" "ring" "[I" ∈ zTB := zch_1 _ (List.mem_of_getElem? (i := 169) (by decide +kernel)) rfl
theorem wn_f3_41 : Cond.fieldLink RX3 41 "BalloonsMoor$Flock" "x" "[I" ∈ zTB := zch_1 _ (List.mem_of_getElem? (i := 171) (by decide +kernel)) rfl
theorem wn_f3_44 : Cond.fieldLink RX3 44 "BalloonsMoor$Flock" "y" "[I" ∈ zTB := zch_1 _ (List.mem_of_getElem? (i := 173) (by decide +kernel)) rfl
theorem wn_f3_47 : Cond.fieldLink RX3 47 "BalloonsMoor$Flock" "rings" "LBalloonsMoor$Tower;" ∈ zTB := zch_1 _ (List.mem_of_getElem? (i := 147) (by decide +kernel)) rfl
theorem wn_f3_51 : Cond.fieldLink RX3 51 "BalloonsMoor$Flock" "air" "LBalloonsMoor$Winds;" ∈ zTB := zch_1 _ (List.mem_of_getElem? (i := 148) (by decide +kernel)) rfl
theorem wn_f3_55 : Cond.fieldLink RX3 55 "BalloonsMoor$Flock" "lifting" "LBalloonsMoor$Rule;" ∈ zTB := zch_1 _ (List.mem_of_getElem? (i := 149) (by decide +kernel)) rfl
set_option maxHeartbeats 4000000 in
set_option maxRecDepth 100000 in
theorem nC_3 (l : Launch) (D : va_G) (ca : FieldType → ClassId) (h0 sz : Nat) (r1 : Nat) (r2 : Nat) (r3 : Nat) : Met l yX3_init (zws yX3_init cX3_init 4 none) (nrm 2 11 70) (va_Pc [.ref h0, .ref r1, .ref r2, .ref r3] (fun U => U.heap.size = sz ∧ va_P D vwCl [(h0, .inr (3, [.null, .null, .null, .null, .null, .null, .null, .null, .null, .null, .null, .null, .null, .null, .int 0, .int 0, .int 0, .int 0, .int 0]))] U.heap ∧ va_K D vwCl (zT ca) U ∧ va_D (fun _ => True) [(h0, .inr (3, [.null, .null, .null, .null, .null, .null, .null, .null, .null, .null, .null, .null, .null, .null, .int 0, .int 0, .int 0, .int 0, .int 0]))])) (va_Qv (fun _ : Unit => True) (fun _ t => ∃ q1 q2 q3 q4 q5 q6 q7 q8 q9 q10 q11 : Nat, va_P D vwCl [(h0, .inr (3, [.ref r1, .ref r2, .ref r3, .ref q1, .ref q2, .ref q3, .ref q4, .ref q5, .ref q6, .ref q7, .ref q8, .ref q9, .ref q10, .ref q11, .int 0, .int 0, .int 0, .int 0, .int 0])), (q1, .inl (ca .int, 8, .inl (fun _ => 0))), (q2, .inl (ca .int, 8, .inl (fun _ => 0))), (q3, .inl (ca .int, 6, .inl (fun _ => 0))), (q4, .inl (ca .int, 6, .inl (fun _ => 0))), (q5, .inl (ca .int, 6, .inl (fun _ => 0))), (q6, .inl (ca .int, 6, .inl (fun _ => 0))), (q7, .inl (ca .int, 6, .inl (fun _ => 0))), (q8, .inl (ca .int, 6, .inl (fun _ => 0))), (q9, .inl (ca .int, 6, .inl (fun _ => 0))), (q10, .inl (ca .int, 6, .inl (fun _ => 0))), (q11, .inl (ca .int, 6, .inl (fun _ => 0)))] t.heap ∧ va_D (va_A [(h0, .inr (3, [.null, .null, .null, .null, .null, .null, .null, .null, .null, .null, .null, .null, .null, .null, .int 0, .int 0, .int 0, .int 0, .int 0]))] sz) [(h0, .inr (3, [.ref r1, .ref r2, .ref r3, .ref q1, .ref q2, .ref q3, .ref q4, .ref q5, .ref q6, .ref q7, .ref q8, .ref q9, .ref q10, .ref q11, .int 0, .int 0, .int 0, .int 0, .int 0])), (q1, .inl (ca .int, 8, .inl (fun _ => 0))), (q2, .inl (ca .int, 8, .inl (fun _ => 0))), (q3, .inl (ca .int, 6, .inl (fun _ => 0))), (q4, .inl (ca .int, 6, .inl (fun _ => 0))), (q5, .inl (ca .int, 6, .inl (fun _ => 0))), (q6, .inl (ca .int, 6, .inl (fun _ => 0))), (q7, .inl (ca .int, 6, .inl (fun _ => 0))), (q8, .inl (ca .int, 6, .inl (fun _ => 0))), (q9, .inl (ca .int, 6, .inl (fun _ => 0))), (q10, .inl (ca .int, 6, .inl (fun _ => 0))), (q11, .inl (ca .int, 6, .inl (fun _ => 0)))]) (va_A [(h0, .inr (3, [.null, .null, .null, .null, .null, .null, .null, .null, .null, .null, .null, .null, .null, .null, .int 0, .int 0, .int 0, .int 0, .int 0]))] sz)) 11 70 (va_A [(h0, .inr (3, [.null, .null, .null, .null, .null, .null, .null, .null, .null, .null, .null, .null, .null, .null, .int 0, .int 0, .int 0, .int 0, .int 0]))] sz) := by
  refine Met.ofW (cc := cX3_init) (maxL := 4) (ret := none) (by decide) rfl ?_
  intro p e s m args below meth c s₁ B hml hv
  obtain ⟨rfl, hsz, hP, hK, hD0⟩ := hv
  have hx := B.exec
  have hb := B.bytes
  have hr := B.returns
  have hts0 := atoms_spec (ws := zws yX3_init cX3_init 4 none) B.pre
  have hts : ∀ w ∈ zTB, w.before [.ref h0, .ref r1, .ref r2, .ref r3].toArray s = true := fun w hw => hts0 w (List.mem_cons_of_mem _ hw)
  have hown : s.vm.findClass RX3 = some m.cls := findClass_of_methodNamed B.named
  have hlocks := B.notSynchronized
  have hin : meth.name = "<init>" := (name_of_methodNamed B.named B.method).1
  subst hsz
  have hD := hD0.self (sz := s.heap.size)
  generalize hAe : va_A [(h0, .inr (3, [.null, .null, .null, .null, .null, .null, .null, .null, .null, .null, .null, .null, .null, .null, .int 0, .int 0, .int 0, .int 0, .int 0]))] s.heap.size = A at hD ⊢
  have hA : ∀ q : Nat, s.heap.size ≤ q → A q := fun q h => by rw [← hAe]; exact Or.inr h
  have hS : va_S A s.heap s.heap [] := va_S.rf
  have hl := lv_entry [.ref h0, .ref r1, .ref r2, .ref r3] (n := 4) (Nat.le_of_ble_eq_true rfl)
  rw [lg_entry_eq]
  generalize (lg_sl [.ref h0, .ref r1, .ref r2, .ref r3] ++ List.replicate (4 - (lg_sl [.ref h0, .ref r1, .ref r2, .ref r3]).length) Slot.unset).toArray = ls at hl ⊢
  have hl : lv_has ls 4 [(0, .ref h0), (1, .ref r1), (2, .ref r2), (3, .ref r3)] := hl
  refine lv_aload_n hx hb dX3_init_0 rfl (lv_at hl 0 rfl) ?_
  refine W.objInit hx hb hown (hts _ wn_ol3) (hts _ wn_oi) (hts _ wn_oc) rfl (by rw [hml]; exact hl.1) rfl dX3_init_1 (Nat.le_of_ble_eq_true rfl) (Nat.le_of_ble_eq_true rfl) ?_
  refine W.eq (g2 := F0 m 4 ls []) rfl ?_
  refine lv_aload_n hx hb dX3_init_4 rfl (lv_at hl 0 rfl) ?_
  refine lv_bipush (v := (8 : Int32)) hx hb dX3_init_5 (by decide) ?_
  refine n_newi (N := 8) hx hb (hts _ wn_a_int) hK hP hD hS hA (by decide) (by decide) (by decide) (by decide) (by decide) dX3_init_7 (fun q1 H hP hD hS => ?_)
  have hP : va_P D vwCl [(h0, .inr (3, [.null, .null, .null, .null, .null, .null, .null, .null, .null, .null, .null, .null, .null, .null, .int 0, .int 0, .int 0, .int 0, .int 0])), (q1, .inl (ca .int, 8, .inl (fun _ => 0)))] H := hP
  have hD : va_D A [(h0, .inr (3, [.null, .null, .null, .null, .null, .null, .null, .null, .null, .null, .null, .null, .null, .null, .int 0, .int 0, .int 0, .int 0, .int 0])), (q1, .inl (ca .int, 8, .inl (fun _ => 0)))] := hD
  refine W.widen (k := 1) (n := 8) (by decide) (by decide) ?_
  refine va_putF (ci := 3) (v := .ref q1) (ty := (.array .int)) (C := RX3) (T := TX3) (N := 19) hx hb hts inN_3 tyX3 tyX3_ok nmX3 hown hK hP hD hS 0 rfl rfl 3 (by decide) (hts _ wn_f3_13) (fun _ h9 => h9) rfl hin rfl (by decide +kernel) rfl rfl (Nat.le_of_ble_eq_true rfl) dX3_init_9 (fun H locs hP hD hS => ?_)
  have hP : va_P D vwCl [(h0, .inr (3, [.null, .null, .null, .ref q1, .null, .null, .null, .null, .null, .null, .null, .null, .null, .null, .int 0, .int 0, .int 0, .int 0, .int 0])), (q1, .inl (ca .int, 8, .inl (fun _ => 0)))] H := hP
  have hD : va_D A [(h0, .inr (3, [.null, .null, .null, .ref q1, .null, .null, .null, .null, .null, .null, .null, .null, .null, .null, .int 0, .int 0, .int 0, .int 0, .int 0])), (q1, .inl (ca .int, 8, .inl (fun _ => 0)))] := hD
  refine lv_aload_n hx hb dX3_init_12 rfl (lv_at hl 0 rfl) ?_
  refine lv_bipush (v := (8 : Int32)) hx hb dX3_init_13 (by decide) ?_
  refine n_newi (N := 8) hx hb (hts _ wn_a_int) hK hP hD hS hA (by decide) (by decide) (by decide) (by decide) (by decide) dX3_init_15 (fun q2 H hP hD hS => ?_)
  have hP : va_P D vwCl [(h0, .inr (3, [.null, .null, .null, .ref q1, .null, .null, .null, .null, .null, .null, .null, .null, .null, .null, .int 0, .int 0, .int 0, .int 0, .int 0])), (q1, .inl (ca .int, 8, .inl (fun _ => 0))), (q2, .inl (ca .int, 8, .inl (fun _ => 0)))] H := hP
  have hD : va_D A [(h0, .inr (3, [.null, .null, .null, .ref q1, .null, .null, .null, .null, .null, .null, .null, .null, .null, .null, .int 0, .int 0, .int 0, .int 0, .int 0])), (q1, .inl (ca .int, 8, .inl (fun _ => 0))), (q2, .inl (ca .int, 8, .inl (fun _ => 0)))] := hD
  refine W.widen (k := 2) (n := 16) (by decide) (by decide) ?_
  refine va_putF (ci := 3) (v := .ref q2) (ty := (.array .int)) (C := RX3) (T := TX3) (N := 19) hx hb hts inN_3 tyX3 tyX3_ok nmX3 hown hK hP hD hS 0 rfl rfl 4 (by decide) (hts _ wn_f3_17) (fun _ h9 => h9) rfl hin rfl (by decide +kernel) rfl rfl (Nat.le_of_ble_eq_true rfl) dX3_init_17 (fun H locs hP hD hS => ?_)
  have hP : va_P D vwCl [(h0, .inr (3, [.null, .null, .null, .ref q1, .ref q2, .null, .null, .null, .null, .null, .null, .null, .null, .null, .int 0, .int 0, .int 0, .int 0, .int 0])), (q1, .inl (ca .int, 8, .inl (fun _ => 0))), (q2, .inl (ca .int, 8, .inl (fun _ => 0)))] H := hP
  have hD : va_D A [(h0, .inr (3, [.null, .null, .null, .ref q1, .ref q2, .null, .null, .null, .null, .null, .null, .null, .null, .null, .int 0, .int 0, .int 0, .int 0, .int 0])), (q1, .inl (ca .int, 8, .inl (fun _ => 0))), (q2, .inl (ca .int, 8, .inl (fun _ => 0)))] := hD
  refine lv_aload_n hx hb dX3_init_20 rfl (lv_at hl 0 rfl) ?_
  refine lv_bipush (v := (6 : Int32)) hx hb dX3_init_21 (by decide) ?_
  refine n_newi (N := 6) hx hb (hts _ wn_a_int) hK hP hD hS hA (by decide) (by decide) (by decide) (by decide) (by decide) dX3_init_23 (fun q3 H hP hD hS => ?_)
  have hP : va_P D vwCl [(h0, .inr (3, [.null, .null, .null, .ref q1, .ref q2, .null, .null, .null, .null, .null, .null, .null, .null, .null, .int 0, .int 0, .int 0, .int 0, .int 0])), (q1, .inl (ca .int, 8, .inl (fun _ => 0))), (q2, .inl (ca .int, 8, .inl (fun _ => 0))), (q3, .inl (ca .int, 6, .inl (fun _ => 0)))] H := hP
  have hD : va_D A [(h0, .inr (3, [.null, .null, .null, .ref q1, .ref q2, .null, .null, .null, .null, .null, .null, .null, .null, .null, .int 0, .int 0, .int 0, .int 0, .int 0])), (q1, .inl (ca .int, 8, .inl (fun _ => 0))), (q2, .inl (ca .int, 8, .inl (fun _ => 0))), (q3, .inl (ca .int, 6, .inl (fun _ => 0)))] := hD
  refine W.widen (k := 3) (n := 22) (by decide) (by decide) ?_
  refine va_putF (ci := 3) (v := .ref q3) (ty := (.array .int)) (C := RX3) (T := TX3) (N := 19) hx hb hts inN_3 tyX3 tyX3_ok nmX3 hown hK hP hD hS 0 rfl rfl 5 (by decide) (hts _ wn_f3_20) (fun _ h9 => h9) rfl hin rfl (by decide +kernel) rfl rfl (Nat.le_of_ble_eq_true rfl) dX3_init_25 (fun H locs hP hD hS => ?_)
  have hP : va_P D vwCl [(h0, .inr (3, [.null, .null, .null, .ref q1, .ref q2, .ref q3, .null, .null, .null, .null, .null, .null, .null, .null, .int 0, .int 0, .int 0, .int 0, .int 0])), (q1, .inl (ca .int, 8, .inl (fun _ => 0))), (q2, .inl (ca .int, 8, .inl (fun _ => 0))), (q3, .inl (ca .int, 6, .inl (fun _ => 0)))] H := hP
  have hD : va_D A [(h0, .inr (3, [.null, .null, .null, .ref q1, .ref q2, .ref q3, .null, .null, .null, .null, .null, .null, .null, .null, .int 0, .int 0, .int 0, .int 0, .int 0])), (q1, .inl (ca .int, 8, .inl (fun _ => 0))), (q2, .inl (ca .int, 8, .inl (fun _ => 0))), (q3, .inl (ca .int, 6, .inl (fun _ => 0)))] := hD
  refine lv_aload_n hx hb dX3_init_28 rfl (lv_at hl 0 rfl) ?_
  refine lv_bipush (v := (6 : Int32)) hx hb dX3_init_29 (by decide) ?_
  refine n_newi (N := 6) hx hb (hts _ wn_a_int) hK hP hD hS hA (by decide) (by decide) (by decide) (by decide) (by decide) dX3_init_31 (fun q4 H hP hD hS => ?_)
  have hP : va_P D vwCl [(h0, .inr (3, [.null, .null, .null, .ref q1, .ref q2, .ref q3, .null, .null, .null, .null, .null, .null, .null, .null, .int 0, .int 0, .int 0, .int 0, .int 0])), (q1, .inl (ca .int, 8, .inl (fun _ => 0))), (q2, .inl (ca .int, 8, .inl (fun _ => 0))), (q3, .inl (ca .int, 6, .inl (fun _ => 0))), (q4, .inl (ca .int, 6, .inl (fun _ => 0)))] H := hP
  have hD : va_D A [(h0, .inr (3, [.null, .null, .null, .ref q1, .ref q2, .ref q3, .null, .null, .null, .null, .null, .null, .null, .null, .int 0, .int 0, .int 0, .int 0, .int 0])), (q1, .inl (ca .int, 8, .inl (fun _ => 0))), (q2, .inl (ca .int, 8, .inl (fun _ => 0))), (q3, .inl (ca .int, 6, .inl (fun _ => 0))), (q4, .inl (ca .int, 6, .inl (fun _ => 0)))] := hD
  refine W.widen (k := 4) (n := 28) (by decide) (by decide) ?_
  refine va_putF (ci := 3) (v := .ref q4) (ty := (.array .int)) (C := RX3) (T := TX3) (N := 19) hx hb hts inN_3 tyX3 tyX3_ok nmX3 hown hK hP hD hS 0 rfl rfl 6 (by decide) (hts _ wn_f3_23) (fun _ h9 => h9) rfl hin rfl (by decide +kernel) rfl rfl (Nat.le_of_ble_eq_true rfl) dX3_init_33 (fun H locs hP hD hS => ?_)
  have hP : va_P D vwCl [(h0, .inr (3, [.null, .null, .null, .ref q1, .ref q2, .ref q3, .ref q4, .null, .null, .null, .null, .null, .null, .null, .int 0, .int 0, .int 0, .int 0, .int 0])), (q1, .inl (ca .int, 8, .inl (fun _ => 0))), (q2, .inl (ca .int, 8, .inl (fun _ => 0))), (q3, .inl (ca .int, 6, .inl (fun _ => 0))), (q4, .inl (ca .int, 6, .inl (fun _ => 0)))] H := hP
  have hD : va_D A [(h0, .inr (3, [.null, .null, .null, .ref q1, .ref q2, .ref q3, .ref q4, .null, .null, .null, .null, .null, .null, .null, .int 0, .int 0, .int 0, .int 0, .int 0])), (q1, .inl (ca .int, 8, .inl (fun _ => 0))), (q2, .inl (ca .int, 8, .inl (fun _ => 0))), (q3, .inl (ca .int, 6, .inl (fun _ => 0))), (q4, .inl (ca .int, 6, .inl (fun _ => 0)))] := hD
  refine lv_aload_n hx hb dX3_init_36 rfl (lv_at hl 0 rfl) ?_
  refine lv_bipush (v := (6 : Int32)) hx hb dX3_init_37 (by decide) ?_
  refine n_newi (N := 6) hx hb (hts _ wn_a_int) hK hP hD hS hA (by decide) (by decide) (by decide) (by decide) (by decide) dX3_init_39 (fun q5 H hP hD hS => ?_)
  have hP : va_P D vwCl [(h0, .inr (3, [.null, .null, .null, .ref q1, .ref q2, .ref q3, .ref q4, .null, .null, .null, .null, .null, .null, .null, .int 0, .int 0, .int 0, .int 0, .int 0])), (q1, .inl (ca .int, 8, .inl (fun _ => 0))), (q2, .inl (ca .int, 8, .inl (fun _ => 0))), (q3, .inl (ca .int, 6, .inl (fun _ => 0))), (q4, .inl (ca .int, 6, .inl (fun _ => 0))), (q5, .inl (ca .int, 6, .inl (fun _ => 0)))] H := hP
  have hD : va_D A [(h0, .inr (3, [.null, .null, .null, .ref q1, .ref q2, .ref q3, .ref q4, .null, .null, .null, .null, .null, .null, .null, .int 0, .int 0, .int 0, .int 0, .int 0])), (q1, .inl (ca .int, 8, .inl (fun _ => 0))), (q2, .inl (ca .int, 8, .inl (fun _ => 0))), (q3, .inl (ca .int, 6, .inl (fun _ => 0))), (q4, .inl (ca .int, 6, .inl (fun _ => 0))), (q5, .inl (ca .int, 6, .inl (fun _ => 0)))] := hD
  refine W.widen (k := 5) (n := 34) (by decide) (by decide) ?_
  refine va_putF (ci := 3) (v := .ref q5) (ty := (.array .int)) (C := RX3) (T := TX3) (N := 19) hx hb hts inN_3 tyX3 tyX3_ok nmX3 hown hK hP hD hS 0 rfl rfl 7 (by decide) (hts _ wn_f3_26) (fun _ h9 => h9) rfl hin rfl (by decide +kernel) rfl rfl (Nat.le_of_ble_eq_true rfl) dX3_init_41 (fun H locs hP hD hS => ?_)
  have hP : va_P D vwCl [(h0, .inr (3, [.null, .null, .null, .ref q1, .ref q2, .ref q3, .ref q4, .ref q5, .null, .null, .null, .null, .null, .null, .int 0, .int 0, .int 0, .int 0, .int 0])), (q1, .inl (ca .int, 8, .inl (fun _ => 0))), (q2, .inl (ca .int, 8, .inl (fun _ => 0))), (q3, .inl (ca .int, 6, .inl (fun _ => 0))), (q4, .inl (ca .int, 6, .inl (fun _ => 0))), (q5, .inl (ca .int, 6, .inl (fun _ => 0)))] H := hP
  have hD : va_D A [(h0, .inr (3, [.null, .null, .null, .ref q1, .ref q2, .ref q3, .ref q4, .ref q5, .null, .null, .null, .null, .null, .null, .int 0, .int 0, .int 0, .int 0, .int 0])), (q1, .inl (ca .int, 8, .inl (fun _ => 0))), (q2, .inl (ca .int, 8, .inl (fun _ => 0))), (q3, .inl (ca .int, 6, .inl (fun _ => 0))), (q4, .inl (ca .int, 6, .inl (fun _ => 0))), (q5, .inl (ca .int, 6, .inl (fun _ => 0)))] := hD
  refine lv_aload_n hx hb dX3_init_44 rfl (lv_at hl 0 rfl) ?_
  refine lv_bipush (v := (6 : Int32)) hx hb dX3_init_45 (by decide) ?_
  refine n_newi (N := 6) hx hb (hts _ wn_a_int) hK hP hD hS hA (by decide) (by decide) (by decide) (by decide) (by decide) dX3_init_47 (fun q6 H hP hD hS => ?_)
  have hP : va_P D vwCl [(h0, .inr (3, [.null, .null, .null, .ref q1, .ref q2, .ref q3, .ref q4, .ref q5, .null, .null, .null, .null, .null, .null, .int 0, .int 0, .int 0, .int 0, .int 0])), (q1, .inl (ca .int, 8, .inl (fun _ => 0))), (q2, .inl (ca .int, 8, .inl (fun _ => 0))), (q3, .inl (ca .int, 6, .inl (fun _ => 0))), (q4, .inl (ca .int, 6, .inl (fun _ => 0))), (q5, .inl (ca .int, 6, .inl (fun _ => 0))), (q6, .inl (ca .int, 6, .inl (fun _ => 0)))] H := hP
  have hD : va_D A [(h0, .inr (3, [.null, .null, .null, .ref q1, .ref q2, .ref q3, .ref q4, .ref q5, .null, .null, .null, .null, .null, .null, .int 0, .int 0, .int 0, .int 0, .int 0])), (q1, .inl (ca .int, 8, .inl (fun _ => 0))), (q2, .inl (ca .int, 8, .inl (fun _ => 0))), (q3, .inl (ca .int, 6, .inl (fun _ => 0))), (q4, .inl (ca .int, 6, .inl (fun _ => 0))), (q5, .inl (ca .int, 6, .inl (fun _ => 0))), (q6, .inl (ca .int, 6, .inl (fun _ => 0)))] := hD
  refine W.widen (k := 6) (n := 40) (by decide) (by decide) ?_
  refine va_putF (ci := 3) (v := .ref q6) (ty := (.array .int)) (C := RX3) (T := TX3) (N := 19) hx hb hts inN_3 tyX3 tyX3_ok nmX3 hown hK hP hD hS 0 rfl rfl 8 (by decide) (hts _ wn_f3_29) (fun _ h9 => h9) rfl hin rfl (by decide +kernel) rfl rfl (Nat.le_of_ble_eq_true rfl) dX3_init_49 (fun H locs hP hD hS => ?_)
  have hP : va_P D vwCl [(h0, .inr (3, [.null, .null, .null, .ref q1, .ref q2, .ref q3, .ref q4, .ref q5, .ref q6, .null, .null, .null, .null, .null, .int 0, .int 0, .int 0, .int 0, .int 0])), (q1, .inl (ca .int, 8, .inl (fun _ => 0))), (q2, .inl (ca .int, 8, .inl (fun _ => 0))), (q3, .inl (ca .int, 6, .inl (fun _ => 0))), (q4, .inl (ca .int, 6, .inl (fun _ => 0))), (q5, .inl (ca .int, 6, .inl (fun _ => 0))), (q6, .inl (ca .int, 6, .inl (fun _ => 0)))] H := hP
  have hD : va_D A [(h0, .inr (3, [.null, .null, .null, .ref q1, .ref q2, .ref q3, .ref q4, .ref q5, .ref q6, .null, .null, .null, .null, .null, .int 0, .int 0, .int 0, .int 0, .int 0])), (q1, .inl (ca .int, 8, .inl (fun _ => 0))), (q2, .inl (ca .int, 8, .inl (fun _ => 0))), (q3, .inl (ca .int, 6, .inl (fun _ => 0))), (q4, .inl (ca .int, 6, .inl (fun _ => 0))), (q5, .inl (ca .int, 6, .inl (fun _ => 0))), (q6, .inl (ca .int, 6, .inl (fun _ => 0)))] := hD
  refine lv_aload_n hx hb dX3_init_52 rfl (lv_at hl 0 rfl) ?_
  refine lv_bipush (v := (6 : Int32)) hx hb dX3_init_53 (by decide) ?_
  refine n_newi (N := 6) hx hb (hts _ wn_a_int) hK hP hD hS hA (by decide) (by decide) (by decide) (by decide) (by decide) dX3_init_55 (fun q7 H hP hD hS => ?_)
  have hP : va_P D vwCl [(h0, .inr (3, [.null, .null, .null, .ref q1, .ref q2, .ref q3, .ref q4, .ref q5, .ref q6, .null, .null, .null, .null, .null, .int 0, .int 0, .int 0, .int 0, .int 0])), (q1, .inl (ca .int, 8, .inl (fun _ => 0))), (q2, .inl (ca .int, 8, .inl (fun _ => 0))), (q3, .inl (ca .int, 6, .inl (fun _ => 0))), (q4, .inl (ca .int, 6, .inl (fun _ => 0))), (q5, .inl (ca .int, 6, .inl (fun _ => 0))), (q6, .inl (ca .int, 6, .inl (fun _ => 0))), (q7, .inl (ca .int, 6, .inl (fun _ => 0)))] H := hP
  have hD : va_D A [(h0, .inr (3, [.null, .null, .null, .ref q1, .ref q2, .ref q3, .ref q4, .ref q5, .ref q6, .null, .null, .null, .null, .null, .int 0, .int 0, .int 0, .int 0, .int 0])), (q1, .inl (ca .int, 8, .inl (fun _ => 0))), (q2, .inl (ca .int, 8, .inl (fun _ => 0))), (q3, .inl (ca .int, 6, .inl (fun _ => 0))), (q4, .inl (ca .int, 6, .inl (fun _ => 0))), (q5, .inl (ca .int, 6, .inl (fun _ => 0))), (q6, .inl (ca .int, 6, .inl (fun _ => 0))), (q7, .inl (ca .int, 6, .inl (fun _ => 0)))] := hD
  refine W.widen (k := 7) (n := 46) (by decide) (by decide) ?_
  refine va_putF (ci := 3) (v := .ref q7) (ty := (.array .int)) (C := RX3) (T := TX3) (N := 19) hx hb hts inN_3 tyX3 tyX3_ok nmX3 hown hK hP hD hS 0 rfl rfl 9 (by decide) (hts _ wn_f3_32) (fun _ h9 => h9) rfl hin rfl (by decide +kernel) rfl rfl (Nat.le_of_ble_eq_true rfl) dX3_init_57 (fun H locs hP hD hS => ?_)
  have hP : va_P D vwCl [(h0, .inr (3, [.null, .null, .null, .ref q1, .ref q2, .ref q3, .ref q4, .ref q5, .ref q6, .ref q7, .null, .null, .null, .null, .int 0, .int 0, .int 0, .int 0, .int 0])), (q1, .inl (ca .int, 8, .inl (fun _ => 0))), (q2, .inl (ca .int, 8, .inl (fun _ => 0))), (q3, .inl (ca .int, 6, .inl (fun _ => 0))), (q4, .inl (ca .int, 6, .inl (fun _ => 0))), (q5, .inl (ca .int, 6, .inl (fun _ => 0))), (q6, .inl (ca .int, 6, .inl (fun _ => 0))), (q7, .inl (ca .int, 6, .inl (fun _ => 0)))] H := hP
  have hD : va_D A [(h0, .inr (3, [.null, .null, .null, .ref q1, .ref q2, .ref q3, .ref q4, .ref q5, .ref q6, .ref q7, .null, .null, .null, .null, .int 0, .int 0, .int 0, .int 0, .int 0])), (q1, .inl (ca .int, 8, .inl (fun _ => 0))), (q2, .inl (ca .int, 8, .inl (fun _ => 0))), (q3, .inl (ca .int, 6, .inl (fun _ => 0))), (q4, .inl (ca .int, 6, .inl (fun _ => 0))), (q5, .inl (ca .int, 6, .inl (fun _ => 0))), (q6, .inl (ca .int, 6, .inl (fun _ => 0))), (q7, .inl (ca .int, 6, .inl (fun _ => 0)))] := hD
  refine lv_aload_n hx hb dX3_init_60 rfl (lv_at hl 0 rfl) ?_
  refine lv_bipush (v := (6 : Int32)) hx hb dX3_init_61 (by decide) ?_
  refine n_newi (N := 6) hx hb (hts _ wn_a_int) hK hP hD hS hA (by decide) (by decide) (by decide) (by decide) (by decide) dX3_init_63 (fun q8 H hP hD hS => ?_)
  have hP : va_P D vwCl [(h0, .inr (3, [.null, .null, .null, .ref q1, .ref q2, .ref q3, .ref q4, .ref q5, .ref q6, .ref q7, .null, .null, .null, .null, .int 0, .int 0, .int 0, .int 0, .int 0])), (q1, .inl (ca .int, 8, .inl (fun _ => 0))), (q2, .inl (ca .int, 8, .inl (fun _ => 0))), (q3, .inl (ca .int, 6, .inl (fun _ => 0))), (q4, .inl (ca .int, 6, .inl (fun _ => 0))), (q5, .inl (ca .int, 6, .inl (fun _ => 0))), (q6, .inl (ca .int, 6, .inl (fun _ => 0))), (q7, .inl (ca .int, 6, .inl (fun _ => 0))), (q8, .inl (ca .int, 6, .inl (fun _ => 0)))] H := hP
  have hD : va_D A [(h0, .inr (3, [.null, .null, .null, .ref q1, .ref q2, .ref q3, .ref q4, .ref q5, .ref q6, .ref q7, .null, .null, .null, .null, .int 0, .int 0, .int 0, .int 0, .int 0])), (q1, .inl (ca .int, 8, .inl (fun _ => 0))), (q2, .inl (ca .int, 8, .inl (fun _ => 0))), (q3, .inl (ca .int, 6, .inl (fun _ => 0))), (q4, .inl (ca .int, 6, .inl (fun _ => 0))), (q5, .inl (ca .int, 6, .inl (fun _ => 0))), (q6, .inl (ca .int, 6, .inl (fun _ => 0))), (q7, .inl (ca .int, 6, .inl (fun _ => 0))), (q8, .inl (ca .int, 6, .inl (fun _ => 0)))] := hD
  refine W.widen (k := 8) (n := 52) (by decide) (by decide) ?_
  refine va_putF (ci := 3) (v := .ref q8) (ty := (.array .int)) (C := RX3) (T := TX3) (N := 19) hx hb hts inN_3 tyX3 tyX3_ok nmX3 hown hK hP hD hS 0 rfl rfl 10 (by decide) (hts _ wn_f3_35) (fun _ h9 => h9) rfl hin rfl (by decide +kernel) rfl rfl (Nat.le_of_ble_eq_true rfl) dX3_init_65 (fun H locs hP hD hS => ?_)
  have hP : va_P D vwCl [(h0, .inr (3, [.null, .null, .null, .ref q1, .ref q2, .ref q3, .ref q4, .ref q5, .ref q6, .ref q7, .ref q8, .null, .null, .null, .int 0, .int 0, .int 0, .int 0, .int 0])), (q1, .inl (ca .int, 8, .inl (fun _ => 0))), (q2, .inl (ca .int, 8, .inl (fun _ => 0))), (q3, .inl (ca .int, 6, .inl (fun _ => 0))), (q4, .inl (ca .int, 6, .inl (fun _ => 0))), (q5, .inl (ca .int, 6, .inl (fun _ => 0))), (q6, .inl (ca .int, 6, .inl (fun _ => 0))), (q7, .inl (ca .int, 6, .inl (fun _ => 0))), (q8, .inl (ca .int, 6, .inl (fun _ => 0)))] H := hP
  have hD : va_D A [(h0, .inr (3, [.null, .null, .null, .ref q1, .ref q2, .ref q3, .ref q4, .ref q5, .ref q6, .ref q7, .ref q8, .null, .null, .null, .int 0, .int 0, .int 0, .int 0, .int 0])), (q1, .inl (ca .int, 8, .inl (fun _ => 0))), (q2, .inl (ca .int, 8, .inl (fun _ => 0))), (q3, .inl (ca .int, 6, .inl (fun _ => 0))), (q4, .inl (ca .int, 6, .inl (fun _ => 0))), (q5, .inl (ca .int, 6, .inl (fun _ => 0))), (q6, .inl (ca .int, 6, .inl (fun _ => 0))), (q7, .inl (ca .int, 6, .inl (fun _ => 0))), (q8, .inl (ca .int, 6, .inl (fun _ => 0)))] := hD
  refine lv_aload_n hx hb dX3_init_68 rfl (lv_at hl 0 rfl) ?_
  refine lv_bipush (v := (6 : Int32)) hx hb dX3_init_69 (by decide) ?_
  refine n_newi (N := 6) hx hb (hts _ wn_a_int) hK hP hD hS hA (by decide) (by decide) (by decide) (by decide) (by decide) dX3_init_71 (fun q9 H hP hD hS => ?_)
  have hP : va_P D vwCl [(h0, .inr (3, [.null, .null, .null, .ref q1, .ref q2, .ref q3, .ref q4, .ref q5, .ref q6, .ref q7, .ref q8, .null, .null, .null, .int 0, .int 0, .int 0, .int 0, .int 0])), (q1, .inl (ca .int, 8, .inl (fun _ => 0))), (q2, .inl (ca .int, 8, .inl (fun _ => 0))), (q3, .inl (ca .int, 6, .inl (fun _ => 0))), (q4, .inl (ca .int, 6, .inl (fun _ => 0))), (q5, .inl (ca .int, 6, .inl (fun _ => 0))), (q6, .inl (ca .int, 6, .inl (fun _ => 0))), (q7, .inl (ca .int, 6, .inl (fun _ => 0))), (q8, .inl (ca .int, 6, .inl (fun _ => 0))), (q9, .inl (ca .int, 6, .inl (fun _ => 0)))] H := hP
  have hD : va_D A [(h0, .inr (3, [.null, .null, .null, .ref q1, .ref q2, .ref q3, .ref q4, .ref q5, .ref q6, .ref q7, .ref q8, .null, .null, .null, .int 0, .int 0, .int 0, .int 0, .int 0])), (q1, .inl (ca .int, 8, .inl (fun _ => 0))), (q2, .inl (ca .int, 8, .inl (fun _ => 0))), (q3, .inl (ca .int, 6, .inl (fun _ => 0))), (q4, .inl (ca .int, 6, .inl (fun _ => 0))), (q5, .inl (ca .int, 6, .inl (fun _ => 0))), (q6, .inl (ca .int, 6, .inl (fun _ => 0))), (q7, .inl (ca .int, 6, .inl (fun _ => 0))), (q8, .inl (ca .int, 6, .inl (fun _ => 0))), (q9, .inl (ca .int, 6, .inl (fun _ => 0)))] := hD
  refine W.widen (k := 9) (n := 58) (by decide) (by decide) ?_
  refine va_putF (ci := 3) (v := .ref q9) (ty := (.array .int)) (C := RX3) (T := TX3) (N := 19) hx hb hts inN_3 tyX3 tyX3_ok nmX3 hown hK hP hD hS 0 rfl rfl 11 (by decide) (hts _ wn_f3_38) (fun _ h9 => h9) rfl hin rfl (by decide +kernel) rfl rfl (Nat.le_of_ble_eq_true rfl) dX3_init_73 (fun H locs hP hD hS => ?_)
  have hP : va_P D vwCl [(h0, .inr (3, [.null, .null, .null, .ref q1, .ref q2, .ref q3, .ref q4, .ref q5, .ref q6, .ref q7, .ref q8, .ref q9, .null, .null, .int 0, .int 0, .int 0, .int 0, .int 0])), (q1, .inl (ca .int, 8, .inl (fun _ => 0))), (q2, .inl (ca .int, 8, .inl (fun _ => 0))), (q3, .inl (ca .int, 6, .inl (fun _ => 0))), (q4, .inl (ca .int, 6, .inl (fun _ => 0))), (q5, .inl (ca .int, 6, .inl (fun _ => 0))), (q6, .inl (ca .int, 6, .inl (fun _ => 0))), (q7, .inl (ca .int, 6, .inl (fun _ => 0))), (q8, .inl (ca .int, 6, .inl (fun _ => 0))), (q9, .inl (ca .int, 6, .inl (fun _ => 0)))] H := hP
  have hD : va_D A [(h0, .inr (3, [.null, .null, .null, .ref q1, .ref q2, .ref q3, .ref q4, .ref q5, .ref q6, .ref q7, .ref q8, .ref q9, .null, .null, .int 0, .int 0, .int 0, .int 0, .int 0])), (q1, .inl (ca .int, 8, .inl (fun _ => 0))), (q2, .inl (ca .int, 8, .inl (fun _ => 0))), (q3, .inl (ca .int, 6, .inl (fun _ => 0))), (q4, .inl (ca .int, 6, .inl (fun _ => 0))), (q5, .inl (ca .int, 6, .inl (fun _ => 0))), (q6, .inl (ca .int, 6, .inl (fun _ => 0))), (q7, .inl (ca .int, 6, .inl (fun _ => 0))), (q8, .inl (ca .int, 6, .inl (fun _ => 0))), (q9, .inl (ca .int, 6, .inl (fun _ => 0)))] := hD
  refine lv_aload_n hx hb dX3_init_76 rfl (lv_at hl 0 rfl) ?_
  refine lv_bipush (v := (6 : Int32)) hx hb dX3_init_77 (by decide) ?_
  refine n_newi (N := 6) hx hb (hts _ wn_a_int) hK hP hD hS hA (by decide) (by decide) (by decide) (by decide) (by decide) dX3_init_79 (fun q10 H hP hD hS => ?_)
  have hP : va_P D vwCl [(h0, .inr (3, [.null, .null, .null, .ref q1, .ref q2, .ref q3, .ref q4, .ref q5, .ref q6, .ref q7, .ref q8, .ref q9, .null, .null, .int 0, .int 0, .int 0, .int 0, .int 0])), (q1, .inl (ca .int, 8, .inl (fun _ => 0))), (q2, .inl (ca .int, 8, .inl (fun _ => 0))), (q3, .inl (ca .int, 6, .inl (fun _ => 0))), (q4, .inl (ca .int, 6, .inl (fun _ => 0))), (q5, .inl (ca .int, 6, .inl (fun _ => 0))), (q6, .inl (ca .int, 6, .inl (fun _ => 0))), (q7, .inl (ca .int, 6, .inl (fun _ => 0))), (q8, .inl (ca .int, 6, .inl (fun _ => 0))), (q9, .inl (ca .int, 6, .inl (fun _ => 0))), (q10, .inl (ca .int, 6, .inl (fun _ => 0)))] H := hP
  have hD : va_D A [(h0, .inr (3, [.null, .null, .null, .ref q1, .ref q2, .ref q3, .ref q4, .ref q5, .ref q6, .ref q7, .ref q8, .ref q9, .null, .null, .int 0, .int 0, .int 0, .int 0, .int 0])), (q1, .inl (ca .int, 8, .inl (fun _ => 0))), (q2, .inl (ca .int, 8, .inl (fun _ => 0))), (q3, .inl (ca .int, 6, .inl (fun _ => 0))), (q4, .inl (ca .int, 6, .inl (fun _ => 0))), (q5, .inl (ca .int, 6, .inl (fun _ => 0))), (q6, .inl (ca .int, 6, .inl (fun _ => 0))), (q7, .inl (ca .int, 6, .inl (fun _ => 0))), (q8, .inl (ca .int, 6, .inl (fun _ => 0))), (q9, .inl (ca .int, 6, .inl (fun _ => 0))), (q10, .inl (ca .int, 6, .inl (fun _ => 0)))] := hD
  refine W.widen (k := 10) (n := 64) (by decide) (by decide) ?_
  refine va_putF (ci := 3) (v := .ref q10) (ty := (.array .int)) (C := RX3) (T := TX3) (N := 19) hx hb hts inN_3 tyX3 tyX3_ok nmX3 hown hK hP hD hS 0 rfl rfl 12 (by decide) (hts _ wn_f3_41) (fun _ h9 => h9) rfl hin rfl (by decide +kernel) rfl rfl (Nat.le_of_ble_eq_true rfl) dX3_init_81 (fun H locs hP hD hS => ?_)
  have hP : va_P D vwCl [(h0, .inr (3, [.null, .null, .null, .ref q1, .ref q2, .ref q3, .ref q4, .ref q5, .ref q6, .ref q7, .ref q8, .ref q9, .ref q10, .null, .int 0, .int 0, .int 0, .int 0, .int 0])), (q1, .inl (ca .int, 8, .inl (fun _ => 0))), (q2, .inl (ca .int, 8, .inl (fun _ => 0))), (q3, .inl (ca .int, 6, .inl (fun _ => 0))), (q4, .inl (ca .int, 6, .inl (fun _ => 0))), (q5, .inl (ca .int, 6, .inl (fun _ => 0))), (q6, .inl (ca .int, 6, .inl (fun _ => 0))), (q7, .inl (ca .int, 6, .inl (fun _ => 0))), (q8, .inl (ca .int, 6, .inl (fun _ => 0))), (q9, .inl (ca .int, 6, .inl (fun _ => 0))), (q10, .inl (ca .int, 6, .inl (fun _ => 0)))] H := hP
  have hD : va_D A [(h0, .inr (3, [.null, .null, .null, .ref q1, .ref q2, .ref q3, .ref q4, .ref q5, .ref q6, .ref q7, .ref q8, .ref q9, .ref q10, .null, .int 0, .int 0, .int 0, .int 0, .int 0])), (q1, .inl (ca .int, 8, .inl (fun _ => 0))), (q2, .inl (ca .int, 8, .inl (fun _ => 0))), (q3, .inl (ca .int, 6, .inl (fun _ => 0))), (q4, .inl (ca .int, 6, .inl (fun _ => 0))), (q5, .inl (ca .int, 6, .inl (fun _ => 0))), (q6, .inl (ca .int, 6, .inl (fun _ => 0))), (q7, .inl (ca .int, 6, .inl (fun _ => 0))), (q8, .inl (ca .int, 6, .inl (fun _ => 0))), (q9, .inl (ca .int, 6, .inl (fun _ => 0))), (q10, .inl (ca .int, 6, .inl (fun _ => 0)))] := hD
  refine lv_aload_n hx hb dX3_init_84 rfl (lv_at hl 0 rfl) ?_
  refine lv_bipush (v := (6 : Int32)) hx hb dX3_init_85 (by decide) ?_
  refine n_newi (N := 6) hx hb (hts _ wn_a_int) hK hP hD hS hA (by decide) (by decide) (by decide) (by decide) (by decide) dX3_init_87 (fun q11 H hP hD hS => ?_)
  have hP : va_P D vwCl [(h0, .inr (3, [.null, .null, .null, .ref q1, .ref q2, .ref q3, .ref q4, .ref q5, .ref q6, .ref q7, .ref q8, .ref q9, .ref q10, .null, .int 0, .int 0, .int 0, .int 0, .int 0])), (q1, .inl (ca .int, 8, .inl (fun _ => 0))), (q2, .inl (ca .int, 8, .inl (fun _ => 0))), (q3, .inl (ca .int, 6, .inl (fun _ => 0))), (q4, .inl (ca .int, 6, .inl (fun _ => 0))), (q5, .inl (ca .int, 6, .inl (fun _ => 0))), (q6, .inl (ca .int, 6, .inl (fun _ => 0))), (q7, .inl (ca .int, 6, .inl (fun _ => 0))), (q8, .inl (ca .int, 6, .inl (fun _ => 0))), (q9, .inl (ca .int, 6, .inl (fun _ => 0))), (q10, .inl (ca .int, 6, .inl (fun _ => 0))), (q11, .inl (ca .int, 6, .inl (fun _ => 0)))] H := hP
  have hD : va_D A [(h0, .inr (3, [.null, .null, .null, .ref q1, .ref q2, .ref q3, .ref q4, .ref q5, .ref q6, .ref q7, .ref q8, .ref q9, .ref q10, .null, .int 0, .int 0, .int 0, .int 0, .int 0])), (q1, .inl (ca .int, 8, .inl (fun _ => 0))), (q2, .inl (ca .int, 8, .inl (fun _ => 0))), (q3, .inl (ca .int, 6, .inl (fun _ => 0))), (q4, .inl (ca .int, 6, .inl (fun _ => 0))), (q5, .inl (ca .int, 6, .inl (fun _ => 0))), (q6, .inl (ca .int, 6, .inl (fun _ => 0))), (q7, .inl (ca .int, 6, .inl (fun _ => 0))), (q8, .inl (ca .int, 6, .inl (fun _ => 0))), (q9, .inl (ca .int, 6, .inl (fun _ => 0))), (q10, .inl (ca .int, 6, .inl (fun _ => 0))), (q11, .inl (ca .int, 6, .inl (fun _ => 0)))] := hD
  refine W.widen (k := 11) (n := 70) (by decide) (by decide) ?_
  refine va_putF (ci := 3) (v := .ref q11) (ty := (.array .int)) (C := RX3) (T := TX3) (N := 19) hx hb hts inN_3 tyX3 tyX3_ok nmX3 hown hK hP hD hS 0 rfl rfl 13 (by decide) (hts _ wn_f3_44) (fun _ h9 => h9) rfl hin rfl (by decide +kernel) rfl rfl (Nat.le_of_ble_eq_true rfl) dX3_init_89 (fun H locs hP hD hS => ?_)
  have hP : va_P D vwCl [(h0, .inr (3, [.null, .null, .null, .ref q1, .ref q2, .ref q3, .ref q4, .ref q5, .ref q6, .ref q7, .ref q8, .ref q9, .ref q10, .ref q11, .int 0, .int 0, .int 0, .int 0, .int 0])), (q1, .inl (ca .int, 8, .inl (fun _ => 0))), (q2, .inl (ca .int, 8, .inl (fun _ => 0))), (q3, .inl (ca .int, 6, .inl (fun _ => 0))), (q4, .inl (ca .int, 6, .inl (fun _ => 0))), (q5, .inl (ca .int, 6, .inl (fun _ => 0))), (q6, .inl (ca .int, 6, .inl (fun _ => 0))), (q7, .inl (ca .int, 6, .inl (fun _ => 0))), (q8, .inl (ca .int, 6, .inl (fun _ => 0))), (q9, .inl (ca .int, 6, .inl (fun _ => 0))), (q10, .inl (ca .int, 6, .inl (fun _ => 0))), (q11, .inl (ca .int, 6, .inl (fun _ => 0)))] H := hP
  have hD : va_D A [(h0, .inr (3, [.null, .null, .null, .ref q1, .ref q2, .ref q3, .ref q4, .ref q5, .ref q6, .ref q7, .ref q8, .ref q9, .ref q10, .ref q11, .int 0, .int 0, .int 0, .int 0, .int 0])), (q1, .inl (ca .int, 8, .inl (fun _ => 0))), (q2, .inl (ca .int, 8, .inl (fun _ => 0))), (q3, .inl (ca .int, 6, .inl (fun _ => 0))), (q4, .inl (ca .int, 6, .inl (fun _ => 0))), (q5, .inl (ca .int, 6, .inl (fun _ => 0))), (q6, .inl (ca .int, 6, .inl (fun _ => 0))), (q7, .inl (ca .int, 6, .inl (fun _ => 0))), (q8, .inl (ca .int, 6, .inl (fun _ => 0))), (q9, .inl (ca .int, 6, .inl (fun _ => 0))), (q10, .inl (ca .int, 6, .inl (fun _ => 0))), (q11, .inl (ca .int, 6, .inl (fun _ => 0)))] := hD
  refine lv_aload_n hx hb dX3_init_92 rfl (lv_at hl 0 rfl) ?_
  refine lv_aload_n hx hb dX3_init_93 rfl (lv_at hl 1 rfl) ?_
  refine va_putF (ci := 3) (v := .ref r1) (ty := (.object "BalloonsMoor$Tower")) (C := RX3) (T := TX3) (N := 19) hx hb hts inN_3 tyX3 tyX3_ok nmX3 hown hK hP hD hS 0 rfl rfl 0 (by decide) (hts _ wn_f3_47) (fun _ h9 => h9) rfl hin rfl (by decide +kernel) rfl rfl (Nat.le_of_ble_eq_true rfl) dX3_init_94 (fun H locs hP hD hS => ?_)
  have hP : va_P D vwCl [(h0, .inr (3, [.ref r1, .null, .null, .ref q1, .ref q2, .ref q3, .ref q4, .ref q5, .ref q6, .ref q7, .ref q8, .ref q9, .ref q10, .ref q11, .int 0, .int 0, .int 0, .int 0, .int 0])), (q1, .inl (ca .int, 8, .inl (fun _ => 0))), (q2, .inl (ca .int, 8, .inl (fun _ => 0))), (q3, .inl (ca .int, 6, .inl (fun _ => 0))), (q4, .inl (ca .int, 6, .inl (fun _ => 0))), (q5, .inl (ca .int, 6, .inl (fun _ => 0))), (q6, .inl (ca .int, 6, .inl (fun _ => 0))), (q7, .inl (ca .int, 6, .inl (fun _ => 0))), (q8, .inl (ca .int, 6, .inl (fun _ => 0))), (q9, .inl (ca .int, 6, .inl (fun _ => 0))), (q10, .inl (ca .int, 6, .inl (fun _ => 0))), (q11, .inl (ca .int, 6, .inl (fun _ => 0)))] H := hP
  have hD : va_D A [(h0, .inr (3, [.ref r1, .null, .null, .ref q1, .ref q2, .ref q3, .ref q4, .ref q5, .ref q6, .ref q7, .ref q8, .ref q9, .ref q10, .ref q11, .int 0, .int 0, .int 0, .int 0, .int 0])), (q1, .inl (ca .int, 8, .inl (fun _ => 0))), (q2, .inl (ca .int, 8, .inl (fun _ => 0))), (q3, .inl (ca .int, 6, .inl (fun _ => 0))), (q4, .inl (ca .int, 6, .inl (fun _ => 0))), (q5, .inl (ca .int, 6, .inl (fun _ => 0))), (q6, .inl (ca .int, 6, .inl (fun _ => 0))), (q7, .inl (ca .int, 6, .inl (fun _ => 0))), (q8, .inl (ca .int, 6, .inl (fun _ => 0))), (q9, .inl (ca .int, 6, .inl (fun _ => 0))), (q10, .inl (ca .int, 6, .inl (fun _ => 0))), (q11, .inl (ca .int, 6, .inl (fun _ => 0)))] := hD
  refine lv_aload_n hx hb dX3_init_97 rfl (lv_at hl 0 rfl) ?_
  refine lv_aload_n hx hb dX3_init_98 rfl (lv_at hl 2 rfl) ?_
  refine va_putF (ci := 3) (v := .ref r2) (ty := (.object "BalloonsMoor$Winds")) (C := RX3) (T := TX3) (N := 19) hx hb hts inN_3 tyX3 tyX3_ok nmX3 hown hK hP hD hS 0 rfl rfl 1 (by decide) (hts _ wn_f3_51) (fun _ h9 => h9) rfl hin rfl (by decide +kernel) rfl rfl (Nat.le_of_ble_eq_true rfl) dX3_init_99 (fun H locs hP hD hS => ?_)
  have hP : va_P D vwCl [(h0, .inr (3, [.ref r1, .ref r2, .null, .ref q1, .ref q2, .ref q3, .ref q4, .ref q5, .ref q6, .ref q7, .ref q8, .ref q9, .ref q10, .ref q11, .int 0, .int 0, .int 0, .int 0, .int 0])), (q1, .inl (ca .int, 8, .inl (fun _ => 0))), (q2, .inl (ca .int, 8, .inl (fun _ => 0))), (q3, .inl (ca .int, 6, .inl (fun _ => 0))), (q4, .inl (ca .int, 6, .inl (fun _ => 0))), (q5, .inl (ca .int, 6, .inl (fun _ => 0))), (q6, .inl (ca .int, 6, .inl (fun _ => 0))), (q7, .inl (ca .int, 6, .inl (fun _ => 0))), (q8, .inl (ca .int, 6, .inl (fun _ => 0))), (q9, .inl (ca .int, 6, .inl (fun _ => 0))), (q10, .inl (ca .int, 6, .inl (fun _ => 0))), (q11, .inl (ca .int, 6, .inl (fun _ => 0)))] H := hP
  have hD : va_D A [(h0, .inr (3, [.ref r1, .ref r2, .null, .ref q1, .ref q2, .ref q3, .ref q4, .ref q5, .ref q6, .ref q7, .ref q8, .ref q9, .ref q10, .ref q11, .int 0, .int 0, .int 0, .int 0, .int 0])), (q1, .inl (ca .int, 8, .inl (fun _ => 0))), (q2, .inl (ca .int, 8, .inl (fun _ => 0))), (q3, .inl (ca .int, 6, .inl (fun _ => 0))), (q4, .inl (ca .int, 6, .inl (fun _ => 0))), (q5, .inl (ca .int, 6, .inl (fun _ => 0))), (q6, .inl (ca .int, 6, .inl (fun _ => 0))), (q7, .inl (ca .int, 6, .inl (fun _ => 0))), (q8, .inl (ca .int, 6, .inl (fun _ => 0))), (q9, .inl (ca .int, 6, .inl (fun _ => 0))), (q10, .inl (ca .int, 6, .inl (fun _ => 0))), (q11, .inl (ca .int, 6, .inl (fun _ => 0)))] := hD
  refine lv_aload_n hx hb dX3_init_102 rfl (lv_at hl 0 rfl) ?_
  refine lv_aload_n hx hb dX3_init_103 rfl (lv_at hl 3 rfl) ?_
  refine va_putF (ci := 3) (v := .ref r3) (ty := (.object "BalloonsMoor$Rule")) (C := RX3) (T := TX3) (N := 19) hx hb hts inN_3 tyX3 tyX3_ok nmX3 hown hK hP hD hS 0 rfl rfl 2 (by decide) (hts _ wn_f3_55) (fun _ h9 => h9) rfl hin rfl (by decide +kernel) rfl rfl (Nat.le_of_ble_eq_true rfl) dX3_init_104 (fun H locs hP hD hS => ?_)
  have hP : va_P D vwCl [(h0, .inr (3, [.ref r1, .ref r2, .ref r3, .ref q1, .ref q2, .ref q3, .ref q4, .ref q5, .ref q6, .ref q7, .ref q8, .ref q9, .ref q10, .ref q11, .int 0, .int 0, .int 0, .int 0, .int 0])), (q1, .inl (ca .int, 8, .inl (fun _ => 0))), (q2, .inl (ca .int, 8, .inl (fun _ => 0))), (q3, .inl (ca .int, 6, .inl (fun _ => 0))), (q4, .inl (ca .int, 6, .inl (fun _ => 0))), (q5, .inl (ca .int, 6, .inl (fun _ => 0))), (q6, .inl (ca .int, 6, .inl (fun _ => 0))), (q7, .inl (ca .int, 6, .inl (fun _ => 0))), (q8, .inl (ca .int, 6, .inl (fun _ => 0))), (q9, .inl (ca .int, 6, .inl (fun _ => 0))), (q10, .inl (ca .int, 6, .inl (fun _ => 0))), (q11, .inl (ca .int, 6, .inl (fun _ => 0)))] H := hP
  have hD : va_D A [(h0, .inr (3, [.ref r1, .ref r2, .ref r3, .ref q1, .ref q2, .ref q3, .ref q4, .ref q5, .ref q6, .ref q7, .ref q8, .ref q9, .ref q10, .ref q11, .int 0, .int 0, .int 0, .int 0, .int 0])), (q1, .inl (ca .int, 8, .inl (fun _ => 0))), (q2, .inl (ca .int, 8, .inl (fun _ => 0))), (q3, .inl (ca .int, 6, .inl (fun _ => 0))), (q4, .inl (ca .int, 6, .inl (fun _ => 0))), (q5, .inl (ca .int, 6, .inl (fun _ => 0))), (q6, .inl (ca .int, 6, .inl (fun _ => 0))), (q7, .inl (ca .int, 6, .inl (fun _ => 0))), (q8, .inl (ca .int, 6, .inl (fun _ => 0))), (q9, .inl (ca .int, 6, .inl (fun _ => 0))), (q10, .inl (ca .int, 6, .inl (fun _ => 0))), (q11, .inl (ca .int, 6, .inl (fun _ => 0)))] := hD
  have hP9 := hP.sub (ws' := [(h0, .inr (3, [.ref r1, .ref r2, .ref r3, .ref q1, .ref q2, .ref q3, .ref q4, .ref q5, .ref q6, .ref q7, .ref q8, .ref q9, .ref q10, .ref q11, .int 0, .int 0, .int 0, .int 0, .int 0])), (q1, .inl (ca .int, 8, .inl (fun _ => 0))), (q2, .inl (ca .int, 8, .inl (fun _ => 0))), (q3, .inl (ca .int, 6, .inl (fun _ => 0))), (q4, .inl (ca .int, 6, .inl (fun _ => 0))), (q5, .inl (ca .int, 6, .inl (fun _ => 0))), (q6, .inl (ca .int, 6, .inl (fun _ => 0))), (q7, .inl (ca .int, 6, .inl (fun _ => 0))), (q8, .inl (ca .int, 6, .inl (fun _ => 0))), (q9, .inl (ca .int, 6, .inl (fun _ => 0))), (q10, .inl (ca .int, 6, .inl (fun _ => 0))), (q11, .inl (ca .int, 6, .inl (fun _ => 0)))]) [0, 1, 2, 3, 4, 5, 6, 7, 8, 9, 10, 11] rfl
  have hD9 := hD.sub (ws' := [(h0, .inr (3, [.ref r1, .ref r2, .ref r3, .ref q1, .ref q2, .ref q3, .ref q4, .ref q5, .ref q6, .ref q7, .ref q8, .ref q9, .ref q10, .ref q11, .int 0, .int 0, .int 0, .int 0, .int 0])), (q1, .inl (ca .int, 8, .inl (fun _ => 0))), (q2, .inl (ca .int, 8, .inl (fun _ => 0))), (q3, .inl (ca .int, 6, .inl (fun _ => 0))), (q4, .inl (ca .int, 6, .inl (fun _ => 0))), (q5, .inl (ca .int, 6, .inl (fun _ => 0))), (q6, .inl (ca .int, 6, .inl (fun _ => 0))), (q7, .inl (ca .int, 6, .inl (fun _ => 0))), (q8, .inl (ca .int, 6, .inl (fun _ => 0))), (q9, .inl (ca .int, 6, .inl (fun _ => 0))), (q10, .inl (ca .int, 6, .inl (fun _ => 0))), (q11, .inl (ca .int, 6, .inl (fun _ => 0)))]) [0, 1, 2, 3, 4, 5, 6, 7, 8, 9, 10, 11] (by decide) rfl
  exact W.vret hx hb hr (fun t ht hW => ⟨⟨(), rfl, trivial, q1, q2, q3, q4, q5, q6, q7, q8, q9, q10, q11, by rw [ht]; exact hP9, hD9⟩, hS.F ht⟩) hS.2.2 dX3_init_107
theorem wn_ol6 : Cond.methodLink RX6 3 objectInit ∈ zTB := zch_1 _ (List.mem_of_getElem? (i := 231) (by decide +kernel)) rfl
theorem wn_f6_13 : Cond.fieldLink RX6 13 "BalloonsMoor$Past" "ahead" "[I" ∈ zTB := zch_1 _ (List.mem_of_getElem? (i := 232) (by decide +kernel)) rfl
theorem wn_f6_17 : Cond.fieldLink RX6 17 "BalloonsMoor$Past" "stored" "[I" ∈ zTB := zch_1 _ (List.mem_of_getElem? (i := 233) (by decide +kernel)) rfl
theorem wn_f6_20 : Cond.fieldLink RX6 20 "BalloonsMoor$Past" "isStored" "[Z" ∈ zTB := zch_1 _ (List.mem_of_getElem? (i := 234) (by decide +kernel)) rfl
set_option maxHeartbeats 4000000 in
set_option maxRecDepth 100000 in
theorem nC_6 (l : Launch) (D : va_G) (ca : FieldType → ClassId) (h0 sz : Nat) : Met l yX6_init (zws yX6_init cX6_init 1 none) (nrm 2 3 820) (va_Pc [.ref h0] (fun U => U.heap.size = sz ∧ va_P D vwCl [(h0, .inr (6, [.null, .null, .null, .int 0, .int 0]))] U.heap ∧ va_K D vwCl (zT ca) U ∧ va_D (fun _ => True) [(h0, .inr (6, [.null, .null, .null, .int 0, .int 0]))])) (va_Qv (fun _ : Unit => True) (fun _ t => ∃ q1 q2 q3 : Nat, va_P D vwCl [(h0, .inr (6, [.ref q1, .ref q2, .ref q3, .int 0, .int 0])), (q1, .inl (ca .int, 688, .inl (fun _ => 0))), (q2, .inl (ca .int, 129, .inl (fun _ => 0))), (q3, .inl (ca .boolean, 3, .inl (fun _ => 0)))] t.heap ∧ va_D (va_A [(h0, .inr (6, [.null, .null, .null, .int 0, .int 0]))] sz) [(h0, .inr (6, [.ref q1, .ref q2, .ref q3, .int 0, .int 0])), (q1, .inl (ca .int, 688, .inl (fun _ => 0))), (q2, .inl (ca .int, 129, .inl (fun _ => 0))), (q3, .inl (ca .boolean, 3, .inl (fun _ => 0)))]) (va_A [(h0, .inr (6, [.null, .null, .null, .int 0, .int 0]))] sz)) 3 820 (va_A [(h0, .inr (6, [.null, .null, .null, .int 0, .int 0]))] sz) := by
  refine Met.ofW (cc := cX6_init) (maxL := 1) (ret := none) (by decide) rfl ?_
  intro p e s m args below meth c s₁ B hml hv
  obtain ⟨rfl, hsz, hP, hK, hD0⟩ := hv
  have hx := B.exec
  have hb := B.bytes
  have hr := B.returns
  have hts0 := atoms_spec (ws := zws yX6_init cX6_init 1 none) B.pre
  have hts : ∀ w ∈ zTB, w.before [.ref h0].toArray s = true := fun w hw => hts0 w (List.mem_cons_of_mem _ hw)
  have hown : s.vm.findClass RX6 = some m.cls := findClass_of_methodNamed B.named
  have hlocks := B.notSynchronized
  have hin : meth.name = "<init>" := (name_of_methodNamed B.named B.method).1
  subst hsz
  have hD := hD0.self (sz := s.heap.size)
  generalize hAe : va_A [(h0, .inr (6, [.null, .null, .null, .int 0, .int 0]))] s.heap.size = A at hD ⊢
  have hA : ∀ q : Nat, s.heap.size ≤ q → A q := fun q h => by rw [← hAe]; exact Or.inr h
  have hS : va_S A s.heap s.heap [] := va_S.rf
  have hl := lv_entry [.ref h0] (n := 1) (Nat.le_of_ble_eq_true rfl)
  rw [lg_entry_eq]
  generalize (lg_sl [.ref h0] ++ List.replicate (1 - (lg_sl [.ref h0]).length) Slot.unset).toArray = ls at hl ⊢
  have hl : lv_has ls 1 [(0, .ref h0)] := hl
  refine lv_aload_n hx hb dX6_init_0 rfl (lv_at hl 0 rfl) ?_
  refine W.objInit hx hb hown (hts _ wn_ol6) (hts _ wn_oi) (hts _ wn_oc) rfl (by rw [hml]; exact hl.1) rfl dX6_init_1 (Nat.le_of_ble_eq_true rfl) (Nat.le_of_ble_eq_true rfl) ?_
  refine W.eq (g2 := F0 m 4 ls []) rfl ?_
  refine lv_aload_n hx hb dX6_init_4 rfl (lv_at hl 0 rfl) ?_
  refine lv_sipush (v := (688 : Int32)) hx hb dX6_init_5 (by decide) ?_
  refine n_newi (N := 688) hx hb (hts _ wn_a_int) hK hP hD hS hA (by decide) (by decide) (by decide) (by decide) (by decide) dX6_init_8 (fun q1 H hP hD hS => ?_)
  have hP : va_P D vwCl [(h0, .inr (6, [.null, .null, .null, .int 0, .int 0])), (q1, .inl (ca .int, 688, .inl (fun _ => 0)))] H := hP
  have hD : va_D A [(h0, .inr (6, [.null, .null, .null, .int 0, .int 0])), (q1, .inl (ca .int, 688, .inl (fun _ => 0)))] := hD
  refine W.widen (k := 1) (n := 688) (by decide) (by decide) ?_
  refine va_putF (ci := 6) (v := .ref q1) (ty := (.array .int)) (C := RX6) (T := TX6) (N := 5) hx hb hts inN_6 tyX6 tyX6_ok nmX6 hown hK hP hD hS 0 rfl rfl 0 (by decide) (hts _ wn_f6_13) (fun _ h9 => h9) rfl hin rfl (by decide +kernel) rfl rfl (Nat.le_of_ble_eq_true rfl) dX6_init_10 (fun H locs hP hD hS => ?_)
  have hP : va_P D vwCl [(h0, .inr (6, [.ref q1, .null, .null, .int 0, .int 0])), (q1, .inl (ca .int, 688, .inl (fun _ => 0)))] H := hP
  have hD : va_D A [(h0, .inr (6, [.ref q1, .null, .null, .int 0, .int 0])), (q1, .inl (ca .int, 688, .inl (fun _ => 0)))] := hD
  refine lv_aload_n hx hb dX6_init_13 rfl (lv_at hl 0 rfl) ?_
  refine lv_sipush (v := (129 : Int32)) hx hb dX6_init_14 (by decide) ?_
  refine n_newi (N := 129) hx hb (hts _ wn_a_int) hK hP hD hS hA (by decide) (by decide) (by decide) (by decide) (by decide) dX6_init_17 (fun q2 H hP hD hS => ?_)
  have hP : va_P D vwCl [(h0, .inr (6, [.ref q1, .null, .null, .int 0, .int 0])), (q1, .inl (ca .int, 688, .inl (fun _ => 0))), (q2, .inl (ca .int, 129, .inl (fun _ => 0)))] H := hP
  have hD : va_D A [(h0, .inr (6, [.ref q1, .null, .null, .int 0, .int 0])), (q1, .inl (ca .int, 688, .inl (fun _ => 0))), (q2, .inl (ca .int, 129, .inl (fun _ => 0)))] := hD
  refine W.widen (k := 2) (n := 817) (by decide) (by decide) ?_
  refine va_putF (ci := 6) (v := .ref q2) (ty := (.array .int)) (C := RX6) (T := TX6) (N := 5) hx hb hts inN_6 tyX6 tyX6_ok nmX6 hown hK hP hD hS 0 rfl rfl 1 (by decide) (hts _ wn_f6_17) (fun _ h9 => h9) rfl hin rfl (by decide +kernel) rfl rfl (Nat.le_of_ble_eq_true rfl) dX6_init_19 (fun H locs hP hD hS => ?_)
  have hP : va_P D vwCl [(h0, .inr (6, [.ref q1, .ref q2, .null, .int 0, .int 0])), (q1, .inl (ca .int, 688, .inl (fun _ => 0))), (q2, .inl (ca .int, 129, .inl (fun _ => 0)))] H := hP
  have hD : va_D A [(h0, .inr (6, [.ref q1, .ref q2, .null, .int 0, .int 0])), (q1, .inl (ca .int, 688, .inl (fun _ => 0))), (q2, .inl (ca .int, 129, .inl (fun _ => 0)))] := hD
  refine lv_aload_n hx hb dX6_init_22 rfl (lv_at hl 0 rfl) ?_
  refine lv_iconst (v := (3 : Int32)) hx hb dX6_init_23 (by decide) ?_
  refine n_newz (N := 3) hx hb (hts _ wn_a_boolean) hK hP hD hS hA (by decide) (by decide) (by decide) (by decide) (by decide) dX6_init_24 (fun q3 H hP hD hS => ?_)
  have hP : va_P D vwCl [(h0, .inr (6, [.ref q1, .ref q2, .null, .int 0, .int 0])), (q1, .inl (ca .int, 688, .inl (fun _ => 0))), (q2, .inl (ca .int, 129, .inl (fun _ => 0))), (q3, .inl (ca .boolean, 3, .inl (fun _ => 0)))] H := hP
  have hD : va_D A [(h0, .inr (6, [.ref q1, .ref q2, .null, .int 0, .int 0])), (q1, .inl (ca .int, 688, .inl (fun _ => 0))), (q2, .inl (ca .int, 129, .inl (fun _ => 0))), (q3, .inl (ca .boolean, 3, .inl (fun _ => 0)))] := hD
  refine W.widen (k := 3) (n := 820) (by decide) (by decide) ?_
  refine va_putF (ci := 6) (v := .ref q3) (ty := (.array .boolean)) (C := RX6) (T := TX6) (N := 5) hx hb hts inN_6 tyX6 tyX6_ok nmX6 hown hK hP hD hS 0 rfl rfl 2 (by decide) (hts _ wn_f6_20) (fun _ h9 => h9) rfl hin rfl (by decide +kernel) rfl rfl (Nat.le_of_ble_eq_true rfl) dX6_init_26 (fun H locs hP hD hS => ?_)
  have hP : va_P D vwCl [(h0, .inr (6, [.ref q1, .ref q2, .ref q3, .int 0, .int 0])), (q1, .inl (ca .int, 688, .inl (fun _ => 0))), (q2, .inl (ca .int, 129, .inl (fun _ => 0))), (q3, .inl (ca .boolean, 3, .inl (fun _ => 0)))] H := hP
  have hD : va_D A [(h0, .inr (6, [.ref q1, .ref q2, .ref q3, .int 0, .int 0])), (q1, .inl (ca .int, 688, .inl (fun _ => 0))), (q2, .inl (ca .int, 129, .inl (fun _ => 0))), (q3, .inl (ca .boolean, 3, .inl (fun _ => 0)))] := hD
  have hP9 := hP.sub (ws' := [(h0, .inr (6, [.ref q1, .ref q2, .ref q3, .int 0, .int 0])), (q1, .inl (ca .int, 688, .inl (fun _ => 0))), (q2, .inl (ca .int, 129, .inl (fun _ => 0))), (q3, .inl (ca .boolean, 3, .inl (fun _ => 0)))]) [0, 1, 2, 3] rfl
  have hD9 := hD.sub (ws' := [(h0, .inr (6, [.ref q1, .ref q2, .ref q3, .int 0, .int 0])), (q1, .inl (ca .int, 688, .inl (fun _ => 0))), (q2, .inl (ca .int, 129, .inl (fun _ => 0))), (q3, .inl (ca .boolean, 3, .inl (fun _ => 0)))]) [0, 1, 2, 3] (by decide) rfl
  exact W.vret hx hb hr (fun t ht hW => ⟨⟨(), rfl, trivial, q1, q2, q3, by rw [ht]; exact hP9, hD9⟩, hS.F ht⟩) hS.2.2 dX6_init_29
theorem wn_ol1 : Cond.methodLink RX1 1 objectInit ∈ zTB := zch_2 _ (List.mem_of_getElem? (i := 16) (by decide +kernel)) rfl
theorem wn_f1_9 : Cond.fieldLink RX1 9 "BalloonsMoor$Answers" "numbers" "[J" ∈ zTB := zch_2 _ (List.mem_of_getElem? (i := 17) (by decide +kernel)) rfl
set_option maxHeartbeats 4000000 in
set_option maxRecDepth 100000 in
theorem nC_1 (l : Launch) (D : va_G) (ca : FieldType → ClassId) (h0 sz : Nat) : Met l yX1_init (zws yX1_init cX1_init 1 none) (nrm 2 1 8) (va_Pc [.ref h0] (fun U => U.heap.size = sz ∧ va_P D vwCl [(h0, .inr (1, [.null, .int 0]))] U.heap ∧ va_K D vwCl (zT ca) U ∧ va_D (fun _ => True) [(h0, .inr (1, [.null, .int 0]))])) (va_Qv (fun _ : Unit => True) (fun _ t => ∃ q1 : Nat, va_P D vwCl [(h0, .inr (1, [.ref q1, .int 0])), (q1, .inl (ca .long, 8, .inr (.inl (fun _ => 0))))] t.heap ∧ va_D (va_A [(h0, .inr (1, [.null, .int 0]))] sz) [(h0, .inr (1, [.ref q1, .int 0])), (q1, .inl (ca .long, 8, .inr (.inl (fun _ => 0))))]) (va_A [(h0, .inr (1, [.null, .int 0]))] sz)) 1 8 (va_A [(h0, .inr (1, [.null, .int 0]))] sz) := by
  refine Met.ofW (cc := cX1_init) (maxL := 1) (ret := none) (by decide) rfl ?_
  intro p e s m args below meth c s₁ B hml hv
  obtain ⟨rfl, hsz, hP, hK, hD0⟩ := hv
  have hx := B.exec
  have hb := B.bytes
  have hr := B.returns
  have hts0 := atoms_spec (ws := zws yX1_init cX1_init 1 none) B.pre
  have hts : ∀ w ∈ zTB, w.before [.ref h0].toArray s = true := fun w hw => hts0 w (List.mem_cons_of_mem _ hw)
  have hown : s.vm.findClass RX1 = some m.cls := findClass_of_methodNamed B.named
  have hlocks := B.notSynchronized
  have hin : meth.name = "<init>" := (name_of_methodNamed B.named B.method).1
  subst hsz
  have hD := hD0.self (sz := s.heap.size)
  generalize hAe : va_A [(h0, .inr (1, [.null, .int 0]))] s.heap.size = A at hD ⊢
  have hA : ∀ q : Nat, s.heap.size ≤ q → A q := fun q h => by rw [← hAe]; exact Or.inr h
  have hS : va_S A s.heap s.heap [] := va_S.rf
  have hl := lv_entry [.ref h0] (n := 1) (Nat.le_of_ble_eq_true rfl)
  rw [lg_entry_eq]
  generalize (lg_sl [.ref h0] ++ List.replicate (1 - (lg_sl [.ref h0]).length) Slot.unset).toArray = ls at hl ⊢
  have hl : lv_has ls 1 [(0, .ref h0)] := hl
  refine lv_aload_n hx hb dX1_init_0 rfl (lv_at hl 0 rfl) ?_
  refine W.objInit hx hb hown (hts _ wn_ol1) (hts _ wn_oi) (hts _ wn_oc) rfl (by rw [hml]; exact hl.1) rfl dX1_init_1 (Nat.le_of_ble_eq_true rfl) (Nat.le_of_ble_eq_true rfl) ?_
  refine W.eq (g2 := F0 m 4 ls []) rfl ?_
  refine lv_aload_n hx hb dX1_init_4 rfl (lv_at hl 0 rfl) ?_
  refine lv_bipush (v := (8 : Int32)) hx hb dX1_init_5 (by decide) ?_
  refine n_newl (N := 8) hx hb (hts _ wn_a_long) hK hP hD hS hA (by decide) (by decide) (by decide) (by decide) (by decide) dX1_init_7 (fun q1 H hP hD hS => ?_)
  have hP : va_P D vwCl [(h0, .inr (1, [.null, .int 0])), (q1, .inl (ca .long, 8, .inr (.inl (fun _ => 0))))] H := hP
  have hD : va_D A [(h0, .inr (1, [.null, .int 0])), (q1, .inl (ca .long, 8, .inr (.inl (fun _ => 0))))] := hD
  refine W.widen (k := 1) (n := 8) (by decide) (by decide) ?_
  refine va_putF (ci := 1) (v := .ref q1) (ty := (.array .long)) (C := RX1) (T := TX1) (N := 2) hx hb hts inN_1 tyX1 tyX1_ok nmX1 hown hK hP hD hS 0 rfl rfl 0 (by decide) (hts _ wn_f1_9) (fun _ h9 => h9) rfl hin rfl (by decide +kernel) rfl rfl (Nat.le_of_ble_eq_true rfl) dX1_init_9 (fun H locs hP hD hS => ?_)
  have hP : va_P D vwCl [(h0, .inr (1, [.ref q1, .int 0])), (q1, .inl (ca .long, 8, .inr (.inl (fun _ => 0))))] H := hP
  have hD : va_D A [(h0, .inr (1, [.ref q1, .int 0])), (q1, .inl (ca .long, 8, .inr (.inl (fun _ => 0))))] := hD
  have hP9 := hP.sub (ws' := [(h0, .inr (1, [.ref q1, .int 0])), (q1, .inl (ca .long, 8, .inr (.inl (fun _ => 0))))]) [0, 1] rfl
  have hD9 := hD.sub (ws' := [(h0, .inr (1, [.ref q1, .int 0])), (q1, .inl (ca .long, 8, .inr (.inl (fun _ => 0))))]) [0, 1] (by decide) rfl
  exact W.vret hx hb hr (fun t ht hW => ⟨⟨(), rfl, trivial, q1, by rw [ht]; exact hP9, hD9⟩, hS.F ht⟩) hS.2.2 dX1_init_12
theorem wn_ol5 : Cond.methodLink RX5 3 objectInit ∈ zTB := zch_2 _ (List.mem_of_getElem? (i := 32) (by decide +kernel)) rfl
theorem wn_f5_9 : Cond.fieldLink RX5 9 "BalloonsMoor$Marks" "ring" "[I" ∈ zTB := zch_2 _ (List.mem_of_getElem? (i := 33) (by decide +kernel)) rfl
theorem wn_f5_15 : Cond.fieldLink RX5 15 "BalloonsMoor$Marks" "what" "[I" ∈ zTB := zch_2 _ (List.mem_of_getElem? (i := 34) (by decide +kernel)) rfl
theorem wn_f5_18 : Cond.fieldLink RX5 18 "BalloonsMoor$Marks" "value" "[I" ∈ zTB := zch_2 _ (List.mem_of_getElem? (i := 35) (by decide +kernel)) rfl
theorem wn_f5_21 : Cond.fieldLink RX5 21 "BalloonsMoor$Marks" "seenRing" "[I" ∈ zTB := zch_2 _ (List.mem_of_getElem? (i := 36) (by decide +kernel)) rfl
theorem wn_f5_24 : Cond.fieldLink RX5 24 "BalloonsMoor$Marks" "fits" "[I" ∈ zTB := zch_2 _ (List.mem_of_getElem? (i := 38) (by decide +kernel)) rfl
theorem wn_f5_27 : Cond.fieldLink RX5 27 "BalloonsMoor$Marks" "who" "[I" ∈ zTB := zch_2 _ (List.mem_of_getElem? (i := 39) (by decide +kernel)) rfl
theorem wn_f5_30 : Cond.fieldLink RX5 30 "BalloonsMoor$Marks" "least" "[I" ∈ zTB := zch_2 _ (List.mem_of_getElem? (i := 40) (by decide +kernel)) rfl
set_option maxHeartbeats 4000000 in
set_option maxRecDepth 100000 in
theorem nC_5 (l : Launch) (D : va_G) (ca : FieldType → ClassId) (h0 sz : Nat) : Met l yX5_init (zws yX5_init cX5_init 1 none) (nrm 2 7 68) (va_Pc [.ref h0] (fun U => U.heap.size = sz ∧ va_P D vwCl [(h0, .inr (5, [.null, .null, .null, .null, .null, .null, .null, .int 0, .int 0, .int 0, .int 0]))] U.heap ∧ va_K D vwCl (zT ca) U ∧ va_D (fun _ => True) [(h0, .inr (5, [.null, .null, .null, .null, .null, .null, .null, .int 0, .int 0, .int 0, .int 0]))])) (va_Qv (fun _ : Unit => True) (fun _ t => ∃ q1 q2 q3 q4 q5 q6 q7 : Nat, va_P D vwCl [(h0, .inr (5, [.ref q1, .ref q2, .ref q3, .ref q4, .ref q5, .ref q6, .ref q7, .int 0, .int 0, .int 0, .int 0])), (q1, .inl (ca .int, 12, .inl (fun _ => 0))), (q2, .inl (ca .int, 12, .inl (fun _ => 0))), (q3, .inl (ca .int, 12, .inl (fun _ => 0))), (q4, .inl (ca .int, 8, .inl (fun _ => 0))), (q5, .inl (ca .int, 8, .inl (fun _ => 0))), (q6, .inl (ca .int, 8, .inl (fun _ => 0))), (q7, .inl (ca .int, 8, .inl (fun _ => 0)))] t.heap ∧ va_D (va_A [(h0, .inr (5, [.null, .null, .null, .null, .null, .null, .null, .int 0, .int 0, .int 0, .int 0]))] sz) [(h0, .inr (5, [.ref q1, .ref q2, .ref q3, .ref q4, .ref q5, .ref q6, .ref q7, .int 0, .int 0, .int 0, .int 0])), (q1, .inl (ca .int, 12, .inl (fun _ => 0))), (q2, .inl (ca .int, 12, .inl (fun _ => 0))), (q3, .inl (ca .int, 12, .inl (fun _ => 0))), (q4, .inl (ca .int, 8, .inl (fun _ => 0))), (q5, .inl (ca .int, 8, .inl (fun _ => 0))), (q6, .inl (ca .int, 8, .inl (fun _ => 0))), (q7, .inl (ca .int, 8, .inl (fun _ => 0)))]) (va_A [(h0, .inr (5, [.null, .null, .null, .null, .null, .null, .null, .int 0, .int 0, .int 0, .int 0]))] sz)) 7 68 (va_A [(h0, .inr (5, [.null, .null, .null, .null, .null, .null, .null, .int 0, .int 0, .int 0, .int 0]))] sz) := by
  refine Met.ofW (cc := cX5_init) (maxL := 1) (ret := none) (by decide) rfl ?_
  intro p e s m args below meth c s₁ B hml hv
  obtain ⟨rfl, hsz, hP, hK, hD0⟩ := hv
  have hx := B.exec
  have hb := B.bytes
  have hr := B.returns
  have hts0 := atoms_spec (ws := zws yX5_init cX5_init 1 none) B.pre
  have hts : ∀ w ∈ zTB, w.before [.ref h0].toArray s = true := fun w hw => hts0 w (List.mem_cons_of_mem _ hw)
  have hown : s.vm.findClass RX5 = some m.cls := findClass_of_methodNamed B.named
  have hlocks := B.notSynchronized
  have hin : meth.name = "<init>" := (name_of_methodNamed B.named B.method).1
  subst hsz
  have hD := hD0.self (sz := s.heap.size)
  generalize hAe : va_A [(h0, .inr (5, [.null, .null, .null, .null, .null, .null, .null, .int 0, .int 0, .int 0, .int 0]))] s.heap.size = A at hD ⊢
  have hA : ∀ q : Nat, s.heap.size ≤ q → A q := fun q h => by rw [← hAe]; exact Or.inr h
  have hS : va_S A s.heap s.heap [] := va_S.rf
  have hl := lv_entry [.ref h0] (n := 1) (Nat.le_of_ble_eq_true rfl)
  rw [lg_entry_eq]
  generalize (lg_sl [.ref h0] ++ List.replicate (1 - (lg_sl [.ref h0]).length) Slot.unset).toArray = ls at hl ⊢
  have hl : lv_has ls 1 [(0, .ref h0)] := hl
  refine lv_aload_n hx hb dX5_init_0 rfl (lv_at hl 0 rfl) ?_
  refine W.objInit hx hb hown (hts _ wn_ol5) (hts _ wn_oi) (hts _ wn_oc) rfl (by rw [hml]; exact hl.1) rfl dX5_init_1 (Nat.le_of_ble_eq_true rfl) (Nat.le_of_ble_eq_true rfl) ?_
  refine W.eq (g2 := F0 m 4 ls []) rfl ?_
  refine lv_aload_n hx hb dX5_init_4 rfl (lv_at hl 0 rfl) ?_
  refine lv_bipush (v := (12 : Int32)) hx hb dX5_init_5 (by decide) ?_
  refine n_newi (N := 12) hx hb (hts _ wn_a_int) hK hP hD hS hA (by decide) (by decide) (by decide) (by decide) (by decide) dX5_init_7 (fun q1 H hP hD hS => ?_)
  have hP : va_P D vwCl [(h0, .inr (5, [.null, .null, .null, .null, .null, .null, .null, .int 0, .int 0, .int 0, .int 0])), (q1, .inl (ca .int, 12, .inl (fun _ => 0)))] H := hP
  have hD : va_D A [(h0, .inr (5, [.null, .null, .null, .null, .null, .null, .null, .int 0, .int 0, .int 0, .int 0])), (q1, .inl (ca .int, 12, .inl (fun _ => 0)))] := hD
  refine W.widen (k := 1) (n := 12) (by decide) (by decide) ?_
  refine va_putF (ci := 5) (v := .ref q1) (ty := (.array .int)) (C := RX5) (T := TX5) (N := 11) hx hb hts inN_5 tyX5 tyX5_ok nmX5 hown hK hP hD hS 0 rfl rfl 0 (by decide) (hts _ wn_f5_9) (fun _ h9 => h9) rfl hin rfl (by decide +kernel) rfl rfl (Nat.le_of_ble_eq_true rfl) dX5_init_9 (fun H locs hP hD hS => ?_)
  have hP : va_P D vwCl [(h0, .inr (5, [.ref q1, .null, .null, .null, .null, .null, .null, .int 0, .int 0, .int 0, .int 0])), (q1, .inl (ca .int, 12, .inl (fun _ => 0)))] H := hP
  have hD : va_D A [(h0, .inr (5, [.ref q1, .null, .null, .null, .null, .null, .null, .int 0, .int 0, .int 0, .int 0])), (q1, .inl (ca .int, 12, .inl (fun _ => 0)))] := hD
  refine lv_aload_n hx hb dX5_init_12 rfl (lv_at hl 0 rfl) ?_
  refine lv_bipush (v := (12 : Int32)) hx hb dX5_init_13 (by decide) ?_
  refine n_newi (N := 12) hx hb (hts _ wn_a_int) hK hP hD hS hA (by decide) (by decide) (by decide) (by decide) (by decide) dX5_init_15 (fun q2 H hP hD hS => ?_)
  have hP : va_P D vwCl [(h0, .inr (5, [.ref q1, .null, .null, .null, .null, .null, .null, .int 0, .int 0, .int 0, .int 0])), (q1, .inl (ca .int, 12, .inl (fun _ => 0))), (q2, .inl (ca .int, 12, .inl (fun _ => 0)))] H := hP
  have hD : va_D A [(h0, .inr (5, [.ref q1, .null, .null, .null, .null, .null, .null, .int 0, .int 0, .int 0, .int 0])), (q1, .inl (ca .int, 12, .inl (fun _ => 0))), (q2, .inl (ca .int, 12, .inl (fun _ => 0)))] := hD
  refine W.widen (k := 2) (n := 24) (by decide) (by decide) ?_
  refine va_putF (ci := 5) (v := .ref q2) (ty := (.array .int)) (C := RX5) (T := TX5) (N := 11) hx hb hts inN_5 tyX5 tyX5_ok nmX5 hown hK hP hD hS 0 rfl rfl 1 (by decide) (hts _ wn_f5_15) (fun _ h9 => h9) rfl hin rfl (by decide +kernel) rfl rfl (Nat.le_of_ble_eq_true rfl) dX5_init_17 (fun H locs hP hD hS => ?_)
  have hP : va_P D vwCl [(h0, .inr (5, [.ref q1, .ref q2, .null, .null, .null, .null, .null, .int 0, .int 0, .int 0, .int 0])), (q1, .inl (ca .int, 12, .inl (fun _ => 0))), (q2, .inl (ca .int, 12, .inl (fun _ => 0)))] H := hP
  have hD : va_D A [(h0, .inr (5, [.ref q1, .ref q2, .null, .null, .null, .null, .null, .int 0, .int 0, .int 0, .int 0])), (q1, .inl (ca .int, 12, .inl (fun _ => 0))), (q2, .inl (ca .int, 12, .inl (fun _ => 0)))] := hD
  refine lv_aload_n hx hb dX5_init_20 rfl (lv_at hl 0 rfl) ?_
  refine lv_bipush (v := (12 : Int32)) hx hb dX5_init_21 (by decide) ?_
  refine n_newi (N := 12) hx hb (hts _ wn_a_int) hK hP hD hS hA (by decide) (by decide) (by decide) (by decide) (by decide) dX5_init_23 (fun q3 H hP hD hS => ?_)
  have hP : va_P D vwCl [(h0, .inr (5, [.ref q1, .ref q2, .null, .null, .null, .null, .null, .int 0, .int 0, .int 0, .int 0])), (q1, .inl (ca .int, 12, .inl (fun _ => 0))), (q2, .inl (ca .int, 12, .inl (fun _ => 0))), (q3, .inl (ca .int, 12, .inl (fun _ => 0)))] H := hP
  have hD : va_D A [(h0, .inr (5, [.ref q1, .ref q2, .null, .null, .null, .null, .null, .int 0, .int 0, .int 0, .int 0])), (q1, .inl (ca .int, 12, .inl (fun _ => 0))), (q2, .inl (ca .int, 12, .inl (fun _ => 0))), (q3, .inl (ca .int, 12, .inl (fun _ => 0)))] := hD
  refine W.widen (k := 3) (n := 36) (by decide) (by decide) ?_
  refine va_putF (ci := 5) (v := .ref q3) (ty := (.array .int)) (C := RX5) (T := TX5) (N := 11) hx hb hts inN_5 tyX5 tyX5_ok nmX5 hown hK hP hD hS 0 rfl rfl 2 (by decide) (hts _ wn_f5_18) (fun _ h9 => h9) rfl hin rfl (by decide +kernel) rfl rfl (Nat.le_of_ble_eq_true rfl) dX5_init_25 (fun H locs hP hD hS => ?_)
  have hP : va_P D vwCl [(h0, .inr (5, [.ref q1, .ref q2, .ref q3, .null, .null, .null, .null, .int 0, .int 0, .int 0, .int 0])), (q1, .inl (ca .int, 12, .inl (fun _ => 0))), (q2, .inl (ca .int, 12, .inl (fun _ => 0))), (q3, .inl (ca .int, 12, .inl (fun _ => 0)))] H := hP
  have hD : va_D A [(h0, .inr (5, [.ref q1, .ref q2, .ref q3, .null, .null, .null, .null, .int 0, .int 0, .int 0, .int 0])), (q1, .inl (ca .int, 12, .inl (fun _ => 0))), (q2, .inl (ca .int, 12, .inl (fun _ => 0))), (q3, .inl (ca .int, 12, .inl (fun _ => 0)))] := hD
  refine lv_aload_n hx hb dX5_init_28 rfl (lv_at hl 0 rfl) ?_
  refine lv_bipush (v := (8 : Int32)) hx hb dX5_init_29 (by decide) ?_
  refine n_newi (N := 8) hx hb (hts _ wn_a_int) hK hP hD hS hA (by decide) (by decide) (by decide) (by decide) (by decide) dX5_init_31 (fun q4 H hP hD hS => ?_)
  have hP : va_P D vwCl [(h0, .inr (5, [.ref q1, .ref q2, .ref q3, .null, .null, .null, .null, .int 0, .int 0, .int 0, .int 0])), (q1, .inl (ca .int, 12, .inl (fun _ => 0))), (q2, .inl (ca .int, 12, .inl (fun _ => 0))), (q3, .inl (ca .int, 12, .inl (fun _ => 0))), (q4, .inl (ca .int, 8, .inl (fun _ => 0)))] H := hP
  have hD : va_D A [(h0, .inr (5, [.ref q1, .ref q2, .ref q3, .null, .null, .null, .null, .int 0, .int 0, .int 0, .int 0])), (q1, .inl (ca .int, 12, .inl (fun _ => 0))), (q2, .inl (ca .int, 12, .inl (fun _ => 0))), (q3, .inl (ca .int, 12, .inl (fun _ => 0))), (q4, .inl (ca .int, 8, .inl (fun _ => 0)))] := hD
  refine W.widen (k := 4) (n := 44) (by decide) (by decide) ?_
  refine va_putF (ci := 5) (v := .ref q4) (ty := (.array .int)) (C := RX5) (T := TX5) (N := 11) hx hb hts inN_5 tyX5 tyX5_ok nmX5 hown hK hP hD hS 0 rfl rfl 3 (by decide) (hts _ wn_f5_21) (fun _ h9 => h9) rfl hin rfl (by decide +kernel) rfl rfl (Nat.le_of_ble_eq_true rfl) dX5_init_33 (fun H locs hP hD hS => ?_)
  have hP : va_P D vwCl [(h0, .inr (5, [.ref q1, .ref q2, .ref q3, .ref q4, .null, .null, .null, .int 0, .int 0, .int 0, .int 0])), (q1, .inl (ca .int, 12, .inl (fun _ => 0))), (q2, .inl (ca .int, 12, .inl (fun _ => 0))), (q3, .inl (ca .int, 12, .inl (fun _ => 0))), (q4, .inl (ca .int, 8, .inl (fun _ => 0)))] H := hP
  have hD : va_D A [(h0, .inr (5, [.ref q1, .ref q2, .ref q3, .ref q4, .null, .null, .null, .int 0, .int 0, .int 0, .int 0])), (q1, .inl (ca .int, 12, .inl (fun _ => 0))), (q2, .inl (ca .int, 12, .inl (fun _ => 0))), (q3, .inl (ca .int, 12, .inl (fun _ => 0))), (q4, .inl (ca .int, 8, .inl (fun _ => 0)))] := hD
  refine lv_aload_n hx hb dX5_init_36 rfl (lv_at hl 0 rfl) ?_
  refine lv_bipush (v := (8 : Int32)) hx hb dX5_init_37 (by decide) ?_
  refine n_newi (N := 8) hx hb (hts _ wn_a_int) hK hP hD hS hA (by decide) (by decide) (by decide) (by decide) (by decide) dX5_init_39 (fun q5 H hP hD hS => ?_)
  have hP : va_P D vwCl [(h0, .inr (5, [.ref q1, .ref q2, .ref q3, .ref q4, .null, .null, .null, .int 0, .int 0, .int 0, .int 0])), (q1, .inl (ca .int, 12, .inl (fun _ => 0))), (q2, .inl (ca .int, 12, .inl (fun _ => 0))), (q3, .inl (ca .int, 12, .inl (fun _ => 0))), (q4, .inl (ca .int, 8, .inl (fun _ => 0))), (q5, .inl (ca .int, 8, .inl (fun _ => 0)))] H := hP
  have hD : va_D A [(h0, .inr (5, [.ref q1, .ref q2, .ref q3, .ref q4, .null, .null, .null, .int 0, .int 0, .int 0, .int 0])), (q1, .inl (ca .int, 12, .inl (fun _ => 0))), (q2, .inl (ca .int, 12, .inl (fun _ => 0))), (q3, .inl (ca .int, 12, .inl (fun _ => 0))), (q4, .inl (ca .int, 8, .inl (fun _ => 0))), (q5, .inl (ca .int, 8, .inl (fun _ => 0)))] := hD
  refine W.widen (k := 5) (n := 52) (by decide) (by decide) ?_
  refine va_putF (ci := 5) (v := .ref q5) (ty := (.array .int)) (C := RX5) (T := TX5) (N := 11) hx hb hts inN_5 tyX5 tyX5_ok nmX5 hown hK hP hD hS 0 rfl rfl 4 (by decide) (hts _ wn_f5_24) (fun _ h9 => h9) rfl hin rfl (by decide +kernel) rfl rfl (Nat.le_of_ble_eq_true rfl) dX5_init_41 (fun H locs hP hD hS => ?_)
  have hP : va_P D vwCl [(h0, .inr (5, [.ref q1, .ref q2, .ref q3, .ref q4, .ref q5, .null, .null, .int 0, .int 0, .int 0, .int 0])), (q1, .inl (ca .int, 12, .inl (fun _ => 0))), (q2, .inl (ca .int, 12, .inl (fun _ => 0))), (q3, .inl (ca .int, 12, .inl (fun _ => 0))), (q4, .inl (ca .int, 8, .inl (fun _ => 0))), (q5, .inl (ca .int, 8, .inl (fun _ => 0)))] H := hP
  have hD : va_D A [(h0, .inr (5, [.ref q1, .ref q2, .ref q3, .ref q4, .ref q5, .null, .null, .int 0, .int 0, .int 0, .int 0])), (q1, .inl (ca .int, 12, .inl (fun _ => 0))), (q2, .inl (ca .int, 12, .inl (fun _ => 0))), (q3, .inl (ca .int, 12, .inl (fun _ => 0))), (q4, .inl (ca .int, 8, .inl (fun _ => 0))), (q5, .inl (ca .int, 8, .inl (fun _ => 0)))] := hD
  refine lv_aload_n hx hb dX5_init_44 rfl (lv_at hl 0 rfl) ?_
  refine lv_bipush (v := (8 : Int32)) hx hb dX5_init_45 (by decide) ?_
  refine n_newi (N := 8) hx hb (hts _ wn_a_int) hK hP hD hS hA (by decide) (by decide) (by decide) (by decide) (by decide) dX5_init_47 (fun q6 H hP hD hS => ?_)
  have hP : va_P D vwCl [(h0, .inr (5, [.ref q1, .ref q2, .ref q3, .ref q4, .ref q5, .null, .null, .int 0, .int 0, .int 0, .int 0])), (q1, .inl (ca .int, 12, .inl (fun _ => 0))), (q2, .inl (ca .int, 12, .inl (fun _ => 0))), (q3, .inl (ca .int, 12, .inl (fun _ => 0))), (q4, .inl (ca .int, 8, .inl (fun _ => 0))), (q5, .inl (ca .int, 8, .inl (fun _ => 0))), (q6, .inl (ca .int, 8, .inl (fun _ => 0)))] H := hP
  have hD : va_D A [(h0, .inr (5, [.ref q1, .ref q2, .ref q3, .ref q4, .ref q5, .null, .null, .int 0, .int 0, .int 0, .int 0])), (q1, .inl (ca .int, 12, .inl (fun _ => 0))), (q2, .inl (ca .int, 12, .inl (fun _ => 0))), (q3, .inl (ca .int, 12, .inl (fun _ => 0))), (q4, .inl (ca .int, 8, .inl (fun _ => 0))), (q5, .inl (ca .int, 8, .inl (fun _ => 0))), (q6, .inl (ca .int, 8, .inl (fun _ => 0)))] := hD
  refine W.widen (k := 6) (n := 60) (by decide) (by decide) ?_
  refine va_putF (ci := 5) (v := .ref q6) (ty := (.array .int)) (C := RX5) (T := TX5) (N := 11) hx hb hts inN_5 tyX5 tyX5_ok nmX5 hown hK hP hD hS 0 rfl rfl 5 (by decide) (hts _ wn_f5_27) (fun _ h9 => h9) rfl hin rfl (by decide +kernel) rfl rfl (Nat.le_of_ble_eq_true rfl) dX5_init_49 (fun H locs hP hD hS => ?_)
  have hP : va_P D vwCl [(h0, .inr (5, [.ref q1, .ref q2, .ref q3, .ref q4, .ref q5, .ref q6, .null, .int 0, .int 0, .int 0, .int 0])), (q1, .inl (ca .int, 12, .inl (fun _ => 0))), (q2, .inl (ca .int, 12, .inl (fun _ => 0))), (q3, .inl (ca .int, 12, .inl (fun _ => 0))), (q4, .inl (ca .int, 8, .inl (fun _ => 0))), (q5, .inl (ca .int, 8, .inl (fun _ => 0))), (q6, .inl (ca .int, 8, .inl (fun _ => 0)))] H := hP
  have hD : va_D A [(h0, .inr (5, [.ref q1, .ref q2, .ref q3, .ref q4, .ref q5, .ref q6, .null, .int 0, .int 0, .int 0, .int 0])), (q1, .inl (ca .int, 12, .inl (fun _ => 0))), (q2, .inl (ca .int, 12, .inl (fun _ => 0))), (q3, .inl (ca .int, 12, .inl (fun _ => 0))), (q4, .inl (ca .int, 8, .inl (fun _ => 0))), (q5, .inl (ca .int, 8, .inl (fun _ => 0))), (q6, .inl (ca .int, 8, .inl (fun _ => 0)))] := hD
  refine lv_aload_n hx hb dX5_init_52 rfl (lv_at hl 0 rfl) ?_
  refine lv_bipush (v := (8 : Int32)) hx hb dX5_init_53 (by decide) ?_
  refine n_newi (N := 8) hx hb (hts _ wn_a_int) hK hP hD hS hA (by decide) (by decide) (by decide) (by decide) (by decide) dX5_init_55 (fun q7 H hP hD hS => ?_)
  have hP : va_P D vwCl [(h0, .inr (5, [.ref q1, .ref q2, .ref q3, .ref q4, .ref q5, .ref q6, .null, .int 0, .int 0, .int 0, .int 0])), (q1, .inl (ca .int, 12, .inl (fun _ => 0))), (q2, .inl (ca .int, 12, .inl (fun _ => 0))), (q3, .inl (ca .int, 12, .inl (fun _ => 0))), (q4, .inl (ca .int, 8, .inl (fun _ => 0))), (q5, .inl (ca .int, 8, .inl (fun _ => 0))), (q6, .inl (ca .int, 8, .inl (fun _ => 0))), (q7, .inl (ca .int, 8, .inl (fun _ => 0)))] H := hP
  have hD : va_D A [(h0, .inr (5, [.ref q1, .ref q2, .ref q3, .ref q4, .ref q5, .ref q6, .null, .int 0, .int 0, .int 0, .int 0])), (q1, .inl (ca .int, 12, .inl (fun _ => 0))), (q2, .inl (ca .int, 12, .inl (fun _ => 0))), (q3, .inl (ca .int, 12, .inl (fun _ => 0))), (q4, .inl (ca .int, 8, .inl (fun _ => 0))), (q5, .inl (ca .int, 8, .inl (fun _ => 0))), (q6, .inl (ca .int, 8, .inl (fun _ => 0))), (q7, .inl (ca .int, 8, .inl (fun _ => 0)))] := hD
  refine W.widen (k := 7) (n := 68) (by decide) (by decide) ?_
  refine va_putF (ci := 5) (v := .ref q7) (ty := (.array .int)) (C := RX5) (T := TX5) (N := 11) hx hb hts inN_5 tyX5 tyX5_ok nmX5 hown hK hP hD hS 0 rfl rfl 6 (by decide) (hts _ wn_f5_30) (fun _ h9 => h9) rfl hin rfl (by decide +kernel) rfl rfl (Nat.le_of_ble_eq_true rfl) dX5_init_57 (fun H locs hP hD hS => ?_)
  have hP : va_P D vwCl [(h0, .inr (5, [.ref q1, .ref q2, .ref q3, .ref q4, .ref q5, .ref q6, .ref q7, .int 0, .int 0, .int 0, .int 0])), (q1, .inl (ca .int, 12, .inl (fun _ => 0))), (q2, .inl (ca .int, 12, .inl (fun _ => 0))), (q3, .inl (ca .int, 12, .inl (fun _ => 0))), (q4, .inl (ca .int, 8, .inl (fun _ => 0))), (q5, .inl (ca .int, 8, .inl (fun _ => 0))), (q6, .inl (ca .int, 8, .inl (fun _ => 0))), (q7, .inl (ca .int, 8, .inl (fun _ => 0)))] H := hP
  have hD : va_D A [(h0, .inr (5, [.ref q1, .ref q2, .ref q3, .ref q4, .ref q5, .ref q6, .ref q7, .int 0, .int 0, .int 0, .int 0])), (q1, .inl (ca .int, 12, .inl (fun _ => 0))), (q2, .inl (ca .int, 12, .inl (fun _ => 0))), (q3, .inl (ca .int, 12, .inl (fun _ => 0))), (q4, .inl (ca .int, 8, .inl (fun _ => 0))), (q5, .inl (ca .int, 8, .inl (fun _ => 0))), (q6, .inl (ca .int, 8, .inl (fun _ => 0))), (q7, .inl (ca .int, 8, .inl (fun _ => 0)))] := hD
  have hP9 := hP.sub (ws' := [(h0, .inr (5, [.ref q1, .ref q2, .ref q3, .ref q4, .ref q5, .ref q6, .ref q7, .int 0, .int 0, .int 0, .int 0])), (q1, .inl (ca .int, 12, .inl (fun _ => 0))), (q2, .inl (ca .int, 12, .inl (fun _ => 0))), (q3, .inl (ca .int, 12, .inl (fun _ => 0))), (q4, .inl (ca .int, 8, .inl (fun _ => 0))), (q5, .inl (ca .int, 8, .inl (fun _ => 0))), (q6, .inl (ca .int, 8, .inl (fun _ => 0))), (q7, .inl (ca .int, 8, .inl (fun _ => 0)))]) [0, 1, 2, 3, 4, 5, 6, 7] rfl
  have hD9 := hD.sub (ws' := [(h0, .inr (5, [.ref q1, .ref q2, .ref q3, .ref q4, .ref q5, .ref q6, .ref q7, .int 0, .int 0, .int 0, .int 0])), (q1, .inl (ca .int, 12, .inl (fun _ => 0))), (q2, .inl (ca .int, 12, .inl (fun _ => 0))), (q3, .inl (ca .int, 12, .inl (fun _ => 0))), (q4, .inl (ca .int, 8, .inl (fun _ => 0))), (q5, .inl (ca .int, 8, .inl (fun _ => 0))), (q6, .inl (ca .int, 8, .inl (fun _ => 0))), (q7, .inl (ca .int, 8, .inl (fun _ => 0)))]) [0, 1, 2, 3, 4, 5, 6, 7] (by decide) rfl
  exact W.vret hx hb hr (fun t ht hW => ⟨⟨(), rfl, trivial, q1, q2, q3, q4, q5, q6, q7, by rw [ht]; exact hP9, hD9⟩, hS.F ht⟩) hS.2.2 dX5_init_60
theorem wn_ol0 : Cond.methodLink RX0 3 objectInit ∈ zTB := zch_2 _ (List.mem_of_getElem? (i := 77) (by decide +kernel)) rfl
theorem wn_f0_9 : Cond.fieldLink RX0 9 "BalloonsMoor$Acts" "kind" "[I" ∈ zTB := zch_2 _ (List.mem_of_getElem? (i := 78) (by decide +kernel)) rfl
theorem wn_f0_15 : Cond.fieldLink RX0 15 "BalloonsMoor$Acts" "first" "[I" ∈ zTB := zch_2 _ (List.mem_of_getElem? (i := 80) (by decide +kernel)) rfl
theorem wn_f0_18 : Cond.fieldLink RX0 18 "BalloonsMoor$Acts" "second" "[I" ∈ zTB := zch_2 _ (List.mem_of_getElem? (i := 82) (by decide +kernel)) rfl
set_option maxHeartbeats 4000000 in
set_option maxRecDepth 100000 in
theorem nC_0 (l : Launch) (D : va_G) (ca : FieldType → ClassId) (h0 sz : Nat) : Met l yX0_init (zws yX0_init cX0_init 1 none) (nrm 2 3 60) (va_Pc [.ref h0] (fun U => U.heap.size = sz ∧ va_P D vwCl [(h0, .inr (0, [.null, .null, .null, .int 0]))] U.heap ∧ va_K D vwCl (zT ca) U ∧ va_D (fun _ => True) [(h0, .inr (0, [.null, .null, .null, .int 0]))])) (va_Qv (fun _ : Unit => True) (fun _ t => ∃ q1 q2 q3 : Nat, va_P D vwCl [(h0, .inr (0, [.ref q1, .ref q2, .ref q3, .int 0])), (q1, .inl (ca .int, 20, .inl (fun _ => 0))), (q2, .inl (ca .int, 20, .inl (fun _ => 0))), (q3, .inl (ca .int, 20, .inl (fun _ => 0)))] t.heap ∧ va_D (va_A [(h0, .inr (0, [.null, .null, .null, .int 0]))] sz) [(h0, .inr (0, [.ref q1, .ref q2, .ref q3, .int 0])), (q1, .inl (ca .int, 20, .inl (fun _ => 0))), (q2, .inl (ca .int, 20, .inl (fun _ => 0))), (q3, .inl (ca .int, 20, .inl (fun _ => 0)))]) (va_A [(h0, .inr (0, [.null, .null, .null, .int 0]))] sz)) 3 60 (va_A [(h0, .inr (0, [.null, .null, .null, .int 0]))] sz) := by
  refine Met.ofW (cc := cX0_init) (maxL := 1) (ret := none) (by decide) rfl ?_
  intro p e s m args below meth c s₁ B hml hv
  obtain ⟨rfl, hsz, hP, hK, hD0⟩ := hv
  have hx := B.exec
  have hb := B.bytes
  have hr := B.returns
  have hts0 := atoms_spec (ws := zws yX0_init cX0_init 1 none) B.pre
  have hts : ∀ w ∈ zTB, w.before [.ref h0].toArray s = true := fun w hw => hts0 w (List.mem_cons_of_mem _ hw)
  have hown : s.vm.findClass RX0 = some m.cls := findClass_of_methodNamed B.named
  have hlocks := B.notSynchronized
  have hin : meth.name = "<init>" := (name_of_methodNamed B.named B.method).1
  subst hsz
  have hD := hD0.self (sz := s.heap.size)
  generalize hAe : va_A [(h0, .inr (0, [.null, .null, .null, .int 0]))] s.heap.size = A at hD ⊢
  have hA : ∀ q : Nat, s.heap.size ≤ q → A q := fun q h => by rw [← hAe]; exact Or.inr h
  have hS : va_S A s.heap s.heap [] := va_S.rf
  have hl := lv_entry [.ref h0] (n := 1) (Nat.le_of_ble_eq_true rfl)
  rw [lg_entry_eq]
  generalize (lg_sl [.ref h0] ++ List.replicate (1 - (lg_sl [.ref h0]).length) Slot.unset).toArray = ls at hl ⊢
  have hl : lv_has ls 1 [(0, .ref h0)] := hl
  refine lv_aload_n hx hb dX0_init_0 rfl (lv_at hl 0 rfl) ?_
  refine W.objInit hx hb hown (hts _ wn_ol0) (hts _ wn_oi) (hts _ wn_oc) rfl (by rw [hml]; exact hl.1) rfl dX0_init_1 (Nat.le_of_ble_eq_true rfl) (Nat.le_of_ble_eq_true rfl) ?_
  refine W.eq (g2 := F0 m 4 ls []) rfl ?_
  refine lv_aload_n hx hb dX0_init_4 rfl (lv_at hl 0 rfl) ?_
  refine lv_bipush (v := (20 : Int32)) hx hb dX0_init_5 (by decide) ?_
  refine n_newi (N := 20) hx hb (hts _ wn_a_int) hK hP hD hS hA (by decide) (by decide) (by decide) (by decide) (by decide) dX0_init_7 (fun q1 H hP hD hS => ?_)
  have hP : va_P D vwCl [(h0, .inr (0, [.null, .null, .null, .int 0])), (q1, .inl (ca .int, 20, .inl (fun _ => 0)))] H := hP
  have hD : va_D A [(h0, .inr (0, [.null, .null, .null, .int 0])), (q1, .inl (ca .int, 20, .inl (fun _ => 0)))] := hD
  refine W.widen (k := 1) (n := 20) (by decide) (by decide) ?_
  refine va_putF (ci := 0) (v := .ref q1) (ty := (.array .int)) (C := RX0) (T := TX0) (N := 4) hx hb hts inN_0 tyX0 tyX0_ok nmX0 hown hK hP hD hS 0 rfl rfl 0 (by decide) (hts _ wn_f0_9) (fun _ h9 => h9) rfl hin rfl (by decide +kernel) rfl rfl (Nat.le_of_ble_eq_true rfl) dX0_init_9 (fun H locs hP hD hS => ?_)
  have hP : va_P D vwCl [(h0, .inr (0, [.ref q1, .null, .null, .int 0])), (q1, .inl (ca .int, 20, .inl (fun _ => 0)))] H := hP
  have hD : va_D A [(h0, .inr (0, [.ref q1, .null, .null, .int 0])), (q1, .inl (ca .int, 20, .inl (fun _ => 0)))] := hD
  refine lv_aload_n hx hb dX0_init_12 rfl (lv_at hl 0 rfl) ?_
  refine lv_bipush (v := (20 : Int32)) hx hb dX0_init_13 (by decide) ?_
  refine n_newi (N := 20) hx hb (hts _ wn_a_int) hK hP hD hS hA (by decide) (by decide) (by decide) (by decide) (by decide) dX0_init_15 (fun q2 H hP hD hS => ?_)
  have hP : va_P D vwCl [(h0, .inr (0, [.ref q1, .null, .null, .int 0])), (q1, .inl (ca .int, 20, .inl (fun _ => 0))), (q2, .inl (ca .int, 20, .inl (fun _ => 0)))] H := hP
  have hD : va_D A [(h0, .inr (0, [.ref q1, .null, .null, .int 0])), (q1, .inl (ca .int, 20, .inl (fun _ => 0))), (q2, .inl (ca .int, 20, .inl (fun _ => 0)))] := hD
  refine W.widen (k := 2) (n := 40) (by decide) (by decide) ?_
  refine va_putF (ci := 0) (v := .ref q2) (ty := (.array .int)) (C := RX0) (T := TX0) (N := 4) hx hb hts inN_0 tyX0 tyX0_ok nmX0 hown hK hP hD hS 0 rfl rfl 1 (by decide) (hts _ wn_f0_15) (fun _ h9 => h9) rfl hin rfl (by decide +kernel) rfl rfl (Nat.le_of_ble_eq_true rfl) dX0_init_17 (fun H locs hP hD hS => ?_)
  have hP : va_P D vwCl [(h0, .inr (0, [.ref q1, .ref q2, .null, .int 0])), (q1, .inl (ca .int, 20, .inl (fun _ => 0))), (q2, .inl (ca .int, 20, .inl (fun _ => 0)))] H := hP
  have hD : va_D A [(h0, .inr (0, [.ref q1, .ref q2, .null, .int 0])), (q1, .inl (ca .int, 20, .inl (fun _ => 0))), (q2, .inl (ca .int, 20, .inl (fun _ => 0)))] := hD
  refine lv_aload_n hx hb dX0_init_20 rfl (lv_at hl 0 rfl) ?_
  refine lv_bipush (v := (20 : Int32)) hx hb dX0_init_21 (by decide) ?_
  refine n_newi (N := 20) hx hb (hts _ wn_a_int) hK hP hD hS hA (by decide) (by decide) (by decide) (by decide) (by decide) dX0_init_23 (fun q3 H hP hD hS => ?_)
  have hP : va_P D vwCl [(h0, .inr (0, [.ref q1, .ref q2, .null, .int 0])), (q1, .inl (ca .int, 20, .inl (fun _ => 0))), (q2, .inl (ca .int, 20, .inl (fun _ => 0))), (q3, .inl (ca .int, 20, .inl (fun _ => 0)))] H := hP
  have hD : va_D A [(h0, .inr (0, [.ref q1, .ref q2, .null, .int 0])), (q1, .inl (ca .int, 20, .inl (fun _ => 0))), (q2, .inl (ca .int, 20, .inl (fun _ => 0))), (q3, .inl (ca .int, 20, .inl (fun _ => 0)))] := hD
  refine W.widen (k := 3) (n := 60) (by decide) (by decide) ?_
  refine va_putF (ci := 0) (v := .ref q3) (ty := (.array .int)) (C := RX0) (T := TX0) (N := 4) hx hb hts inN_0 tyX0 tyX0_ok nmX0 hown hK hP hD hS 0 rfl rfl 2 (by decide) (hts _ wn_f0_18) (fun _ h9 => h9) rfl hin rfl (by decide +kernel) rfl rfl (Nat.le_of_ble_eq_true rfl) dX0_init_25 (fun H locs hP hD hS => ?_)
  have hP : va_P D vwCl [(h0, .inr (0, [.ref q1, .ref q2, .ref q3, .int 0])), (q1, .inl (ca .int, 20, .inl (fun _ => 0))), (q2, .inl (ca .int, 20, .inl (fun _ => 0))), (q3, .inl (ca .int, 20, .inl (fun _ => 0)))] H := hP
  have hD : va_D A [(h0, .inr (0, [.ref q1, .ref q2, .ref q3, .int 0])), (q1, .inl (ca .int, 20, .inl (fun _ => 0))), (q2, .inl (ca .int, 20, .inl (fun _ => 0))), (q3, .inl (ca .int, 20, .inl (fun _ => 0)))] := hD
  have hP9 := hP.sub (ws' := [(h0, .inr (0, [.ref q1, .ref q2, .ref q3, .int 0])), (q1, .inl (ca .int, 20, .inl (fun _ => 0))), (q2, .inl (ca .int, 20, .inl (fun _ => 0))), (q3, .inl (ca .int, 20, .inl (fun _ => 0)))]) [0, 1, 2, 3] rfl
  have hD9 := hD.sub (ws' := [(h0, .inr (0, [.ref q1, .ref q2, .ref q3, .int 0])), (q1, .inl (ca .int, 20, .inl (fun _ => 0))), (q2, .inl (ca .int, 20, .inl (fun _ => 0))), (q3, .inl (ca .int, 20, .inl (fun _ => 0)))]) [0, 1, 2, 3] (by decide) rfl
  exact W.vret hx hb hr (fun t ht hW => ⟨⟨(), rfl, trivial, q1, q2, q3, by rw [ht]; exact hP9, hD9⟩, hS.F ht⟩) hS.2.2 dX0_init_28
theorem wn_ol2 : Cond.methodLink RX2 3 objectInit ∈ zTB := zch_2 _ (List.mem_of_getElem? (i := 100) (by decide +kernel)) rfl
theorem wn_f2_9 : Cond.fieldLink RX2 9 "BalloonsMoor$Berths" "weight" "[I" ∈ zTB := zch_2 _ (List.mem_of_getElem? (i := 103) (by decide +kernel)) rfl
theorem wn_f2_15 : Cond.fieldLink RX2 15 "BalloonsMoor$Berths" "place" "[I" ∈ zTB := zch_2 _ (List.mem_of_getElem? (i := 104) (by decide +kernel)) rfl
theorem wn_f2_18 : Cond.fieldLink RX2 18 "BalloonsMoor$Berths" "least" "[I" ∈ zTB := zch_2 _ (List.mem_of_getElem? (i := 105) (by decide +kernel)) rfl
theorem wn_f2_21 : Cond.fieldLink RX2 21 "BalloonsMoor$Berths" "rings" "LBalloonsMoor$Tower;" ∈ zTB := zch_2 _ (List.mem_of_getElem? (i := 101) (by decide +kernel)) rfl
theorem wn_f2_25 : Cond.fieldLink RX2 25 "BalloonsMoor$Berths" "flock" "LBalloonsMoor$Flock;" ∈ zTB := zch_2 _ (List.mem_of_getElem? (i := 102) (by decide +kernel)) rfl
set_option maxHeartbeats 4000000 in
set_option maxRecDepth 100000 in
theorem nC_2 (l : Launch) (D : va_G) (ca : FieldType → ClassId) (h0 sz : Nat) (r1 : Nat) (r2 : Nat) : Met l yX2_init (zws yX2_init cX2_init 3 none) (nrm 2 3 18) (va_Pc [.ref h0, .ref r1, .ref r2] (fun U => U.heap.size = sz ∧ va_P D vwCl [(h0, .inr (2, [.null, .null, .null, .null, .null, .int 0, .int 0]))] U.heap ∧ va_K D vwCl (zT ca) U ∧ va_D (fun _ => True) [(h0, .inr (2, [.null, .null, .null, .null, .null, .int 0, .int 0]))])) (va_Qv (fun _ : Unit => True) (fun _ t => ∃ q1 q2 q3 : Nat, va_P D vwCl [(h0, .inr (2, [.ref r1, .ref r2, .ref q1, .ref q2, .ref q3, .int 0, .int 0])), (q1, .inl (ca .int, 6, .inl (fun _ => 0))), (q2, .inl (ca .int, 6, .inl (fun _ => 0))), (q3, .inl (ca .int, 6, .inl (fun _ => 0)))] t.heap ∧ va_D (va_A [(h0, .inr (2, [.null, .null, .null, .null, .null, .int 0, .int 0]))] sz) [(h0, .inr (2, [.ref r1, .ref r2, .ref q1, .ref q2, .ref q3, .int 0, .int 0])), (q1, .inl (ca .int, 6, .inl (fun _ => 0))), (q2, .inl (ca .int, 6, .inl (fun _ => 0))), (q3, .inl (ca .int, 6, .inl (fun _ => 0)))]) (va_A [(h0, .inr (2, [.null, .null, .null, .null, .null, .int 0, .int 0]))] sz)) 3 18 (va_A [(h0, .inr (2, [.null, .null, .null, .null, .null, .int 0, .int 0]))] sz) := by
  refine Met.ofW (cc := cX2_init) (maxL := 3) (ret := none) (by decide) rfl ?_
  intro p e s m args below meth c s₁ B hml hv
  obtain ⟨rfl, hsz, hP, hK, hD0⟩ := hv
  have hx := B.exec
  have hb := B.bytes
  have hr := B.returns
  have hts0 := atoms_spec (ws := zws yX2_init cX2_init 3 none) B.pre
  have hts : ∀ w ∈ zTB, w.before [.ref h0, .ref r1, .ref r2].toArray s = true := fun w hw => hts0 w (List.mem_cons_of_mem _ hw)
  have hown : s.vm.findClass RX2 = some m.cls := findClass_of_methodNamed B.named
  have hlocks := B.notSynchronized
  have hin : meth.name = "<init>" := (name_of_methodNamed B.named B.method).1
  subst hsz
  have hD := hD0.self (sz := s.heap.size)
  generalize hAe : va_A [(h0, .inr (2, [.null, .null, .null, .null, .null, .int 0, .int 0]))] s.heap.size = A at hD ⊢
  have hA : ∀ q : Nat, s.heap.size ≤ q → A q := fun q h => by rw [← hAe]; exact Or.inr h
  have hS : va_S A s.heap s.heap [] := va_S.rf
  have hl := lv_entry [.ref h0, .ref r1, .ref r2] (n := 3) (Nat.le_of_ble_eq_true rfl)
  rw [lg_entry_eq]
  generalize (lg_sl [.ref h0, .ref r1, .ref r2] ++ List.replicate (3 - (lg_sl [.ref h0, .ref r1, .ref r2]).length) Slot.unset).toArray = ls at hl ⊢
  have hl : lv_has ls 3 [(0, .ref h0), (1, .ref r1), (2, .ref r2)] := hl
  refine lv_aload_n hx hb dX2_init_0 rfl (lv_at hl 0 rfl) ?_
  refine W.objInit hx hb hown (hts _ wn_ol2) (hts _ wn_oi) (hts _ wn_oc) rfl (by rw [hml]; exact hl.1) rfl dX2_init_1 (Nat.le_of_ble_eq_true rfl) (Nat.le_of_ble_eq_true rfl) ?_
  refine W.eq (g2 := F0 m 4 ls []) rfl ?_
  refine lv_aload_n hx hb dX2_init_4 rfl (lv_at hl 0 rfl) ?_
  refine lv_bipush (v := (6 : Int32)) hx hb dX2_init_5 (by decide) ?_
  refine n_newi (N := 6) hx hb (hts _ wn_a_int) hK hP hD hS hA (by decide) (by decide) (by decide) (by decide) (by decide) dX2_init_7 (fun q1 H hP hD hS => ?_)
  have hP : va_P D vwCl [(h0, .inr (2, [.null, .null, .null, .null, .null, .int 0, .int 0])), (q1, .inl (ca .int, 6, .inl (fun _ => 0)))] H := hP
  have hD : va_D A [(h0, .inr (2, [.null, .null, .null, .null, .null, .int 0, .int 0])), (q1, .inl (ca .int, 6, .inl (fun _ => 0)))] := hD
  refine W.widen (k := 1) (n := 6) (by decide) (by decide) ?_
  refine va_putF (ci := 2) (v := .ref q1) (ty := (.array .int)) (C := RX2) (T := TX2) (N := 7) hx hb hts inN_2 tyX2 tyX2_ok nmX2 hown hK hP hD hS 0 rfl rfl 2 (by decide) (hts _ wn_f2_9) (fun _ h9 => h9) rfl hin rfl (by decide +kernel) rfl rfl (Nat.le_of_ble_eq_true rfl) dX2_init_9 (fun H locs hP hD hS => ?_)
  have hP : va_P D vwCl [(h0, .inr (2, [.null, .null, .ref q1, .null, .null, .int 0, .int 0])), (q1, .inl (ca .int, 6, .inl (fun _ => 0)))] H := hP
  have hD : va_D A [(h0, .inr (2, [.null, .null, .ref q1, .null, .null, .int 0, .int 0])), (q1, .inl (ca .int, 6, .inl (fun _ => 0)))] := hD
  refine lv_aload_n hx hb dX2_init_12 rfl (lv_at hl 0 rfl) ?_
  refine lv_bipush (v := (6 : Int32)) hx hb dX2_init_13 (by decide) ?_
  refine n_newi (N := 6) hx hb (hts _ wn_a_int) hK hP hD hS hA (by decide) (by decide) (by decide) (by decide) (by decide) dX2_init_15 (fun q2 H hP hD hS => ?_)
  have hP : va_P D vwCl [(h0, .inr (2, [.null, .null, .ref q1, .null, .null, .int 0, .int 0])), (q1, .inl (ca .int, 6, .inl (fun _ => 0))), (q2, .inl (ca .int, 6, .inl (fun _ => 0)))] H := hP
  have hD : va_D A [(h0, .inr (2, [.null, .null, .ref q1, .null, .null, .int 0, .int 0])), (q1, .inl (ca .int, 6, .inl (fun _ => 0))), (q2, .inl (ca .int, 6, .inl (fun _ => 0)))] := hD
  refine W.widen (k := 2) (n := 12) (by decide) (by decide) ?_
  refine va_putF (ci := 2) (v := .ref q2) (ty := (.array .int)) (C := RX2) (T := TX2) (N := 7) hx hb hts inN_2 tyX2 tyX2_ok nmX2 hown hK hP hD hS 0 rfl rfl 3 (by decide) (hts _ wn_f2_15) (fun _ h9 => h9) rfl hin rfl (by decide +kernel) rfl rfl (Nat.le_of_ble_eq_true rfl) dX2_init_17 (fun H locs hP hD hS => ?_)
  have hP : va_P D vwCl [(h0, .inr (2, [.null, .null, .ref q1, .ref q2, .null, .int 0, .int 0])), (q1, .inl (ca .int, 6, .inl (fun _ => 0))), (q2, .inl (ca .int, 6, .inl (fun _ => 0)))] H := hP
  have hD : va_D A [(h0, .inr (2, [.null, .null, .ref q1, .ref q2, .null, .int 0, .int 0])), (q1, .inl (ca .int, 6, .inl (fun _ => 0))), (q2, .inl (ca .int, 6, .inl (fun _ => 0)))] := hD
  refine lv_aload_n hx hb dX2_init_20 rfl (lv_at hl 0 rfl) ?_
  refine lv_bipush (v := (6 : Int32)) hx hb dX2_init_21 (by decide) ?_
  refine n_newi (N := 6) hx hb (hts _ wn_a_int) hK hP hD hS hA (by decide) (by decide) (by decide) (by decide) (by decide) dX2_init_23 (fun q3 H hP hD hS => ?_)
  have hP : va_P D vwCl [(h0, .inr (2, [.null, .null, .ref q1, .ref q2, .null, .int 0, .int 0])), (q1, .inl (ca .int, 6, .inl (fun _ => 0))), (q2, .inl (ca .int, 6, .inl (fun _ => 0))), (q3, .inl (ca .int, 6, .inl (fun _ => 0)))] H := hP
  have hD : va_D A [(h0, .inr (2, [.null, .null, .ref q1, .ref q2, .null, .int 0, .int 0])), (q1, .inl (ca .int, 6, .inl (fun _ => 0))), (q2, .inl (ca .int, 6, .inl (fun _ => 0))), (q3, .inl (ca .int, 6, .inl (fun _ => 0)))] := hD
  refine W.widen (k := 3) (n := 18) (by decide) (by decide) ?_
  refine va_putF (ci := 2) (v := .ref q3) (ty := (.array .int)) (C := RX2) (T := TX2) (N := 7) hx hb hts inN_2 tyX2 tyX2_ok nmX2 hown hK hP hD hS 0 rfl rfl 4 (by decide) (hts _ wn_f2_18) (fun _ h9 => h9) rfl hin rfl (by decide +kernel) rfl rfl (Nat.le_of_ble_eq_true rfl) dX2_init_25 (fun H locs hP hD hS => ?_)
  have hP : va_P D vwCl [(h0, .inr (2, [.null, .null, .ref q1, .ref q2, .ref q3, .int 0, .int 0])), (q1, .inl (ca .int, 6, .inl (fun _ => 0))), (q2, .inl (ca .int, 6, .inl (fun _ => 0))), (q3, .inl (ca .int, 6, .inl (fun _ => 0)))] H := hP
  have hD : va_D A [(h0, .inr (2, [.null, .null, .ref q1, .ref q2, .ref q3, .int 0, .int 0])), (q1, .inl (ca .int, 6, .inl (fun _ => 0))), (q2, .inl (ca .int, 6, .inl (fun _ => 0))), (q3, .inl (ca .int, 6, .inl (fun _ => 0)))] := hD
  refine lv_aload_n hx hb dX2_init_28 rfl (lv_at hl 0 rfl) ?_
  refine lv_aload_n hx hb dX2_init_29 rfl (lv_at hl 1 rfl) ?_
  refine va_putF (ci := 2) (v := .ref r1) (ty := (.object "BalloonsMoor$Tower")) (C := RX2) (T := TX2) (N := 7) hx hb hts inN_2 tyX2 tyX2_ok nmX2 hown hK hP hD hS 0 rfl rfl 0 (by decide) (hts _ wn_f2_21) (fun _ h9 => h9) rfl hin rfl (by decide +kernel) rfl rfl (Nat.le_of_ble_eq_true rfl) dX2_init_30 (fun H locs hP hD hS => ?_)
  have hP : va_P D vwCl [(h0, .inr (2, [.ref r1, .null, .ref q1, .ref q2, .ref q3, .int 0, .int 0])), (q1, .inl (ca .int, 6, .inl (fun _ => 0))), (q2, .inl (ca .int, 6, .inl (fun _ => 0))), (q3, .inl (ca .int, 6, .inl (fun _ => 0)))] H := hP
  have hD : va_D A [(h0, .inr (2, [.ref r1, .null, .ref q1, .ref q2, .ref q3, .int 0, .int 0])), (q1, .inl (ca .int, 6, .inl (fun _ => 0))), (q2, .inl (ca .int, 6, .inl (fun _ => 0))), (q3, .inl (ca .int, 6, .inl (fun _ => 0)))] := hD
  refine lv_aload_n hx hb dX2_init_33 rfl (lv_at hl 0 rfl) ?_
  refine lv_aload_n hx hb dX2_init_34 rfl (lv_at hl 2 rfl) ?_
  refine va_putF (ci := 2) (v := .ref r2) (ty := (.object "BalloonsMoor$Flock")) (C := RX2) (T := TX2) (N := 7) hx hb hts inN_2 tyX2 tyX2_ok nmX2 hown hK hP hD hS 0 rfl rfl 1 (by decide) (hts _ wn_f2_25) (fun _ h9 => h9) rfl hin rfl (by decide +kernel) rfl rfl (Nat.le_of_ble_eq_true rfl) dX2_init_35 (fun H locs hP hD hS => ?_)
  have hP : va_P D vwCl [(h0, .inr (2, [.ref r1, .ref r2, .ref q1, .ref q2, .ref q3, .int 0, .int 0])), (q1, .inl (ca .int, 6, .inl (fun _ => 0))), (q2, .inl (ca .int, 6, .inl (fun _ => 0))), (q3, .inl (ca .int, 6, .inl (fun _ => 0)))] H := hP
  have hD : va_D A [(h0, .inr (2, [.ref r1, .ref r2, .ref q1, .ref q2, .ref q3, .int 0, .int 0])), (q1, .inl (ca .int, 6, .inl (fun _ => 0))), (q2, .inl (ca .int, 6, .inl (fun _ => 0))), (q3, .inl (ca .int, 6, .inl (fun _ => 0)))] := hD
  have hP9 := hP.sub (ws' := [(h0, .inr (2, [.ref r1, .ref r2, .ref q1, .ref q2, .ref q3, .int 0, .int 0])), (q1, .inl (ca .int, 6, .inl (fun _ => 0))), (q2, .inl (ca .int, 6, .inl (fun _ => 0))), (q3, .inl (ca .int, 6, .inl (fun _ => 0)))]) [0, 1, 2, 3] rfl
  have hD9 := hD.sub (ws' := [(h0, .inr (2, [.ref r1, .ref r2, .ref q1, .ref q2, .ref q3, .int 0, .int 0])), (q1, .inl (ca .int, 6, .inl (fun _ => 0))), (q2, .inl (ca .int, 6, .inl (fun _ => 0))), (q3, .inl (ca .int, 6, .inl (fun _ => 0)))]) [0, 1, 2, 3] (by decide) rfl
  exact W.vret hx hb hr (fun t ht hW => ⟨⟨(), rfl, trivial, q1, q2, q3, by rw [ht]; exact hP9, hD9⟩, hS.F ht⟩) hS.2.2 dX2_init_38
theorem wn_ol4 : Cond.methodLink RX4 3 objectInit ∈ zTB := zch_2 _ (List.mem_of_getElem? (i := 130) (by decide +kernel)) rfl
theorem wn_f4_11 : Cond.fieldLink RX4 11 "BalloonsMoor$Landing" "lift" "[I" ∈ zTB := zch_2 _ (List.mem_of_getElem? (i := 133) (by decide +kernel)) rfl
theorem wn_f4_15 : Cond.fieldLink RX4 15 "BalloonsMoor$Landing" "isNear" "[Z" ∈ zTB := zch_2 _ (List.mem_of_getElem? (i := 134) (by decide +kernel)) rfl
theorem wn_f4_19 : Cond.fieldLink RX4 19 "BalloonsMoor$Landing" "seen" "[J" ∈ zTB := zch_2 _ (List.mem_of_getElem? (i := 135) (by decide +kernel)) rfl
theorem wn_f4_23 : Cond.fieldLink RX4 23 "BalloonsMoor$Landing" "drops" "[I" ∈ zTB := zch_2 _ (List.mem_of_getElem? (i := 136) (by decide +kernel)) rfl
theorem wn_f4_26 : Cond.fieldLink RX4 26 "BalloonsMoor$Landing" "flock" "LBalloonsMoor$Flock;" ∈ zTB := zch_2 _ (List.mem_of_getElem? (i := 131) (by decide +kernel)) rfl
theorem wn_f4_30 : Cond.fieldLink RX4 30 "BalloonsMoor$Landing" "air" "LBalloonsMoor$Winds;" ∈ zTB := zch_2 _ (List.mem_of_getElem? (i := 132) (by decide +kernel)) rfl
set_option maxHeartbeats 4000000 in
set_option maxRecDepth 100000 in
theorem nC_4 (l : Launch) (D : va_G) (ca : FieldType → ClassId) (h0 sz : Nat) (r1 : Nat) (r2 : Nat) : Met l yX4_init (zws yX4_init cX4_init 3 none) (nrm 2 4 567) (va_Pc [.ref h0, .ref r1, .ref r2] (fun U => U.heap.size = sz ∧ va_P D vwCl [(h0, .inr (4, [.null, .null, .null, .null, .null, .null, .int 0, .int 0, .int 0, .int 0, .int 0, .int 0]))] U.heap ∧ va_K D vwCl (zT ca) U ∧ va_D (fun _ => True) [(h0, .inr (4, [.null, .null, .null, .null, .null, .null, .int 0, .int 0, .int 0, .int 0, .int 0, .int 0]))])) (va_Qv (fun _ : Unit => True) (fun _ t => ∃ q1 q2 q3 q4 : Nat, va_P D vwCl [(h0, .inr (4, [.ref r1, .ref r2, .ref q1, .ref q2, .ref q3, .ref q4, .int 0, .int 0, .int 0, .int 0, .int 0, .int 0])), (q1, .inl (ca .int, 70, .inl (fun _ => 0))), (q2, .inl (ca .boolean, 70, .inl (fun _ => 0))), (q3, .inl (ca .long, 420, .inr (.inl (fun _ => 0)))), (q4, .inl (ca .int, 7, .inl (fun _ => 0)))] t.heap ∧ va_D (va_A [(h0, .inr (4, [.null, .null, .null, .null, .null, .null, .int 0, .int 0, .int 0, .int 0, .int 0, .int 0]))] sz) [(h0, .inr (4, [.ref r1, .ref r2, .ref q1, .ref q2, .ref q3, .ref q4, .int 0, .int 0, .int 0, .int 0, .int 0, .int 0])), (q1, .inl (ca .int, 70, .inl (fun _ => 0))), (q2, .inl (ca .boolean, 70, .inl (fun _ => 0))), (q3, .inl (ca .long, 420, .inr (.inl (fun _ => 0)))), (q4, .inl (ca .int, 7, .inl (fun _ => 0)))]) (va_A [(h0, .inr (4, [.null, .null, .null, .null, .null, .null, .int 0, .int 0, .int 0, .int 0, .int 0, .int 0]))] sz)) 4 567 (va_A [(h0, .inr (4, [.null, .null, .null, .null, .null, .null, .int 0, .int 0, .int 0, .int 0, .int 0, .int 0]))] sz) := by
  refine Met.ofW (cc := cX4_init) (maxL := 3) (ret := none) (by decide) rfl ?_
  intro p e s m args below meth c s₁ B hml hv
  obtain ⟨rfl, hsz, hP, hK, hD0⟩ := hv
  have hx := B.exec
  have hb := B.bytes
  have hr := B.returns
  have hts0 := atoms_spec (ws := zws yX4_init cX4_init 3 none) B.pre
  have hts : ∀ w ∈ zTB, w.before [.ref h0, .ref r1, .ref r2].toArray s = true := fun w hw => hts0 w (List.mem_cons_of_mem _ hw)
  have hown : s.vm.findClass RX4 = some m.cls := findClass_of_methodNamed B.named
  have hlocks := B.notSynchronized
  have hin : meth.name = "<init>" := (name_of_methodNamed B.named B.method).1
  subst hsz
  have hD := hD0.self (sz := s.heap.size)
  generalize hAe : va_A [(h0, .inr (4, [.null, .null, .null, .null, .null, .null, .int 0, .int 0, .int 0, .int 0, .int 0, .int 0]))] s.heap.size = A at hD ⊢
  have hA : ∀ q : Nat, s.heap.size ≤ q → A q := fun q h => by rw [← hAe]; exact Or.inr h
  have hS : va_S A s.heap s.heap [] := va_S.rf
  have hl := lv_entry [.ref h0, .ref r1, .ref r2] (n := 3) (Nat.le_of_ble_eq_true rfl)
  rw [lg_entry_eq]
  generalize (lg_sl [.ref h0, .ref r1, .ref r2] ++ List.replicate (3 - (lg_sl [.ref h0, .ref r1, .ref r2]).length) Slot.unset).toArray = ls at hl ⊢
  have hl : lv_has ls 3 [(0, .ref h0), (1, .ref r1), (2, .ref r2)] := hl
  refine lv_aload_n hx hb dX4_init_0 rfl (lv_at hl 0 rfl) ?_
  refine W.objInit hx hb hown (hts _ wn_ol4) (hts _ wn_oi) (hts _ wn_oc) rfl (by rw [hml]; exact hl.1) rfl dX4_init_1 (Nat.le_of_ble_eq_true rfl) (Nat.le_of_ble_eq_true rfl) ?_
  refine W.eq (g2 := F0 m 4 ls []) rfl ?_
  refine lv_aload_n hx hb dX4_init_4 rfl (lv_at hl 0 rfl) ?_
  refine lv_bipush (v := (70 : Int32)) hx hb dX4_init_5 (by decide) ?_
  refine n_newi (N := 70) hx hb (hts _ wn_a_int) hK hP hD hS hA (by decide) (by decide) (by decide) (by decide) (by decide) dX4_init_7 (fun q1 H hP hD hS => ?_)
  have hP : va_P D vwCl [(h0, .inr (4, [.null, .null, .null, .null, .null, .null, .int 0, .int 0, .int 0, .int 0, .int 0, .int 0])), (q1, .inl (ca .int, 70, .inl (fun _ => 0)))] H := hP
  have hD : va_D A [(h0, .inr (4, [.null, .null, .null, .null, .null, .null, .int 0, .int 0, .int 0, .int 0, .int 0, .int 0])), (q1, .inl (ca .int, 70, .inl (fun _ => 0)))] := hD
  refine W.widen (k := 1) (n := 70) (by decide) (by decide) ?_
  refine va_putF (ci := 4) (v := .ref q1) (ty := (.array .int)) (C := RX4) (T := TX4) (N := 12) hx hb hts inN_4 tyX4 tyX4_ok nmX4 hown hK hP hD hS 0 rfl rfl 2 (by decide) (hts _ wn_f4_11) (fun _ h9 => h9) rfl hin rfl (by decide +kernel) rfl rfl (Nat.le_of_ble_eq_true rfl) dX4_init_9 (fun H locs hP hD hS => ?_)
  have hP : va_P D vwCl [(h0, .inr (4, [.null, .null, .ref q1, .null, .null, .null, .int 0, .int 0, .int 0, .int 0, .int 0, .int 0])), (q1, .inl (ca .int, 70, .inl (fun _ => 0)))] H := hP
  have hD : va_D A [(h0, .inr (4, [.null, .null, .ref q1, .null, .null, .null, .int 0, .int 0, .int 0, .int 0, .int 0, .int 0])), (q1, .inl (ca .int, 70, .inl (fun _ => 0)))] := hD
  refine lv_aload_n hx hb dX4_init_12 rfl (lv_at hl 0 rfl) ?_
  refine lv_bipush (v := (70 : Int32)) hx hb dX4_init_13 (by decide) ?_
  refine n_newz (N := 70) hx hb (hts _ wn_a_boolean) hK hP hD hS hA (by decide) (by decide) (by decide) (by decide) (by decide) dX4_init_15 (fun q2 H hP hD hS => ?_)
  have hP : va_P D vwCl [(h0, .inr (4, [.null, .null, .ref q1, .null, .null, .null, .int 0, .int 0, .int 0, .int 0, .int 0, .int 0])), (q1, .inl (ca .int, 70, .inl (fun _ => 0))), (q2, .inl (ca .boolean, 70, .inl (fun _ => 0)))] H := hP
  have hD : va_D A [(h0, .inr (4, [.null, .null, .ref q1, .null, .null, .null, .int 0, .int 0, .int 0, .int 0, .int 0, .int 0])), (q1, .inl (ca .int, 70, .inl (fun _ => 0))), (q2, .inl (ca .boolean, 70, .inl (fun _ => 0)))] := hD
  refine W.widen (k := 2) (n := 140) (by decide) (by decide) ?_
  refine va_putF (ci := 4) (v := .ref q2) (ty := (.array .boolean)) (C := RX4) (T := TX4) (N := 12) hx hb hts inN_4 tyX4 tyX4_ok nmX4 hown hK hP hD hS 0 rfl rfl 3 (by decide) (hts _ wn_f4_15) (fun _ h9 => h9) rfl hin rfl (by decide +kernel) rfl rfl (Nat.le_of_ble_eq_true rfl) dX4_init_17 (fun H locs hP hD hS => ?_)
  have hP : va_P D vwCl [(h0, .inr (4, [.null, .null, .ref q1, .ref q2, .null, .null, .int 0, .int 0, .int 0, .int 0, .int 0, .int 0])), (q1, .inl (ca .int, 70, .inl (fun _ => 0))), (q2, .inl (ca .boolean, 70, .inl (fun _ => 0)))] H := hP
  have hD : va_D A [(h0, .inr (4, [.null, .null, .ref q1, .ref q2, .null, .null, .int 0, .int 0, .int 0, .int 0, .int 0, .int 0])), (q1, .inl (ca .int, 70, .inl (fun _ => 0))), (q2, .inl (ca .boolean, 70, .inl (fun _ => 0)))] := hD
  refine lv_aload_n hx hb dX4_init_20 rfl (lv_at hl 0 rfl) ?_
  refine lv_sipush (v := (420 : Int32)) hx hb dX4_init_21 (by decide) ?_
  refine n_newl (N := 420) hx hb (hts _ wn_a_long) hK hP hD hS hA (by decide) (by decide) (by decide) (by decide) (by decide) dX4_init_24 (fun q3 H hP hD hS => ?_)
  have hP : va_P D vwCl [(h0, .inr (4, [.null, .null, .ref q1, .ref q2, .null, .null, .int 0, .int 0, .int 0, .int 0, .int 0, .int 0])), (q1, .inl (ca .int, 70, .inl (fun _ => 0))), (q2, .inl (ca .boolean, 70, .inl (fun _ => 0))), (q3, .inl (ca .long, 420, .inr (.inl (fun _ => 0))))] H := hP
  have hD : va_D A [(h0, .inr (4, [.null, .null, .ref q1, .ref q2, .null, .null, .int 0, .int 0, .int 0, .int 0, .int 0, .int 0])), (q1, .inl (ca .int, 70, .inl (fun _ => 0))), (q2, .inl (ca .boolean, 70, .inl (fun _ => 0))), (q3, .inl (ca .long, 420, .inr (.inl (fun _ => 0))))] := hD
  refine W.widen (k := 3) (n := 560) (by decide) (by decide) ?_
  refine va_putF (ci := 4) (v := .ref q3) (ty := (.array .long)) (C := RX4) (T := TX4) (N := 12) hx hb hts inN_4 tyX4 tyX4_ok nmX4 hown hK hP hD hS 0 rfl rfl 4 (by decide) (hts _ wn_f4_19) (fun _ h9 => h9) rfl hin rfl (by decide +kernel) rfl rfl (Nat.le_of_ble_eq_true rfl) dX4_init_26 (fun H locs hP hD hS => ?_)
  have hP : va_P D vwCl [(h0, .inr (4, [.null, .null, .ref q1, .ref q2, .ref q3, .null, .int 0, .int 0, .int 0, .int 0, .int 0, .int 0])), (q1, .inl (ca .int, 70, .inl (fun _ => 0))), (q2, .inl (ca .boolean, 70, .inl (fun _ => 0))), (q3, .inl (ca .long, 420, .inr (.inl (fun _ => 0))))] H := hP
  have hD : va_D A [(h0, .inr (4, [.null, .null, .ref q1, .ref q2, .ref q3, .null, .int 0, .int 0, .int 0, .int 0, .int 0, .int 0])), (q1, .inl (ca .int, 70, .inl (fun _ => 0))), (q2, .inl (ca .boolean, 70, .inl (fun _ => 0))), (q3, .inl (ca .long, 420, .inr (.inl (fun _ => 0))))] := hD
  refine lv_aload_n hx hb dX4_init_29 rfl (lv_at hl 0 rfl) ?_
  refine lv_bipush (v := (7 : Int32)) hx hb dX4_init_30 (by decide) ?_
  refine n_newi (N := 7) hx hb (hts _ wn_a_int) hK hP hD hS hA (by decide) (by decide) (by decide) (by decide) (by decide) dX4_init_32 (fun q4 H hP hD hS => ?_)
  have hP : va_P D vwCl [(h0, .inr (4, [.null, .null, .ref q1, .ref q2, .ref q3, .null, .int 0, .int 0, .int 0, .int 0, .int 0, .int 0])), (q1, .inl (ca .int, 70, .inl (fun _ => 0))), (q2, .inl (ca .boolean, 70, .inl (fun _ => 0))), (q3, .inl (ca .long, 420, .inr (.inl (fun _ => 0)))), (q4, .inl (ca .int, 7, .inl (fun _ => 0)))] H := hP
  have hD : va_D A [(h0, .inr (4, [.null, .null, .ref q1, .ref q2, .ref q3, .null, .int 0, .int 0, .int 0, .int 0, .int 0, .int 0])), (q1, .inl (ca .int, 70, .inl (fun _ => 0))), (q2, .inl (ca .boolean, 70, .inl (fun _ => 0))), (q3, .inl (ca .long, 420, .inr (.inl (fun _ => 0)))), (q4, .inl (ca .int, 7, .inl (fun _ => 0)))] := hD
  refine W.widen (k := 4) (n := 567) (by decide) (by decide) ?_
  refine va_putF (ci := 4) (v := .ref q4) (ty := (.array .int)) (C := RX4) (T := TX4) (N := 12) hx hb hts inN_4 tyX4 tyX4_ok nmX4 hown hK hP hD hS 0 rfl rfl 5 (by decide) (hts _ wn_f4_23) (fun _ h9 => h9) rfl hin rfl (by decide +kernel) rfl rfl (Nat.le_of_ble_eq_true rfl) dX4_init_34 (fun H locs hP hD hS => ?_)
  have hP : va_P D vwCl [(h0, .inr (4, [.null, .null, .ref q1, .ref q2, .ref q3, .ref q4, .int 0, .int 0, .int 0, .int 0, .int 0, .int 0])), (q1, .inl (ca .int, 70, .inl (fun _ => 0))), (q2, .inl (ca .boolean, 70, .inl (fun _ => 0))), (q3, .inl (ca .long, 420, .inr (.inl (fun _ => 0)))), (q4, .inl (ca .int, 7, .inl (fun _ => 0)))] H := hP
  have hD : va_D A [(h0, .inr (4, [.null, .null, .ref q1, .ref q2, .ref q3, .ref q4, .int 0, .int 0, .int 0, .int 0, .int 0, .int 0])), (q1, .inl (ca .int, 70, .inl (fun _ => 0))), (q2, .inl (ca .boolean, 70, .inl (fun _ => 0))), (q3, .inl (ca .long, 420, .inr (.inl (fun _ => 0)))), (q4, .inl (ca .int, 7, .inl (fun _ => 0)))] := hD
  refine lv_aload_n hx hb dX4_init_37 rfl (lv_at hl 0 rfl) ?_
  refine lv_aload_n hx hb dX4_init_38 rfl (lv_at hl 1 rfl) ?_
  refine va_putF (ci := 4) (v := .ref r1) (ty := (.object "BalloonsMoor$Flock")) (C := RX4) (T := TX4) (N := 12) hx hb hts inN_4 tyX4 tyX4_ok nmX4 hown hK hP hD hS 0 rfl rfl 0 (by decide) (hts _ wn_f4_26) (fun _ h9 => h9) rfl hin rfl (by decide +kernel) rfl rfl (Nat.le_of_ble_eq_true rfl) dX4_init_39 (fun H locs hP hD hS => ?_)
  have hP : va_P D vwCl [(h0, .inr (4, [.ref r1, .null, .ref q1, .ref q2, .ref q3, .ref q4, .int 0, .int 0, .int 0, .int 0, .int 0, .int 0])), (q1, .inl (ca .int, 70, .inl (fun _ => 0))), (q2, .inl (ca .boolean, 70, .inl (fun _ => 0))), (q3, .inl (ca .long, 420, .inr (.inl (fun _ => 0)))), (q4, .inl (ca .int, 7, .inl (fun _ => 0)))] H := hP
  have hD : va_D A [(h0, .inr (4, [.ref r1, .null, .ref q1, .ref q2, .ref q3, .ref q4, .int 0, .int 0, .int 0, .int 0, .int 0, .int 0])), (q1, .inl (ca .int, 70, .inl (fun _ => 0))), (q2, .inl (ca .boolean, 70, .inl (fun _ => 0))), (q3, .inl (ca .long, 420, .inr (.inl (fun _ => 0)))), (q4, .inl (ca .int, 7, .inl (fun _ => 0)))] := hD
  refine lv_aload_n hx hb dX4_init_42 rfl (lv_at hl 0 rfl) ?_
  refine lv_aload_n hx hb dX4_init_43 rfl (lv_at hl 2 rfl) ?_
  refine va_putF (ci := 4) (v := .ref r2) (ty := (.object "BalloonsMoor$Winds")) (C := RX4) (T := TX4) (N := 12) hx hb hts inN_4 tyX4 tyX4_ok nmX4 hown hK hP hD hS 0 rfl rfl 1 (by decide) (hts _ wn_f4_30) (fun _ h9 => h9) rfl hin rfl (by decide +kernel) rfl rfl (Nat.le_of_ble_eq_true rfl) dX4_init_44 (fun H locs hP hD hS => ?_)
  have hP : va_P D vwCl [(h0, .inr (4, [.ref r1, .ref r2, .ref q1, .ref q2, .ref q3, .ref q4, .int 0, .int 0, .int 0, .int 0, .int 0, .int 0])), (q1, .inl (ca .int, 70, .inl (fun _ => 0))), (q2, .inl (ca .boolean, 70, .inl (fun _ => 0))), (q3, .inl (ca .long, 420, .inr (.inl (fun _ => 0)))), (q4, .inl (ca .int, 7, .inl (fun _ => 0)))] H := hP
  have hD : va_D A [(h0, .inr (4, [.ref r1, .ref r2, .ref q1, .ref q2, .ref q3, .ref q4, .int 0, .int 0, .int 0, .int 0, .int 0, .int 0])), (q1, .inl (ca .int, 70, .inl (fun _ => 0))), (q2, .inl (ca .boolean, 70, .inl (fun _ => 0))), (q3, .inl (ca .long, 420, .inr (.inl (fun _ => 0)))), (q4, .inl (ca .int, 7, .inl (fun _ => 0)))] := hD
  have hP9 := hP.sub (ws' := [(h0, .inr (4, [.ref r1, .ref r2, .ref q1, .ref q2, .ref q3, .ref q4, .int 0, .int 0, .int 0, .int 0, .int 0, .int 0])), (q1, .inl (ca .int, 70, .inl (fun _ => 0))), (q2, .inl (ca .boolean, 70, .inl (fun _ => 0))), (q3, .inl (ca .long, 420, .inr (.inl (fun _ => 0)))), (q4, .inl (ca .int, 7, .inl (fun _ => 0)))]) [0, 1, 2, 3, 4] rfl
  have hD9 := hD.sub (ws' := [(h0, .inr (4, [.ref r1, .ref r2, .ref q1, .ref q2, .ref q3, .ref q4, .int 0, .int 0, .int 0, .int 0, .int 0, .int 0])), (q1, .inl (ca .int, 70, .inl (fun _ => 0))), (q2, .inl (ca .boolean, 70, .inl (fun _ => 0))), (q3, .inl (ca .long, 420, .inr (.inl (fun _ => 0)))), (q4, .inl (ca .int, 7, .inl (fun _ => 0)))]) [0, 1, 2, 3, 4] (by decide) rfl
  exact W.vret hx hb hr (fun t ht hW => ⟨⟨(), rfl, trivial, q1, q2, q3, q4, by rw [ht]; exact hP9, hD9⟩, hS.F ht⟩) hS.2.2 dX4_init_47
theorem wn_ol10 : Cond.methodLink RX10 3 objectInit ∈ zTB := zch_1 _ (List.mem_of_getElem? (i := 93) (by decide +kernel)) rfl
theorem wn_f10_9 : Cond.fieldLink RX10 9 "BalloonsMoor$Winds" "whither" "[I" ∈ zTB := zch_1 _ (List.mem_of_getElem? (i := 97) (by decide +kernel)) rfl
theorem wn_f10_15 : Cond.fieldLink RX10 15 "BalloonsMoor$Winds" "strong" "[I" ∈ zTB := zch_1 _ (List.mem_of_getElem? (i := 99) (by decide +kernel)) rfl
theorem wn_f10_18 : Cond.fieldLink RX10 18 "BalloonsMoor$Winds" "east" "[I" ∈ zTB := zch_1 _ (List.mem_of_getElem? (i := 101) (by decide +kernel)) rfl
theorem wn_f10_21 : Cond.fieldLink RX10 21 "BalloonsMoor$Winds" "south" "[I" ∈ zTB := zch_1 _ (List.mem_of_getElem? (i := 104) (by decide +kernel)) rfl
theorem wn_f10_24 : Cond.fieldLink RX10 24 "BalloonsMoor$Winds" "draft" "[I" ∈ zTB := zch_1 _ (List.mem_of_getElem? (i := 107) (by decide +kernel)) rfl
set_option maxHeartbeats 4000000 in
set_option maxRecDepth 100000 in
theorem nC_10 (l : Launch) (D : va_G) (ca : FieldType → ClassId) (h0 sz : Nat) : Met l yX10_init (zws yX10_init cX10_init 1 none) (nrm 3 5 60) (va_Pc [.ref h0] (fun U => U.heap.size = sz ∧ va_P D vwCl [(h0, .inr (10, [.null, .null, .null, .null, .null]))] U.heap ∧ va_K D vwCl (zT ca) U ∧ va_D (fun _ => True) [(h0, .inr (10, [.null, .null, .null, .null, .null]))])) (va_Qv (fun _ : Unit => True) (fun _ t => ∃ q1 q2 q3 q4 q5 : Nat, va_P D vwCl [(h0, .inr (10, [.ref q1, .ref q2, .ref q3, .ref q4, .ref q5])), (q1, .inl (ca .int, 10, .inl nfill)), (q2, .inl (ca .int, 10, .inl (fun _ => 0))), (q3, .inl (ca .int, 10, .inl (fun _ => 0))), (q4, .inl (ca .int, 10, .inl (fun _ => 0))), (q5, .inl (ca .int, 20, .inl (fun _ => 0)))] t.heap ∧ va_D (va_A [(h0, .inr (10, [.null, .null, .null, .null, .null]))] sz) [(h0, .inr (10, [.ref q1, .ref q2, .ref q3, .ref q4, .ref q5])), (q1, .inl (ca .int, 10, .inl nfill)), (q2, .inl (ca .int, 10, .inl (fun _ => 0))), (q3, .inl (ca .int, 10, .inl (fun _ => 0))), (q4, .inl (ca .int, 10, .inl (fun _ => 0))), (q5, .inl (ca .int, 20, .inl (fun _ => 0)))]) (va_A [(h0, .inr (10, [.null, .null, .null, .null, .null]))] sz)) 5 60 (va_A [(h0, .inr (10, [.null, .null, .null, .null, .null]))] sz) := by
  refine Met.ofW (cc := cX10_init) (maxL := 1) (ret := none) (by decide) rfl ?_
  intro p e s m args below meth c s₁ B hml hv
  obtain ⟨rfl, hsz, hP, hK, hD0⟩ := hv
  have hx := B.exec
  have hb := B.bytes
  have hr := B.returns
  have hts0 := atoms_spec (ws := zws yX10_init cX10_init 1 none) B.pre
  have hts : ∀ w ∈ zTB, w.before [.ref h0].toArray s = true := fun w hw => hts0 w (List.mem_cons_of_mem _ hw)
  have hown : s.vm.findClass RX10 = some m.cls := findClass_of_methodNamed B.named
  have hlocks := B.notSynchronized
  have hin : meth.name = "<init>" := (name_of_methodNamed B.named B.method).1
  subst hsz
  have hD := hD0.self (sz := s.heap.size)
  generalize hAe : va_A [(h0, .inr (10, [.null, .null, .null, .null, .null]))] s.heap.size = A at hD ⊢
  have hA : ∀ q : Nat, s.heap.size ≤ q → A q := fun q h => by rw [← hAe]; exact Or.inr h
  have hS : va_S A s.heap s.heap [] := va_S.rf
  have hl := lv_entry [.ref h0] (n := 1) (Nat.le_of_ble_eq_true rfl)
  rw [lg_entry_eq]
  generalize (lg_sl [.ref h0] ++ List.replicate (1 - (lg_sl [.ref h0]).length) Slot.unset).toArray = ls at hl ⊢
  have hl : lv_has ls 1 [(0, .ref h0)] := hl
  refine lv_aload_n hx hb dX10_init_0 rfl (lv_at hl 0 rfl) ?_
  refine W.objInit hx hb hown (hts _ wn_ol10) (hts _ wn_oi) (hts _ wn_oc) rfl (by rw [hml]; exact hl.1) rfl dX10_init_1 (Nat.le_of_ble_eq_true rfl) (Nat.le_of_ble_eq_true rfl) ?_
  refine W.eq (g2 := F0 m 4 ls []) rfl ?_
  refine lv_aload_n hx hb dX10_init_4 rfl (lv_at hl 0 rfl) ?_
  refine lv_bipush (v := (10 : Int32)) hx hb dX10_init_5 (by decide) ?_
  refine n_newi (N := 10) hx hb (hts _ wn_a_int) hK hP hD hS hA (by decide) (by decide) (by decide) (by decide) (by decide) dX10_init_7 (fun q1 H hP hD hS => ?_)
  have hP : va_P D vwCl [(h0, .inr (10, [.null, .null, .null, .null, .null])), (q1, .inl (ca .int, 10, .inl (fun _ => 0)))] H := hP
  have hD : va_D A [(h0, .inr (10, [.null, .null, .null, .null, .null])), (q1, .inl (ca .int, 10, .inl (fun _ => 0)))] := hD
  refine W.widen (k := 1) (n := 10) (by decide) (by decide) ?_
  refine va_putF (ci := 10) (v := .ref q1) (ty := (.array .int)) (C := RX10) (T := TX10) (N := 5) hx hb hts inN_10 tyX10 tyX10_ok nmX10 hown hK hP hD hS 0 rfl rfl 0 (by decide) (hts _ wn_f10_9) (fun _ h9 => h9) rfl hin rfl (by decide +kernel) rfl rfl (Nat.le_of_ble_eq_true rfl) dX10_init_9 (fun H locs hP hD hS => ?_)
  have hP : va_P D vwCl [(h0, .inr (10, [.ref q1, .null, .null, .null, .null])), (q1, .inl (ca .int, 10, .inl (fun _ => 0)))] H := hP
  have hD : va_D A [(h0, .inr (10, [.ref q1, .null, .null, .null, .null])), (q1, .inl (ca .int, 10, .inl (fun _ => 0)))] := hD
  refine lv_aload_n hx hb dX10_init_12 rfl (lv_at hl 0 rfl) ?_
  refine lv_bipush (v := (10 : Int32)) hx hb dX10_init_13 (by decide) ?_
  refine n_newi (N := 10) hx hb (hts _ wn_a_int) hK hP hD hS hA (by decide) (by decide) (by decide) (by decide) (by decide) dX10_init_15 (fun q2 H hP hD hS => ?_)
  have hP : va_P D vwCl [(h0, .inr (10, [.ref q1, .null, .null, .null, .null])), (q1, .inl (ca .int, 10, .inl (fun _ => 0))), (q2, .inl (ca .int, 10, .inl (fun _ => 0)))] H := hP
  have hD : va_D A [(h0, .inr (10, [.ref q1, .null, .null, .null, .null])), (q1, .inl (ca .int, 10, .inl (fun _ => 0))), (q2, .inl (ca .int, 10, .inl (fun _ => 0)))] := hD
  refine W.widen (k := 2) (n := 20) (by decide) (by decide) ?_
  refine va_putF (ci := 10) (v := .ref q2) (ty := (.array .int)) (C := RX10) (T := TX10) (N := 5) hx hb hts inN_10 tyX10 tyX10_ok nmX10 hown hK hP hD hS 0 rfl rfl 1 (by decide) (hts _ wn_f10_15) (fun _ h9 => h9) rfl hin rfl (by decide +kernel) rfl rfl (Nat.le_of_ble_eq_true rfl) dX10_init_17 (fun H locs hP hD hS => ?_)
  have hP : va_P D vwCl [(h0, .inr (10, [.ref q1, .ref q2, .null, .null, .null])), (q1, .inl (ca .int, 10, .inl (fun _ => 0))), (q2, .inl (ca .int, 10, .inl (fun _ => 0)))] H := hP
  have hD : va_D A [(h0, .inr (10, [.ref q1, .ref q2, .null, .null, .null])), (q1, .inl (ca .int, 10, .inl (fun _ => 0))), (q2, .inl (ca .int, 10, .inl (fun _ => 0)))] := hD
  refine lv_aload_n hx hb dX10_init_20 rfl (lv_at hl 0 rfl) ?_
  refine lv_bipush (v := (10 : Int32)) hx hb dX10_init_21 (by decide) ?_
  refine n_newi (N := 10) hx hb (hts _ wn_a_int) hK hP hD hS hA (by decide) (by decide) (by decide) (by decide) (by decide) dX10_init_23 (fun q3 H hP hD hS => ?_)
  have hP : va_P D vwCl [(h0, .inr (10, [.ref q1, .ref q2, .null, .null, .null])), (q1, .inl (ca .int, 10, .inl (fun _ => 0))), (q2, .inl (ca .int, 10, .inl (fun _ => 0))), (q3, .inl (ca .int, 10, .inl (fun _ => 0)))] H := hP
  have hD : va_D A [(h0, .inr (10, [.ref q1, .ref q2, .null, .null, .null])), (q1, .inl (ca .int, 10, .inl (fun _ => 0))), (q2, .inl (ca .int, 10, .inl (fun _ => 0))), (q3, .inl (ca .int, 10, .inl (fun _ => 0)))] := hD
  refine W.widen (k := 3) (n := 30) (by decide) (by decide) ?_
  refine va_putF (ci := 10) (v := .ref q3) (ty := (.array .int)) (C := RX10) (T := TX10) (N := 5) hx hb hts inN_10 tyX10 tyX10_ok nmX10 hown hK hP hD hS 0 rfl rfl 2 (by decide) (hts _ wn_f10_18) (fun _ h9 => h9) rfl hin rfl (by decide +kernel) rfl rfl (Nat.le_of_ble_eq_true rfl) dX10_init_25 (fun H locs hP hD hS => ?_)
  have hP : va_P D vwCl [(h0, .inr (10, [.ref q1, .ref q2, .ref q3, .null, .null])), (q1, .inl (ca .int, 10, .inl (fun _ => 0))), (q2, .inl (ca .int, 10, .inl (fun _ => 0))), (q3, .inl (ca .int, 10, .inl (fun _ => 0)))] H := hP
  have hD : va_D A [(h0, .inr (10, [.ref q1, .ref q2, .ref q3, .null, .null])), (q1, .inl (ca .int, 10, .inl (fun _ => 0))), (q2, .inl (ca .int, 10, .inl (fun _ => 0))), (q3, .inl (ca .int, 10, .inl (fun _ => 0)))] := hD
  refine lv_aload_n hx hb dX10_init_28 rfl (lv_at hl 0 rfl) ?_
  refine lv_bipush (v := (10 : Int32)) hx hb dX10_init_29 (by decide) ?_
  refine n_newi (N := 10) hx hb (hts _ wn_a_int) hK hP hD hS hA (by decide) (by decide) (by decide) (by decide) (by decide) dX10_init_31 (fun q4 H hP hD hS => ?_)
  have hP : va_P D vwCl [(h0, .inr (10, [.ref q1, .ref q2, .ref q3, .null, .null])), (q1, .inl (ca .int, 10, .inl (fun _ => 0))), (q2, .inl (ca .int, 10, .inl (fun _ => 0))), (q3, .inl (ca .int, 10, .inl (fun _ => 0))), (q4, .inl (ca .int, 10, .inl (fun _ => 0)))] H := hP
  have hD : va_D A [(h0, .inr (10, [.ref q1, .ref q2, .ref q3, .null, .null])), (q1, .inl (ca .int, 10, .inl (fun _ => 0))), (q2, .inl (ca .int, 10, .inl (fun _ => 0))), (q3, .inl (ca .int, 10, .inl (fun _ => 0))), (q4, .inl (ca .int, 10, .inl (fun _ => 0)))] := hD
  refine W.widen (k := 4) (n := 40) (by decide) (by decide) ?_
  refine va_putF (ci := 10) (v := .ref q4) (ty := (.array .int)) (C := RX10) (T := TX10) (N := 5) hx hb hts inN_10 tyX10 tyX10_ok nmX10 hown hK hP hD hS 0 rfl rfl 3 (by decide) (hts _ wn_f10_21) (fun _ h9 => h9) rfl hin rfl (by decide +kernel) rfl rfl (Nat.le_of_ble_eq_true rfl) dX10_init_33 (fun H locs hP hD hS => ?_)
  have hP : va_P D vwCl [(h0, .inr (10, [.ref q1, .ref q2, .ref q3, .ref q4, .null])), (q1, .inl (ca .int, 10, .inl (fun _ => 0))), (q2, .inl (ca .int, 10, .inl (fun _ => 0))), (q3, .inl (ca .int, 10, .inl (fun _ => 0))), (q4, .inl (ca .int, 10, .inl (fun _ => 0)))] H := hP
  have hD : va_D A [(h0, .inr (10, [.ref q1, .ref q2, .ref q3, .ref q4, .null])), (q1, .inl (ca .int, 10, .inl (fun _ => 0))), (q2, .inl (ca .int, 10, .inl (fun _ => 0))), (q3, .inl (ca .int, 10, .inl (fun _ => 0))), (q4, .inl (ca .int, 10, .inl (fun _ => 0)))] := hD
  refine lv_aload_n hx hb dX10_init_36 rfl (lv_at hl 0 rfl) ?_
  refine lv_bipush (v := (20 : Int32)) hx hb dX10_init_37 (by decide) ?_
  refine n_newi (N := 20) hx hb (hts _ wn_a_int) hK hP hD hS hA (by decide) (by decide) (by decide) (by decide) (by decide) dX10_init_39 (fun q5 H hP hD hS => ?_)
  have hP : va_P D vwCl [(h0, .inr (10, [.ref q1, .ref q2, .ref q3, .ref q4, .null])), (q1, .inl (ca .int, 10, .inl (fun _ => 0))), (q2, .inl (ca .int, 10, .inl (fun _ => 0))), (q3, .inl (ca .int, 10, .inl (fun _ => 0))), (q4, .inl (ca .int, 10, .inl (fun _ => 0))), (q5, .inl (ca .int, 20, .inl (fun _ => 0)))] H := hP
  have hD : va_D A [(h0, .inr (10, [.ref q1, .ref q2, .ref q3, .ref q4, .null])), (q1, .inl (ca .int, 10, .inl (fun _ => 0))), (q2, .inl (ca .int, 10, .inl (fun _ => 0))), (q3, .inl (ca .int, 10, .inl (fun _ => 0))), (q4, .inl (ca .int, 10, .inl (fun _ => 0))), (q5, .inl (ca .int, 20, .inl (fun _ => 0)))] := hD
  refine W.widen (k := 5) (n := 60) (by decide) (by decide) ?_
  refine va_putF (ci := 10) (v := .ref q5) (ty := (.array .int)) (C := RX10) (T := TX10) (N := 5) hx hb hts inN_10 tyX10 tyX10_ok nmX10 hown hK hP hD hS 0 rfl rfl 4 (by decide) (hts _ wn_f10_24) (fun _ h9 => h9) rfl hin rfl (by decide +kernel) rfl rfl (Nat.le_of_ble_eq_true rfl) dX10_init_41 (fun H locs hP hD hS => ?_)
  have hP : va_P D vwCl [(h0, .inr (10, [.ref q1, .ref q2, .ref q3, .ref q4, .ref q5])), (q1, .inl (ca .int, 10, .inl (fun _ => 0))), (q2, .inl (ca .int, 10, .inl (fun _ => 0))), (q3, .inl (ca .int, 10, .inl (fun _ => 0))), (q4, .inl (ca .int, 10, .inl (fun _ => 0))), (q5, .inl (ca .int, 20, .inl (fun _ => 0)))] H := hP
  have hD : va_D A [(h0, .inr (10, [.ref q1, .ref q2, .ref q3, .ref q4, .ref q5])), (q1, .inl (ca .int, 10, .inl (fun _ => 0))), (q2, .inl (ca .int, 10, .inl (fun _ => 0))), (q3, .inl (ca .int, 10, .inl (fun _ => 0))), (q4, .inl (ca .int, 10, .inl (fun _ => 0))), (q5, .inl (ca .int, 20, .inl (fun _ => 0)))] := hD
  refine lv_aload_n hx hb dX10_init_44 rfl (lv_at hl 0 rfl) ?_
  refine va_get (ci := 10) (v := .ref q1) (C := RX10) (T := TX10) (N := 5) hx hb hts inN_10 hown hK hP 0 rfl rfl 0 (by decide) (hts _ wn_f10_9) (fun _ h9 => h9) rfl dX10_init_45 ?_
  refine lv_iconst (v := (-1 : Int32)) hx hb dX10_init_48 (by decide) ?_
  have hPc := hP.sub (ws' := [(q1, .inl (ca .int, 10, .inl (fun _ => 0)))]) [1] rfl
  have hDc := hD.sub (ws' := [(q1, .inl (ca .int, 10, .inl (fun _ => 0)))]) [1] (by decide) rfl
  have hFc := va_free (wc := [(q1, .inl (ca .int, 10, .inl (fun _ => 0)))]) hD hS hA [1] rfl
  refine n_fill (q := q1) hx hb hml hown hts hK hPc hDc hS hFc (lv_room (Nat.le_of_ble_eq_true rfl)) hl.1 dX10_init_49 (Nat.le_of_ble_eq_true rfl) (Nat.le_of_ble_eq_true rfl) ⟨Nat.le_of_ble_eq_true rfl, Nat.le_of_ble_eq_true rfl⟩ (fun H1 locs hP1 hD1 hk1 hS => ?_)
  obtain ⟨hP, hD⟩ := va_join (wr := [(h0, .inr (10, [.ref q1, .ref q2, .ref q3, .ref q4, .ref q5])), (q2, .inl (ca .int, 10, .inl (fun _ => 0))), (q3, .inl (ca .int, 10, .inl (fun _ => 0))), (q4, .inl (ca .int, 10, .inl (fun _ => 0))), (q5, .inl (ca .int, 20, .inl (fun _ => 0)))]) (w1 := [(q1, .inl (ca .int, 10, .inl nfill))]) hP hD [1] [0, 2, 3, 4, 5] rfl rfl (by decide) (by decide) hk1 hFc hP1 hD1
  generalize H1 = H at hP hS ⊢
  have hP : va_P D vwCl [(h0, .inr (10, [.ref q1, .ref q2, .ref q3, .ref q4, .ref q5])), (q2, .inl (ca .int, 10, .inl (fun _ => 0))), (q3, .inl (ca .int, 10, .inl (fun _ => 0))), (q4, .inl (ca .int, 10, .inl (fun _ => 0))), (q5, .inl (ca .int, 20, .inl (fun _ => 0))), (q1, .inl (ca .int, 10, .inl nfill))] H := hP
  have hD : va_D A [(h0, .inr (10, [.ref q1, .ref q2, .ref q3, .ref q4, .ref q5])), (q2, .inl (ca .int, 10, .inl (fun _ => 0))), (q3, .inl (ca .int, 10, .inl (fun _ => 0))), (q4, .inl (ca .int, 10, .inl (fun _ => 0))), (q5, .inl (ca .int, 20, .inl (fun _ => 0))), (q1, .inl (ca .int, 10, .inl nfill))] := hD
  have hP9 := hP.sub (ws' := [(h0, .inr (10, [.ref q1, .ref q2, .ref q3, .ref q4, .ref q5])), (q1, .inl (ca .int, 10, .inl nfill)), (q2, .inl (ca .int, 10, .inl (fun _ => 0))), (q3, .inl (ca .int, 10, .inl (fun _ => 0))), (q4, .inl (ca .int, 10, .inl (fun _ => 0))), (q5, .inl (ca .int, 20, .inl (fun _ => 0)))]) [0, 5, 1, 2, 3, 4] rfl
  have hD9 := hD.sub (ws' := [(h0, .inr (10, [.ref q1, .ref q2, .ref q3, .ref q4, .ref q5])), (q1, .inl (ca .int, 10, .inl nfill)), (q2, .inl (ca .int, 10, .inl (fun _ => 0))), (q3, .inl (ca .int, 10, .inl (fun _ => 0))), (q4, .inl (ca .int, 10, .inl (fun _ => 0))), (q5, .inl (ca .int, 20, .inl (fun _ => 0)))]) [0, 5, 1, 2, 3, 4] (by decide) rfl
  exact W.vret hx hb hr (fun t ht hW => ⟨⟨(), rfl, trivial, q1, q2, q3, q4, q5, by rw [ht]; exact hP9, hD9⟩, hS.F ht⟩) hS.2.2 dX10_init_52
