theorem dL_ring_0 : decode cL_ring 0 = .ok (.aload_n 3, 1) := by decide +kernel
theorem dL_ring_1 : decode cL_ring 1 = .ok (.iconst 0, 1) := by decide +kernel
theorem dL_ring_2 : decode cL_ring 2 = .ok (.aload_n 0, 1) := by decide +kernel
theorem dL_ring_3 : decode cL_ring 3 = .ok (.iload_n 1, 1) := by decide +kernel
theorem dL_ring_4 : decode cL_ring 4 = .ok (.iload_n 2, 1) := by decide +kernel
theorem dL_ring_5 : decode cL_ring 5 = .ok (.invokevirtual 7, 3) := by decide +kernel
theorem dL_ring_8 : decode cL_ring 8 = .ok (.i2l, 1) := by decide +kernel
theorem dL_ring_9 : decode cL_ring 9 = .ok (.lastore, 1) := by decide +kernel
theorem dL_ring_10 : decode cL_ring 10 = .ok (.goto 7, 3) := by decide +kernel
theorem dL_ring_13 : decode cL_ring 13 = .ok (.astore 4, 2) := by decide +kernel
theorem dL_ring_15 : decode cL_ring 15 = .ok (.iconst 1, 1) := by decide +kernel
theorem dL_ring_16 : decode cL_ring 16 = .ok (.ireturn, 1) := by decide +kernel
theorem dL_ring_17 : decode cL_ring 17 = .ok (.iconst 0, 1) := by decide +kernel
theorem dL_ring_18 : decode cL_ring 18 = .ok (.ireturn, 1) := by decide +kernel
theorem dL_balloon_0 : decode cL_balloon 0 = .ok (.aload_n 3, 1) := by decide +kernel
theorem dL_balloon_1 : decode cL_balloon 1 = .ok (.iconst 0, 1) := by decide +kernel
theorem dL_balloon_2 : decode cL_balloon 2 = .ok (.aload_n 0, 1) := by decide +kernel
theorem dL_balloon_3 : decode cL_balloon 3 = .ok (.iload_n 1, 1) := by decide +kernel
theorem dL_balloon_4 : decode cL_balloon 4 = .ok (.iload_n 2, 1) := by decide +kernel
theorem dL_balloon_5 : decode cL_balloon 5 = .ok (.invokevirtual 15, 3) := by decide +kernel
theorem dL_balloon_8 : decode cL_balloon 8 = .ok (.i2l, 1) := by decide +kernel
theorem dL_balloon_9 : decode cL_balloon 9 = .ok (.lastore, 1) := by decide +kernel
theorem dL_balloon_10 : decode cL_balloon 10 = .ok (.goto 7, 3) := by decide +kernel
theorem dL_balloon_13 : decode cL_balloon 13 = .ok (.astore 4, 2) := by decide +kernel
theorem dL_balloon_15 : decode cL_balloon 15 = .ok (.iconst 1, 1) := by decide +kernel
theorem dL_balloon_16 : decode cL_balloon 16 = .ok (.ireturn, 1) := by decide +kernel
theorem dL_balloon_17 : decode cL_balloon 17 = .ok (.iconst 0, 1) := by decide +kernel
theorem dL_balloon_18 : decode cL_balloon 18 = .ok (.ireturn, 1) := by decide +kernel
theorem dL_lift_0 : decode cL_lift 0 = .ok (.aload_n 2, 1) := by decide +kernel
theorem dL_lift_1 : decode cL_lift 1 = .ok (.iconst 0, 1) := by decide +kernel
theorem dL_lift_2 : decode cL_lift 2 = .ok (.aload_n 0, 1) := by decide +kernel
theorem dL_lift_3 : decode cL_lift 3 = .ok (.iload_n 1, 1) := by decide +kernel
theorem dL_lift_4 : decode cL_lift 4 = .ok (.invokevirtual 18, 3) := by decide +kernel
theorem dL_lift_7 : decode cL_lift 7 = .ok (.i2l, 1) := by decide +kernel
theorem dL_lift_8 : decode cL_lift 8 = .ok (.lastore, 1) := by decide +kernel
theorem dL_lift_9 : decode cL_lift 9 = .ok (.goto 6, 3) := by decide +kernel
theorem dL_lift_12 : decode cL_lift 12 = .ok (.astore_n 3, 1) := by decide +kernel
theorem dL_lift_13 : decode cL_lift 13 = .ok (.iconst 1, 1) := by decide +kernel
theorem dL_lift_14 : decode cL_lift 14 = .ok (.ireturn, 1) := by decide +kernel
theorem dL_lift_15 : decode cL_lift 15 = .ok (.iconst 0, 1) := by decide +kernel
theorem dL_lift_16 : decode cL_lift 16 = .ok (.ireturn, 1) := by decide +kernel
theorem dL_row_0 : decode cL_row 0 = .ok (.aload_n 2, 1) := by decide +kernel
theorem dL_row_1 : decode cL_row 1 = .ok (.iconst 0, 1) := by decide +kernel
theorem dL_row_2 : decode cL_row 2 = .ok (.aload_n 0, 1) := by decide +kernel
theorem dL_row_3 : decode cL_row 3 = .ok (.iload_n 1, 1) := by decide +kernel
theorem dL_row_4 : decode cL_row 4 = .ok (.invokevirtual 22, 3) := by decide +kernel
theorem dL_row_7 : decode cL_row 7 = .ok (.lastore, 1) := by decide +kernel
theorem dL_row_8 : decode cL_row 8 = .ok (.goto 6, 3) := by decide +kernel
theorem dL_row_11 : decode cL_row 11 = .ok (.astore_n 3, 1) := by decide +kernel
theorem dL_row_12 : decode cL_row 12 = .ok (.iconst 1, 1) := by decide +kernel
theorem dL_row_13 : decode cL_row 13 = .ok (.ireturn, 1) := by decide +kernel
theorem dL_row_14 : decode cL_row 14 = .ok (.iconst 0, 1) := by decide +kernel
theorem dL_row_15 : decode cL_row 15 = .ok (.ireturn, 1) := by decide +kernel
theorem wh_13 : Cond.classLink RL 13 zNSE ∈ zTB := zch_5 _ (List.mem_of_getElem? (i := 191) (by decide +kernel)) rfl
theorem wh_iX : Cond.initialized RX11 ∈ zTB := zch_1 _ (List.mem_of_getElem? (i := 1) (by decide +kernel)) rfl
theorem ofWH {l : Launch} {y : MethodName} {ws ws' : List Cond} {rm : Room} {Pc : Array Value → State → Prop} {Qc : Array Value → State → Outcome → State → Prop} {mc ms : Nat} {free : Addr → Prop} {cc : ByteArray} {maxL : Nat} {ret : Option FieldType} {hh : List (Nat × Nat × Nat × Nat)}
    (hy : plainName y.cls = true) (hw : ws = Cond.codeWith y cc maxL ret hh :: ws')
    (body : ∀ p e s m args below meth c s₁, BodyLoose p l y (headSpec ws rm) cc maxL ret e s m args below meth c s₁ → c.maxLocals = maxL → Pc args s →
      W p l e (headSpec ws rm).room s m args below meth c s.heap [] 0 0 (MQ below Qc args s mc ms free) (entryFrame m args maxL)) : Met l y ws rm Pc Qc mc ms free := by
  refine MetFree.of_bodyS (code := cc) (maxLocals := maxL) (ret := ret) hy ?_ ?_
  · intro args s m h hn
    obtain ⟨m9, meth, c, hn9, h1, h2, h3, h4, -, h5, h6, -⟩ := Cond.codeWith_spec (atoms_spec (ws := ws) h _ (by rw [hw]; exact List.mem_cons_self))
    cases hn.symm.trans hn9
    exact ⟨meth, c, h1, h2, h3, h4, h5, h6⟩
  · intro p e s m args below meth c s₁ B hml hP _
    have hh0 : s₁.heap = s.heap := by rw [B.state]; rfl
    obtain ⟨t, a1, o, b1, b2, b3⟩ := body p e s m args below meth c s₁ B hml hP s₁ hh0 (Stand.of_body B)
    exact ⟨t, o, a1, b1, b2, ⟨b3.1, b3.2⟩⟩
abbrev oW (ca : FieldType → ClassId) (ob : Nat) (f : Nat → Int64) : va_W := [(ob, .inl (ca .long, 1, .inr (.inl f)))]
def hA (aX : Nat → Nat) (ob : Nat) : Nat → Prop := fun q => zA layX.length aX q ∨ q = ob
theorem hAX {aX : Nat → Nat} {ob : Nat} : ∀ q, zA layX.length aX q → hA aX ob q := fun _ h => Or.inl h
def hPre (D : va_G) (ca : FieldType → ClassId) (aX tt : Nat → Nat) (ob : Nat) (f : Nat → Int64) (S : zS) (U : State) : Prop := zPre layX aX ca D (xtX aX tt) S U ∧ va_P D vwCl (oW ca ob f) U.heap ∧ ¬ zA layX.length aX ob
def hPost (D : va_G) (ca : FieldType → ClassId) (aX : Nat → Nat) (ob : Nat) (v : Int32) (f : Nat → Int64) (S : zS) : Array Value → State → Outcome → State → Prop := fun _ st oc t => oc = .returned (some (.int v)) ∧ va_P D vwCl (zW layX aX ca S) t.heap ∧ va_P D vwCl (oW ca ob f) t.heap ∧ va_F (hA aX ob) st t
def hr01 {ρ : Type} (r : Option ρ) : Int32 := match r with
  | none => 1
  | some _ => 0
def hupI (f : Nat → Int64) (r : Option Int32) : Nat → Int64 := match r with
  | none => f
  | some v => vp_updL f 0 v.toInt64
def hupL (f : Nat → Int64) (r : Option Int64) : Nat → Int64 := match r with
  | none => f
  | some v => vp_updL f 0 v
theorem hPre_at {s : State} {D : va_G} {ca : FieldType → ClassId} {aX tt : Nat → Nat} {S : zS} (h : zPre layX aX ca D (xtX aX tt) S s) (U : State) (hU : U.heap = s.heap) (hW : s.WarmedH U.vm) : zPre layX aX ca D (xtX aX tt) S U :=
  ⟨by rw [hU]; exact h.1, va_K.moved hW.alike h.2.1, h.2.2.1, h.2.2.2.2 s U hW (by rw [hU]; exact Nat.le_refl _) (fun q _ _ => by rw [hU]) h.2.2.2.1, h.2.2.2.2⟩
theorem hkeep {D : va_G} {ca : FieldType → ClassId} {aX : Nat → Nat} {ob : Nat} {f : Nat → Int64} {H H1 : Heap} (h : va_P D vwCl (oW ca ob f) H) (hob : ¬ zA layX.length aX ob) (hz : H.size ≤ H1.size) (hk : ∀ q : Nat, q < H.size → ¬ zA layX.length aX q → H1[q]? = H[q]?) : va_P D vwCl (oW ca ob f) H1 :=
  h.kept (fun k q hq => by
    have hl := (h k q hq).lt
    cases k with
    | zero => cases hq; exact hk ob hl hob
    | succ k => simp at hq)
section HELP
variable {p : Program} {l : Launch} {e : Env} {R : Room} {s : State} {m : MethodId} {args : Array Value} {below : List Frame} {meth : Method} {c : Code} {H H0 : Heap} {locs : List Loc} {cells slots : Nat} {Q : State → Prop} {D : va_G} {ca : FieldType → ClassId} {aX : Nat → Nat} {ob : Nat} {A0 : Nat → Prop} {pc : Nat} {ls : Array Slot} {rest st0 : List Value}
theorem hcw {args : Array Value} {s : State} {own C : String} {idx : Nat} {y : MethodName} {bytes : ByteArray} {maxL n d : Nat} {ret : Option FieldType} {R : Room} (hK : zKV own idx C y bytes maxL ret n) (hts : ∀ w ∈ zTB, w.before args s = true) (hR : d + 1 ≤ R.frames ∧ 8 + (maxL + 11) + 40 * d ≤ R.locals) : CallW R s args own C idx y bytes maxL ret (zws y bytes maxL ret) (zrx d) 1 6 n := by
  obtain ⟨w1, w2, w3, w4, w5, w6, w7⟩ := hK
  have hG : GoodIn zTB (wsV own idx C y (zws y bytes maxL ret)) := zgoodIn (fun w hw => by
    simp only [wsV, zws, List.cons_append, List.nil_append, List.mem_cons] at hw
    rcases hw with rfl | rfl | rfl | rfl | rfl | hw
    · exact w1
    · exact w2
    · exact w3
    · exact w4
    · exact w5
    · exact hw)
  exact cwV n hts hG rfl rfl rfl w6 hR
theorem w_callX {ρ : Type} {val : ρ → Option Value} {r : Option ρ} {S2 : zS} {a : Array Value} (hA0 : ∀ q, zA layX.length aX q → A0 q) (run : vx_Run p l e R s m args below meth c H locs cells slots 1 6 (F0 m pc ls st0) rest (zPostX layX aX ca D val r S2 a) (zXC layX aX ca D r S2) (zA layX.length aX)) (hS : va_S A0 H0 H locs)
    (kx : r = none → ∀ (ce : Cell) (q : Addr) (H1 : Heap) (locs1 : List Loc), va_P D vwCl (zW layX aX ca S2) H1 → H.size ≤ H1.size → (∀ q : Nat, q < H.size → ¬ zA layX.length aX q → H1[q]? = H[q]?) → va_S A0 H0 H1 locs1 → H1[q]? = some ce → ce.vm = .none → s.vm.findClass zNSE = some ce.cls → vx_W p l e R s m args below meth c H1 locs1 (cells + 1) (slots + 6) Q (F0 m pc ls rest) q)
    (kk : ∀ v, r = some v → ∀ (H1 : Heap) (locs1 : List Loc), va_P D vwCl (zW layX aX ca S2) H1 → H.size ≤ H1.size → (∀ q : Nat, q < H.size → ¬ zA layX.length aX q → H1[q]? = H[q]?) → va_S A0 H0 H1 locs1 → W p l e R s m args below meth c H1 locs1 (cells + 1) (slots + 6) Q (F0 m (pc + 3) ls ((val v).toList ++ rest))) :
    W p l e R s m args below meth c H locs cells slots Q (F0 m pc ls st0) := by
  have fr : ∀ {st₀ t T' : State} {L : List Loc}, st₀.heap = H → T'.heap = t.heap → va_F (zA layX.length aX) st₀ t → (∀ q ∈ L, zA layX.length aX q.base) → H.size ≤ T'.heap.size ∧ (∀ q : Nat, q < H.size → ¬ zA layX.length aX q → T'.heap[q]? = H[q]?) ∧ va_S A0 H0 T'.heap (locs ++ L) := by
    intro st₀ t T' L h0 e1 hF hL
    obtain ⟨hz, hk⟩ := hF
    rw [h0] at hz hk
    refine ⟨by rw [e1]; exact hz, fun q h1 h2 => by rw [e1]; exact hk q h1 h2, Nat.le_trans hS.1 (by rw [e1]; exact hz), fun q h1 h2 => by rw [e1, hk q (Nat.lt_of_lt_of_le h1 hS.1) (fun z => h2 (hA0 q z))]; exact hS.2.1 q h1 h2, fun q hq => ?_⟩
    rcases List.mem_append.mp hq with h | h
    · exact hS.2.2 q h
    · exact hA0 _ (hL q h)
  intro T hT X
  rcases run T hT X with ⟨v, st₀, t, T', L, h0, X', hL, e1, e2, ⟨⟨v', hv1, hv2⟩, hP1, hF⟩, go⟩ | ⟨q, st₀, t, T', L, E, ce, h0, X', hL, e1, e2, ⟨hrn, hEn, hP1, hF⟩, hce, hcv, hcl, go⟩
  · cases hv2
    obtain ⟨k1, k2, k3⟩ := fr h0 e1 hF hL
    obtain ⟨t2, a1, b1⟩ := kk v' hv1 T'.heap (locs ++ L) (by rw [e1]; exact hP1) k1 k2 k3 T' rfl X'
    exact ⟨t2, go t2 a1, b1⟩
  · subst hEn
    obtain ⟨k1, k2, k3⟩ := fr h0 e1 hF hL
    obtain ⟨t2, a1, b1⟩ := kx hrn ce q T'.heap (locs ++ L) (by rw [e1]; exact hP1) k1 k2 k3 (by rw [e1]; exact hce) hcv hcl T' rfl X'
    exact ⟨t2, go.trans a1, b1⟩
theorem zW_len (lay : List zY) (ad : Nat → Nat) (ca : FieldType → ClassId) (S : zS) : ∀ (l : List zY) (i : Nat), (zWf ad ca S i l).length = l.length
  | [], _ => rfl
  | _ :: ys, i => by simp [zWf, zW_len lay ad ca S ys (i + 1)]
theorem h_store {S : zS} {f : Nat → Int64} {x : Int64} {cc : ByteArray} (hx : p.tables.exec = Jvm.exec) (hb : c.code = cc) (hK : va_K D vwCl (zT ca) s) (hP : va_P D vwCl (zW layX aX ca S) H) (hPo : va_P D vwCl (oW ca ob f) H) (hob : ¬ zA layX.length aX ob) {S0 : zS} (hD : va_D (zA layX.length aX) (zW layX aX ca S0)) (hS : va_S (hA aX ob) H0 H locs) (hd : decode cc pc = .ok (.lastore, 1))
    (kk : ∀ (H1 : Heap) (locs1 : List Loc), va_P D vwCl (zW layX aX ca S) H1 → va_P D vwCl (oW ca ob (vp_updL f 0 x)) H1 → va_S (hA aX ob) H0 H1 locs1 → W p l e R s m args below meth c H1 locs1 cells slots Q (F0 m (pc + 1) ls rest)) :
    W p l e R s m args below meth c H locs cells slots Q (F0 m pc ls (.long x :: .int 0 :: .ref ob :: rest)) := by
  have hlen : (zW layX aX ca S).length = 71 := zW_len layX aX ca S layX 0
  have hPa := va_P.app hP hPo
  have hDa : va_D (hA aX ob) (zW layX aX ca S ++ oW ca ob f) := va_D.app ((zD_any hD S).weaken (fun _ _ _ h => hAX _ h)) ⟨fun i j x y hi hj _ => by
      have h1 : i = 0 := by cases i with | zero => rfl | succ i => simp at hi
      have h2 : j = 0 := by cases j with | zero => rfl | succ j => simp at hj
      rw [h1, h2], fun k q hk => by
      cases k with
      | zero => cases hk; exact Or.inr rfl
      | succ k => simp at hk⟩ (fun i j x y hi hj hxy => by
      obtain ⟨h1, h2⟩ := zW_some hi
      cases j with
      | zero => cases hj; exact hob ⟨i, h1, hxy.symm.trans h2⟩
      | succ j => simp at hj)
  have hat : (zW layX aX ca S ++ oW ca ob f)[71]? = some (ob, .inl (ca .long, 1, .inr (.inl f))) := by
    rw [List.getElem?_append_right (by rw [hlen]; exact Nat.le_refl _), hlen]; rfl
  refine va_last (f := f) hx hb hK hPa hDa hS 71 3 hat rfl (by unfold vp_in; decide) hd (fun H1 locs1 hP1 _ hS1 => ?_)
  have e1 : (zW layX aX ca S ++ oW ca ob f).set 71 (ob, .inl (ca .long, 1, .inr (.inl (vp_updL f (0 : Int32).toNatClampNeg x)))) = zW layX aX ca S ++ oW ca ob (vp_updL f 0 x) := by
    rw [List.set_append_right _ _ (by rw [hlen]; exact Nat.le_refl _), hlen]; rfl
  rw [e1] at hP1
  refine kk H1 locs1 (fun k q hk => hP1 k q ?_) (fun k q hk => hP1 (71 + k) q ?_) hS1
  · rw [List.getElem?_append_left (List.getElem?_eq_some_iff.mp hk).1]; exact hk
  · rw [List.getElem?_append_right (by rw [hlen]; omega), hlen, Nat.add_sub_cancel_left]; exact hk
end HELP

theorem wh_c_ring : Cond.codeWith yL_ring cL_ring 5 (some .int) [(0, 10, 13, 13)] ∈ zTB := zch_5 _ (List.mem_of_getElem? (i := 190) (by decide +kernel)) rfl
theorem wh_l_ring : Cond.methodLink RL 7 yX11_ring ∈ zTB := zch_5 _ (List.mem_of_getElem? (i := 192) (by decide +kernel)) rfl
theorem wh_i_ring : Cond.instanceMethod yX11_ring ∈ zTB := zch_5 _ (List.mem_of_getElem? (i := 193) (by decide +kernel)) rfl
theorem wh_s_ring : Cond.selects RX11 yX11_ring yX11_ring ∈ zTB := zch_5 _ (List.mem_of_getElem? (i := 194) (by decide +kernel)) rfl
theorem wh_k_ring : Cond.code yX11_ring cX11_ring 4 (some .int) ∈ zTB := zch_5 _ (List.mem_of_getElem? (i := 195) (by decide +kernel)) rfl
theorem wh_kv_ring : zKV RL 7 RX11 yX11_ring cX11_ring 4 (some .int) 2 := ⟨wh_l_ring, wh_i_ring, wh_s_ring, wh_iX, wh_k_ring, by decide +kernel, by decide⟩
set_option maxHeartbeats 4000000 in
set_option maxRecDepth 100000 in
theorem h_ring {l : Launch} {D : va_G} {ca : FieldType → ClassId} {aX tt : Nat → Nat} (hlt : l.stackTraces = false) (ob : Nat) (f : Nat → Int64) (a1 : Int32) (a2 : Int32) (S S2 : zS) (r : Option Int32) (hf : p_X11_ring a1 a2 S = some (r, S2)) : Met l yL_ring (.codeWith yL_ring cL_ring 5 (some .int) [(0, 10, 13, 13)] :: zTB) (zrx 7) (va_Pc [.ref (aX 0), .int a1, .int a2, .ref ob] (hPre D ca aX tt ob f S)) (hPost D ca aX ob (hr01 r) (hupI f r) S2) 1 6 (hA aX ob) := by
  refine ofWH (cc := cL_ring) (maxL := 5) (ret := some .int) (hh := [(0, 10, 13, 13)]) (by decide) rfl ?_
  intro p e s m args below meth c s₁ B hml hv
  obtain ⟨rfl, hPre0, hPo, hob⟩ := hv
  have hx := B.exec
  have hb := B.bytes
  have hr := B.returns
  have hlocks := B.notSynchronized
  have hts0 := atoms_spec (ws := .codeWith yL_ring cL_ring 5 (some .int) [(0, 10, 13, 13)] :: zTB) B.pre
  have hts : ∀ w ∈ zTB, w.before [.ref (aX 0), .int a1, .int a2, .ref ob].toArray s = true := fun w hw => hts0 w (List.mem_cons_of_mem _ hw)
  have hown : s.vm.findClass RL = some m.cls := findClass_of_methodNamed B.named
  have htab := vx_table (x := yL_ring) B (hts0 _ List.mem_cons_self)
  have hK := hPre0.2.1
  have hPX := hPre0.1
  have hS : va_S (hA aX ob) s.heap s.heap [] := va_S.rf
  have hl := lv_entry [.ref (aX 0), .int a1, .int a2, .ref ob] (n := 5) (Nat.le_of_ble_eq_true rfl)
  rw [lg_entry_eq]
  generalize (lg_sl [.ref (aX 0), .int a1, .int a2, .ref ob] ++ List.replicate (5 - (lg_sl [.ref (aX 0), .int a1, .int a2, .ref ob]).length) Slot.unset).toArray = ls at hl ⊢
  have hl : lv_has ls 5 [(0, .ref (aX 0)), (1, .int a1), (2, .int a2), (3, .ref ob)] := hl
  refine lv_aload_n hx hb dL_ring_0 rfl (lv_at hl 3 rfl) ?_
  refine lv_iconst (v := 0) hx hb dL_ring_1 (by decide) ?_
  refine lv_aload_n hx hb dL_ring_2 rfl (lv_at hl 0 rfl) ?_
  refine lv_iload_n hx hb dL_ring_3 rfl (lv_at hl 1 rfl) ?_
  refine lv_iload_n hx hb dL_ring_4 rfl (lv_at hl 2 rfl) ?_
  refine w_callX (S2 := S2) (r := r) (val := zvi) (hA0 := hAX) (pc := 5) (vx_runV (As := [.int a1, .int a2]) (rest := [.int 0, .ref ob]) ⟨hx, hb, hml, hown, hts⟩ (c_X11_ring hlt a1 a2 S r S2 hf) (hcw wh_kv_ring hts ⟨Nat.le_refl _, by decide⟩) ⟨zPre_blind _ _ _ _ _ _ _, va_recv hK hPX (ci := 11) (q0 := 0) rfl (zW_at lX_0), fun U hU hW => ⟨rfl, hPre_at hPre0 U hU hW⟩⟩ rfl rfl hl.1 rfl (lv_room (Nat.le_of_ble_eq_true rfl)) dL_ring_5 ⟨Nat.le_refl _, Nat.le_refl _⟩) hS (fun hrn ce q H1 locs1 hP1 hz hk hS1 hc1 hc2 hc3 => ?_) (fun v hrv H1 locs1 hP1 hz hk hS1 => ?_)
  · subst hrn
    have hPo1 := hkeep hPo hob hz hk
    refine vx_catch (own := RL) (name := zNSE) (E := zNSE) hown [] ⟨0, 10, 13, 13⟩ [] (by rw [htab]; rfl) (fun z hz => absurd hz List.not_mem_nil) (by decide) (by decide) (hts _ wh_13) ((xThr _ hPre0.2.2.2.1).2.2.1.use rfl) hc1 hc2 hc3 ?_
    refine lv_astore (lv' := (4, .ref q) :: [(0, .ref (aX 0)), (1, .int a1), (2, .int a2), (3, .ref ob)]) hx hb dL_ring_13 hl (by decide) rfl (fun ls2 hl2 => ?_)
    refine lv_iconst (v := 1) hx hb dL_ring_15 (by decide) ?_
    exact W.iret (v := 1) hx hb hr (fun t ht hW => ⟨rfl, by rw [ht]; exact hP1, by rw [ht]; exact hPo1, hS1.F ht⟩) hS1.2.2 dL_ring_16
  · subst hrv
    have hPo1 := hkeep hPo hob hz hk
    refine lv_i2l hx hb dL_ring_8 rfl ?_
    refine h_store (D := D) (ca := ca) (aX := aX) (S := S2) hx hb hK hP1 hPo1 hob hPre0.2.2.1 hS1 dL_ring_9 (fun H2 locs2 hP2 hPo2 hS2 => ?_)
    refine lv_goto (tgt := 17) hx hb dL_ring_10 (by decide) ?_
    refine lv_iconst (v := 0) hx hb dL_ring_17 (by decide) ?_
    exact W.iret (v := 0) hx hb hr (fun t ht hW => ⟨rfl, by rw [ht]; exact hP2, by rw [ht]; exact hPo2, hS2.F ht⟩) hS2.2.2 dL_ring_18
theorem wh_c_balloon : Cond.codeWith yL_balloon cL_balloon 5 (some .int) [(0, 10, 13, 13)] ∈ zTB := zch_6 _ (List.mem_of_getElem? (i := 19) (by decide +kernel)) rfl
theorem wh_l_balloon : Cond.methodLink RL 15 yX11_balloon ∈ zTB := zch_6 _ (List.mem_of_getElem? (i := 20) (by decide +kernel)) rfl
theorem wh_i_balloon : Cond.instanceMethod yX11_balloon ∈ zTB := zch_6 _ (List.mem_of_getElem? (i := 21) (by decide +kernel)) rfl
theorem wh_s_balloon : Cond.selects RX11 yX11_balloon yX11_balloon ∈ zTB := zch_6 _ (List.mem_of_getElem? (i := 22) (by decide +kernel)) rfl
theorem wh_k_balloon : Cond.code yX11_balloon cX11_balloon 3 (some .int) ∈ zTB := zch_6 _ (List.mem_of_getElem? (i := 23) (by decide +kernel)) rfl
theorem wh_kv_balloon : zKV RL 15 RX11 yX11_balloon cX11_balloon 3 (some .int) 2 := ⟨wh_l_balloon, wh_i_balloon, wh_s_balloon, wh_iX, wh_k_balloon, by decide +kernel, by decide⟩
set_option maxHeartbeats 4000000 in
set_option maxRecDepth 100000 in
theorem h_balloon {l : Launch} {D : va_G} {ca : FieldType → ClassId} {aX tt : Nat → Nat} (hlt : l.stackTraces = false) (ob : Nat) (f : Nat → Int64) (a1 : Int32) (a2 : Int32) (S S2 : zS) (r : Option Int32) (hf : p_X11_balloon a1 a2 S = some (r, S2)) : Met l yL_balloon (.codeWith yL_balloon cL_balloon 5 (some .int) [(0, 10, 13, 13)] :: zTB) (zrx 7) (va_Pc [.ref (aX 0), .int a1, .int a2, .ref ob] (hPre D ca aX tt ob f S)) (hPost D ca aX ob (hr01 r) (hupI f r) S2) 1 6 (hA aX ob) := by
  refine ofWH (cc := cL_balloon) (maxL := 5) (ret := some .int) (hh := [(0, 10, 13, 13)]) (by decide) rfl ?_
  intro p e s m args below meth c s₁ B hml hv
  obtain ⟨rfl, hPre0, hPo, hob⟩ := hv
  have hx := B.exec
  have hb := B.bytes
  have hr := B.returns
  have hlocks := B.notSynchronized
  have hts0 := atoms_spec (ws := .codeWith yL_balloon cL_balloon 5 (some .int) [(0, 10, 13, 13)] :: zTB) B.pre
  have hts : ∀ w ∈ zTB, w.before [.ref (aX 0), .int a1, .int a2, .ref ob].toArray s = true := fun w hw => hts0 w (List.mem_cons_of_mem _ hw)
  have hown : s.vm.findClass RL = some m.cls := findClass_of_methodNamed B.named
  have htab := vx_table (x := yL_balloon) B (hts0 _ List.mem_cons_self)
  have hK := hPre0.2.1
  have hPX := hPre0.1
  have hS : va_S (hA aX ob) s.heap s.heap [] := va_S.rf
  have hl := lv_entry [.ref (aX 0), .int a1, .int a2, .ref ob] (n := 5) (Nat.le_of_ble_eq_true rfl)
  rw [lg_entry_eq]
  generalize (lg_sl [.ref (aX 0), .int a1, .int a2, .ref ob] ++ List.replicate (5 - (lg_sl [.ref (aX 0), .int a1, .int a2, .ref ob]).length) Slot.unset).toArray = ls at hl ⊢
  have hl : lv_has ls 5 [(0, .ref (aX 0)), (1, .int a1), (2, .int a2), (3, .ref ob)] := hl
  refine lv_aload_n hx hb dL_balloon_0 rfl (lv_at hl 3 rfl) ?_
  refine lv_iconst (v := 0) hx hb dL_balloon_1 (by decide) ?_
  refine lv_aload_n hx hb dL_balloon_2 rfl (lv_at hl 0 rfl) ?_
  refine lv_iload_n hx hb dL_balloon_3 rfl (lv_at hl 1 rfl) ?_
  refine lv_iload_n hx hb dL_balloon_4 rfl (lv_at hl 2 rfl) ?_
  refine w_callX (S2 := S2) (r := r) (val := zvi) (hA0 := hAX) (pc := 5) (vx_runV (As := [.int a1, .int a2]) (rest := [.int 0, .ref ob]) ⟨hx, hb, hml, hown, hts⟩ (c_X11_balloon hlt a1 a2 S r S2 hf) (hcw wh_kv_balloon hts ⟨Nat.le_refl _, by decide⟩) ⟨zPre_blind _ _ _ _ _ _ _, va_recv hK hPX (ci := 11) (q0 := 0) rfl (zW_at lX_0), fun U hU hW => ⟨rfl, hPre_at hPre0 U hU hW⟩⟩ rfl rfl hl.1 rfl (lv_room (Nat.le_of_ble_eq_true rfl)) dL_balloon_5 ⟨Nat.le_refl _, Nat.le_refl _⟩) hS (fun hrn ce q H1 locs1 hP1 hz hk hS1 hc1 hc2 hc3 => ?_) (fun v hrv H1 locs1 hP1 hz hk hS1 => ?_)
  · subst hrn
    have hPo1 := hkeep hPo hob hz hk
    refine vx_catch (own := RL) (name := zNSE) (E := zNSE) hown [] ⟨0, 10, 13, 13⟩ [] (by rw [htab]; rfl) (fun z hz => absurd hz List.not_mem_nil) (by decide) (by decide) (hts _ wh_13) ((xThr _ hPre0.2.2.2.1).2.2.1.use rfl) hc1 hc2 hc3 ?_
    refine lv_astore (lv' := (4, .ref q) :: [(0, .ref (aX 0)), (1, .int a1), (2, .int a2), (3, .ref ob)]) hx hb dL_balloon_13 hl (by decide) rfl (fun ls2 hl2 => ?_)
    refine lv_iconst (v := 1) hx hb dL_balloon_15 (by decide) ?_
    exact W.iret (v := 1) hx hb hr (fun t ht hW => ⟨rfl, by rw [ht]; exact hP1, by rw [ht]; exact hPo1, hS1.F ht⟩) hS1.2.2 dL_balloon_16
  · subst hrv
    have hPo1 := hkeep hPo hob hz hk
    refine lv_i2l hx hb dL_balloon_8 rfl ?_
    refine h_store (D := D) (ca := ca) (aX := aX) (S := S2) hx hb hK hP1 hPo1 hob hPre0.2.2.1 hS1 dL_balloon_9 (fun H2 locs2 hP2 hPo2 hS2 => ?_)
    refine lv_goto (tgt := 17) hx hb dL_balloon_10 (by decide) ?_
    refine lv_iconst (v := 0) hx hb dL_balloon_17 (by decide) ?_
    exact W.iret (v := 0) hx hb hr (fun t ht hW => ⟨rfl, by rw [ht]; exact hP2, by rw [ht]; exact hPo2, hS2.F ht⟩) hS2.2.2 dL_balloon_18
theorem wh_c_lift : Cond.codeWith yL_lift cL_lift 4 (some .int) [(0, 9, 12, 13)] ∈ zTB := zch_6 _ (List.mem_of_getElem? (i := 26) (by decide +kernel)) rfl
theorem wh_l_lift : Cond.methodLink RL 18 yX11_lift ∈ zTB := zch_6 _ (List.mem_of_getElem? (i := 27) (by decide +kernel)) rfl
theorem wh_i_lift : Cond.instanceMethod yX11_lift ∈ zTB := zch_6 _ (List.mem_of_getElem? (i := 28) (by decide +kernel)) rfl
theorem wh_s_lift : Cond.selects RX11 yX11_lift yX11_lift ∈ zTB := zch_6 _ (List.mem_of_getElem? (i := 29) (by decide +kernel)) rfl
theorem wh_k_lift : Cond.code yX11_lift cX11_lift 2 (some .int) ∈ zTB := zch_6 _ (List.mem_of_getElem? (i := 30) (by decide +kernel)) rfl
theorem wh_kv_lift : zKV RL 18 RX11 yX11_lift cX11_lift 2 (some .int) 1 := ⟨wh_l_lift, wh_i_lift, wh_s_lift, wh_iX, wh_k_lift, by decide +kernel, by decide⟩
set_option maxHeartbeats 4000000 in
set_option maxRecDepth 100000 in
theorem h_lift {l : Launch} {D : va_G} {ca : FieldType → ClassId} {aX tt : Nat → Nat} (hlt : l.stackTraces = false) (ob : Nat) (f : Nat → Int64) (a1 : Int32) (S S2 : zS) (r : Option Int32) (hf : p_X11_lift a1 S = some (r, S2)) : Met l yL_lift (.codeWith yL_lift cL_lift 4 (some .int) [(0, 9, 12, 13)] :: zTB) (zrx 7) (va_Pc [.ref (aX 0), .int a1, .ref ob] (hPre D ca aX tt ob f S)) (hPost D ca aX ob (hr01 r) (hupI f r) S2) 1 6 (hA aX ob) := by
  refine ofWH (cc := cL_lift) (maxL := 4) (ret := some .int) (hh := [(0, 9, 12, 13)]) (by decide) rfl ?_
  intro p e s m args below meth c s₁ B hml hv
  obtain ⟨rfl, hPre0, hPo, hob⟩ := hv
  have hx := B.exec
  have hb := B.bytes
  have hr := B.returns
  have hlocks := B.notSynchronized
  have hts0 := atoms_spec (ws := .codeWith yL_lift cL_lift 4 (some .int) [(0, 9, 12, 13)] :: zTB) B.pre
  have hts : ∀ w ∈ zTB, w.before [.ref (aX 0), .int a1, .ref ob].toArray s = true := fun w hw => hts0 w (List.mem_cons_of_mem _ hw)
  have hown : s.vm.findClass RL = some m.cls := findClass_of_methodNamed B.named
  have htab := vx_table (x := yL_lift) B (hts0 _ List.mem_cons_self)
  have hK := hPre0.2.1
  have hPX := hPre0.1
  have hS : va_S (hA aX ob) s.heap s.heap [] := va_S.rf
  have hl := lv_entry [.ref (aX 0), .int a1, .ref ob] (n := 4) (Nat.le_of_ble_eq_true rfl)
  rw [lg_entry_eq]
  generalize (lg_sl [.ref (aX 0), .int a1, .ref ob] ++ List.replicate (4 - (lg_sl [.ref (aX 0), .int a1, .ref ob]).length) Slot.unset).toArray = ls at hl ⊢
  have hl : lv_has ls 4 [(0, .ref (aX 0)), (1, .int a1), (2, .ref ob)] := hl
  refine lv_aload_n hx hb dL_lift_0 rfl (lv_at hl 2 rfl) ?_
  refine lv_iconst (v := 0) hx hb dL_lift_1 (by decide) ?_
  refine lv_aload_n hx hb dL_lift_2 rfl (lv_at hl 0 rfl) ?_
  refine lv_iload_n hx hb dL_lift_3 rfl (lv_at hl 1 rfl) ?_
  refine w_callX (S2 := S2) (r := r) (val := zvi) (hA0 := hAX) (pc := 4) (vx_runV (As := [.int a1]) (rest := [.int 0, .ref ob]) ⟨hx, hb, hml, hown, hts⟩ (c_X11_lift hlt a1 S r S2 hf) (hcw wh_kv_lift hts ⟨Nat.le_refl _, by decide⟩) ⟨zPre_blind _ _ _ _ _ _ _, va_recv hK hPX (ci := 11) (q0 := 0) rfl (zW_at lX_0), fun U hU hW => ⟨rfl, hPre_at hPre0 U hU hW⟩⟩ rfl rfl hl.1 rfl (lv_room (Nat.le_of_ble_eq_true rfl)) dL_lift_4 ⟨Nat.le_refl _, Nat.le_refl _⟩) hS (fun hrn ce q H1 locs1 hP1 hz hk hS1 hc1 hc2 hc3 => ?_) (fun v hrv H1 locs1 hP1 hz hk hS1 => ?_)
  · subst hrn
    have hPo1 := hkeep hPo hob hz hk
    refine vx_catch (own := RL) (name := zNSE) (E := zNSE) hown [] ⟨0, 9, 12, 13⟩ [] (by rw [htab]; rfl) (fun z hz => absurd hz List.not_mem_nil) (by decide) (by decide) (hts _ wh_13) ((xThr _ hPre0.2.2.2.1).2.2.1.use rfl) hc1 hc2 hc3 ?_
    refine lv_astore_n (lv' := (3, .ref q) :: [(0, .ref (aX 0)), (1, .int a1), (2, .ref ob)]) hx hb dL_lift_12 rfl hl (by decide) rfl (fun ls2 hl2 => ?_)
    refine lv_iconst (v := 1) hx hb dL_lift_13 (by decide) ?_
    exact W.iret (v := 1) hx hb hr (fun t ht hW => ⟨rfl, by rw [ht]; exact hP1, by rw [ht]; exact hPo1, hS1.F ht⟩) hS1.2.2 dL_lift_14
  · subst hrv
    have hPo1 := hkeep hPo hob hz hk
    refine lv_i2l hx hb dL_lift_7 rfl ?_
    refine h_store (D := D) (ca := ca) (aX := aX) (S := S2) hx hb hK hP1 hPo1 hob hPre0.2.2.1 hS1 dL_lift_8 (fun H2 locs2 hP2 hPo2 hS2 => ?_)
    refine lv_goto (tgt := 15) hx hb dL_lift_9 (by decide) ?_
    refine lv_iconst (v := 0) hx hb dL_lift_15 (by decide) ?_
    exact W.iret (v := 0) hx hb hr (fun t ht hW => ⟨rfl, by rw [ht]; exact hP2, by rw [ht]; exact hPo2, hS2.F ht⟩) hS2.2.2 dL_lift_16
theorem wh_c_row : Cond.codeWith yL_row cL_row 4 (some .int) [(0, 8, 11, 13)] ∈ zTB := zch_6 _ (List.mem_of_getElem? (i := 33) (by decide +kernel)) rfl
theorem wh_l_row : Cond.methodLink RL 22 yX11_row ∈ zTB := zch_6 _ (List.mem_of_getElem? (i := 34) (by decide +kernel)) rfl
theorem wh_i_row : Cond.instanceMethod yX11_row ∈ zTB := zch_6 _ (List.mem_of_getElem? (i := 35) (by decide +kernel)) rfl
theorem wh_s_row : Cond.selects RX11 yX11_row yX11_row ∈ zTB := zch_6 _ (List.mem_of_getElem? (i := 36) (by decide +kernel)) rfl
theorem wh_k_row : Cond.code yX11_row cX11_row 2 (some .long) ∈ zTB := zch_6 _ (List.mem_of_getElem? (i := 37) (by decide +kernel)) rfl
theorem wh_kv_row : zKV RL 22 RX11 yX11_row cX11_row 2 (some .long) 1 := ⟨wh_l_row, wh_i_row, wh_s_row, wh_iX, wh_k_row, by decide +kernel, by decide⟩
set_option maxHeartbeats 4000000 in
set_option maxRecDepth 100000 in
theorem h_row {l : Launch} {D : va_G} {ca : FieldType → ClassId} {aX tt : Nat → Nat} (hlt : l.stackTraces = false) (ob : Nat) (f : Nat → Int64) (a1 : Int32) (S S2 : zS) (r : Option Int64) (hf : p_X11_row a1 S = some (r, S2)) : Met l yL_row (.codeWith yL_row cL_row 4 (some .int) [(0, 8, 11, 13)] :: zTB) (zrx 7) (va_Pc [.ref (aX 0), .int a1, .ref ob] (hPre D ca aX tt ob f S)) (hPost D ca aX ob (hr01 r) (hupL f r) S2) 1 6 (hA aX ob) := by
  refine ofWH (cc := cL_row) (maxL := 4) (ret := some .int) (hh := [(0, 8, 11, 13)]) (by decide) rfl ?_
  intro p e s m args below meth c s₁ B hml hv
  obtain ⟨rfl, hPre0, hPo, hob⟩ := hv
  have hx := B.exec
  have hb := B.bytes
  have hr := B.returns
  have hlocks := B.notSynchronized
  have hts0 := atoms_spec (ws := .codeWith yL_row cL_row 4 (some .int) [(0, 8, 11, 13)] :: zTB) B.pre
  have hts : ∀ w ∈ zTB, w.before [.ref (aX 0), .int a1, .ref ob].toArray s = true := fun w hw => hts0 w (List.mem_cons_of_mem _ hw)
  have hown : s.vm.findClass RL = some m.cls := findClass_of_methodNamed B.named
  have htab := vx_table (x := yL_row) B (hts0 _ List.mem_cons_self)
  have hK := hPre0.2.1
  have hPX := hPre0.1
  have hS : va_S (hA aX ob) s.heap s.heap [] := va_S.rf
  have hl := lv_entry [.ref (aX 0), .int a1, .ref ob] (n := 4) (Nat.le_of_ble_eq_true rfl)
  rw [lg_entry_eq]
  generalize (lg_sl [.ref (aX 0), .int a1, .ref ob] ++ List.replicate (4 - (lg_sl [.ref (aX 0), .int a1, .ref ob]).length) Slot.unset).toArray = ls at hl ⊢
  have hl : lv_has ls 4 [(0, .ref (aX 0)), (1, .int a1), (2, .ref ob)] := hl
  refine lv_aload_n hx hb dL_row_0 rfl (lv_at hl 2 rfl) ?_
  refine lv_iconst (v := 0) hx hb dL_row_1 (by decide) ?_
  refine lv_aload_n hx hb dL_row_2 rfl (lv_at hl 0 rfl) ?_
  refine lv_iload_n hx hb dL_row_3 rfl (lv_at hl 1 rfl) ?_
  refine w_callX (S2 := S2) (r := r) (val := zvl) (hA0 := hAX) (pc := 4) (vx_runV (As := [.int a1]) (rest := [.int 0, .ref ob]) ⟨hx, hb, hml, hown, hts⟩ (c_X11_row hlt a1 S r S2 hf) (hcw wh_kv_row hts ⟨Nat.le_refl _, by decide⟩) ⟨zPre_blind _ _ _ _ _ _ _, va_recv hK hPX (ci := 11) (q0 := 0) rfl (zW_at lX_0), fun U hU hW => ⟨rfl, hPre_at hPre0 U hU hW⟩⟩ rfl rfl hl.1 rfl (lv_room (Nat.le_of_ble_eq_true rfl)) dL_row_4 ⟨Nat.le_refl _, Nat.le_refl _⟩) hS (fun hrn ce q H1 locs1 hP1 hz hk hS1 hc1 hc2 hc3 => ?_) (fun v hrv H1 locs1 hP1 hz hk hS1 => ?_)
  · subst hrn
    have hPo1 := hkeep hPo hob hz hk
    refine vx_catch (own := RL) (name := zNSE) (E := zNSE) hown [] ⟨0, 8, 11, 13⟩ [] (by rw [htab]; rfl) (fun z hz => absurd hz List.not_mem_nil) (by decide) (by decide) (hts _ wh_13) ((xThr _ hPre0.2.2.2.1).2.2.1.use rfl) hc1 hc2 hc3 ?_
    refine lv_astore_n (lv' := (3, .ref q) :: [(0, .ref (aX 0)), (1, .int a1), (2, .ref ob)]) hx hb dL_row_11 rfl hl (by decide) rfl (fun ls2 hl2 => ?_)
    refine lv_iconst (v := 1) hx hb dL_row_12 (by decide) ?_
    exact W.iret (v := 1) hx hb hr (fun t ht hW => ⟨rfl, by rw [ht]; exact hP1, by rw [ht]; exact hPo1, hS1.F ht⟩) hS1.2.2 dL_row_13
  · subst hrv
    have hPo1 := hkeep hPo hob hz hk
    refine h_store (D := D) (ca := ca) (aX := aX) (S := S2) hx hb hK hP1 hPo1 hob hPre0.2.2.1 hS1 dL_row_7 (fun H2 locs2 hP2 hPo2 hS2 => ?_)
    refine lv_goto (tgt := 14) hx hb dL_row_8 (by decide) ?_
    refine lv_iconst (v := 0) hx hb dL_row_14 (by decide) ?_
    exact W.iret (v := 0) hx hb hr (fun t ht hW => ⟨rfl, by rw [ht]; exact hP2, by rw [ht]; exact hPo2, hS2.F ht⟩) hS2.2.2 dL_row_15
