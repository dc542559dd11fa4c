def lKS : Nat := 4220
abbrev lA (s : State) : Nat → Prop := fun q => s.heap.size ≤ q
def lOK (p : Program) (l : Launch) (s : State) (m : MethodId) (meth : Method) (c : Code) (D : va_G) (ca : FieldType → ClassId) (aX aM tt sa sv : Nat → Nat) (ob b L : Nat) (xs : Nat → Int32) : Prop :=
  lw_At p s m meth c b L xs ∧ va_K D vwCl (zT ca) s ∧ l.stackTraces = false ∧ L ≤ 2560 ∧ (∀ q, zA layX.length aX q → lA s q) ∧ (∀ q, zA layM.length aM q → lA s q) ∧ lA s ob ∧ va_D (zA layX.length aX) (zW layX aX ca nS0) ∧ va_D (zA layM.length aM) (zW layM aM ca nS0) ∧ (∀ q, zA layX.length aX q → ¬ zA layM.length aM q) ∧ ¬ zA layX.length aX ob ∧ ¬ zA layM.length aM ob ∧ xtX aX tt s ∧ xtM aM sa sv s
abbrev lWr (p : Program) (l : Launch) (e : Env) (s : State) (m : MethodId) (below : List Frame) (meth : Method) (c : Code) (b : Nat) (H : Heap) (locs : List Loc) (n : Nat) (g : JFrame) : Prop := W p l e room_1 s m #[Value.ref b] below meth c H locs (108 + n) (lKS + 6 * n) (lw_Z below #[Value.ref b] s) g
abbrev lWo (D : va_G) (ca : FieldType → ClassId) (aX aM : Nat → Nat) (ob : Nat) (SX SM : zS) (f : Nat → Int64) (s : State) (H : Heap) (locs : List Loc) : Prop := va_P D vwCl (zW layX aX ca SX) H ∧ va_P D vwCl (zW layM aM ca SM) H ∧ va_P D vwCl (oW ca ob f) H ∧ va_S (lA s) s.heap H locs
abbrev lLo (b : Nat) (aX aM : Nat → Nat) (ob : Nat) (x4 : Int32) : List (Nat × Value) := [(0, .ref b), (1, .ref (aX 0)), (2, .ref (aM 0)), (3, .ref ob), (4, .int x4)]
theorem zkept {D : va_G} {ca : FieldType → ClassId} {lay : List zY} {ad : Nat → Nat} {S : zS} {H H1 : Heap} {B : Nat → Prop} (h : va_P D vwCl (zW lay ad ca S) H) (hd : ∀ q, zA lay.length ad q → ¬ B q) (hk : ∀ q : Nat, q < H.size → ¬ B q → H1[q]? = H[q]?) : va_P D vwCl (zW lay ad ca S) H1 :=
  h.kept (fun k q hq => by
    obtain ⟨h1, h2⟩ := zW_some hq
    have hl := (h k q hq).lt
    exact hk q.1 hl (hd q.1 ⟨k, h1, h2⟩))
theorem okept {D : va_G} {ca : FieldType → ClassId} {ob : Nat} {f : Nat → Int64} {H H1 : Heap} {B : Nat → Prop} (h : va_P D vwCl (oW ca ob f) H) (hd : ¬ B ob) (hk : ∀ q : Nat, q < H.size → ¬ B q → H1[q]? = H[q]?) : va_P D vwCl (oW ca ob f) H1 :=
  h.kept (fun k q hq => by
    have hl := (h k q hq).lt
    cases k with
    | zero => cases hq; exact hk ob hl hd
    | succ k => simp at hq)
section LAW
variable {p : Program} {l : Launch} {e : Env} {s : State} {m : MethodId} {below : List Frame} {meth : Method} {c : Code} {D : va_G} {ca : FieldType → ClassId} {aX aM tt sa sv : Nat → Nat} {ob b L : Nat} {xs : Nat → Int32} {H : Heap} {locs : List Loc} {ls : Array Slot} {SX SM SX2 SM2 : zS} {f : Nat → Int64} {n pc : Nat} {st st0 : List Value}
theorem lts (hO : lOK p l s m meth c D ca aX aM tt sa sv ob b L xs) : ∀ w ∈ zTB, w.before #[Value.ref b] s = true := fun w hw => hO.1.2.2.2.2.2.1 w (List.mem_filter.mp hw).1
theorem lfix (hO : lOK p l s m meth c D ca aX aM tt sa sv ob b L xs) : CallFix p m c code 8 s #[Value.ref b] zTB RL := ⟨hO.1.1, hO.1.2.1, hO.1.2.2.2.1, hO.1.2.2.2.2.1, lts hO⟩
theorem lstep {B A1 : Nat → Prop} {st₀ t T' : State} {Lc : List Loc} (hS : va_S A1 s.heap H locs) (hB : ∀ q, B q → A1 q) (h0 : st₀.heap = H) (e1 : T'.heap = t.heap) (hF : va_F B st₀ t) (hL : ∀ q ∈ Lc, B q.base) : (∀ q : Nat, q < H.size → ¬ B q → T'.heap[q]? = H[q]?) ∧ va_S A1 s.heap T'.heap (locs ++ Lc) := by
  obtain ⟨hz, hk⟩ := hF
  rw [h0] at hz hk
  refine ⟨fun q h1 h2 => by rw [e1]; exact hk q h1 h2, Nat.le_trans hS.1 (by rw [e1]; exact hz), fun q h1 h2 => by rw [e1, hk q (Nat.lt_of_lt_of_le h1 hS.1) (fun z => h2 (hB q z))]; exact hS.2.1 q h1 h2, fun q hq => ?_⟩
  rcases List.mem_append.mp hq with h | h
  · exact hS.2.2 q h
  · exact hB _ (hL q h)
theorem lpreX (hO : lOK p l s m meth c D ca aX aM tt sa sv ob b L xs) (hP : va_P D vwCl (zW layX aX ca SX) H) (hS : va_S (lA s) s.heap H locs) (U : State) (hU : U.heap = H) (hW : s.WarmedH U.vm) : zPre layX aX ca D (xtX aX tt) SX U := by
  obtain ⟨-, hK, -, -, -, -, -, hD, -, -, -, -, hX, -⟩ := hO
  exact ⟨by rw [hU]; exact hP, va_K.moved hW.alike hK, zD_any hD SX, xsX_stab s U hW (by rw [hU]; exact hS.1) (fun q h1 _ => by rw [hU]; exact hS.2.1 q h1 (Nat.not_le.mpr h1)) hX, xsX_stab⟩
theorem lpreM (hO : lOK p l s m meth c D ca aX aM tt sa sv ob b L xs) (hP : va_P D vwCl (zW layM aM ca SM) H) (hS : va_S (lA s) s.heap H locs) (U : State) (hU : U.heap = H) (hW : s.WarmedH U.vm) : zPre layM aM ca D (xtM aM sa sv) SM U := by
  obtain ⟨-, hK, -, -, -, -, -, -, hD, -, -, -, -, hX⟩ := hO
  exact ⟨by rw [hU]; exact hP, va_K.moved hW.alike hK, zD_any hD SM, xsM_stab s U hW (by rw [hU]; exact hS.1) (fun q h1 _ => by rw [hU]; exact hS.2.1 q h1 (Nat.not_le.mpr h1)) hX, xsM_stab⟩
theorem lcwV {R : Room} {own C : String} {idx : Nat} {y : MethodName} {bytes : ByteArray} {maxL k d : Nat} {ret : Option FieldType} (hK : zKV own idx C y bytes maxL ret k) (hts : ∀ w ∈ zTB, w.before #[Value.ref b] s = true) (hR : d + 1 ≤ R.frames ∧ 8 + (maxL + 11) + 40 * d ≤ R.locals) : CallW R s #[Value.ref b] own C idx y bytes maxL ret (zws y bytes maxL ret) (zrm d) 0 0 k := by
  obtain ⟨w1, w2, w3, w4, w5, w6, w7⟩ := hK
  have hG : GoodIn zTB (wsV own idx C y (zws y bytes maxL ret)) := zgoodIn (fun w hw => by
    simp only [wsV, zws, List.cons_append, List.nil_append, List.mem_cons] at hw
    rcases hw with rfl | rfl | rfl | rfl | rfl | hw
    · exact w1
    · exact w2
    · exact w3
    · exact w4
    · exact w5
    · exact hw)
  exact cwV k hts hG rfl rfl rfl w6 hR
theorem lroom {n : Nat} (hn : n ≤ 512) : 108 + n + 0 ≤ room_1.cells ∧ lKS + 6 * n + 0 ≤ room_1.slots := ⟨by show 108 + n + 0 ≤ 601024; omega, by show 4220 + 6 * n + 0 ≤ 7293034; omega⟩
theorem lx_call {ρ : Type} {val : ρ → Option Value} {g : zM ρ} {idx : Nat} {y : MethodName} {bytes : ByteArray} {maxL k dc : Nat} {ret : Option FieldType} {r : ρ} (As : List Value) (hO : lOK p l s m meth c D ca aX aM tt sa sv ob b L xs) (hn : n ≤ 512) (hK : zKV RL idx RX11 y bytes maxL ret k) (hC : zC l y bytes maxL ret dc layX aX ca D (xtX aX tt) (.ref (aX 0) :: As) val g) (hf : g SX = some (r, SX2)) (hk : As.length = k) (hst : st0 = As.reverse ++ .ref (aX 0) :: st) (hsum : (st.map fun v => v.category).sum ≤ 8) (hR : dc ≤ 2000) (hd : decode code pc = .ok (.invokevirtual idx, 3)) (hl : ls.size = 8) (hw : lWo D ca aX aM ob SX SM f s H locs)
    (kk : ∀ (H1 : Heap) (locs1 : List Loc), lWo D ca aX aM ob SX2 SM f s H1 locs1 → lWr p l e s m below meth c b H1 locs1 n (F0 m (pc + 3) ls ((val r).toList ++ st))) : lWr p l e s m below meth c b H locs n (F0 m pc ls st0) := by
  obtain ⟨hX, hM, hOo, hS⟩ := hw
  obtain ⟨h1, hKs, hlt, hL, hAX, hAM, hob, hDX, hDM, hXM, hXo, hMo, -, -⟩ := id hO
  have hrm : dc + 1 ≤ room_1.frames ∧ 8 + (maxL + 11) + 40 * dc ≤ room_1.locals := by
    have := hK.2.2.2.2.2.2
    exact ⟨by show dc + 1 ≤ 2048; omega, by show 8 + (maxL + 11) + 40 * dc ≤ 84000; omega⟩
  have run := va_runV (l := l) (e := e) (below := below) (meth := meth) (H := H) (locs := locs) (cells := 108 + n) (slots := lKS + 6 * n) (g := F0 m pc ls st0) (As := As) (rest := st) (lfix hO) (hC SX r SX2 hf) (lcwV hK (lts hO) hrm) ⟨zPre_blind _ _ _ _ _ _ _, va_recv hKs hX (ci := 11) (q0 := 0) rfl (zW_at lX_0), fun U hU hW => ⟨rfl, lpreX hO hX hS U hU hW⟩⟩ rfl hk hl hst (lv_room hsum) hd (lroom hn)
  intro T hT X
  obtain ⟨v, st₀, t, T', Lc, h0, X', hL', e1, e2, ⟨hv, hP1, hF⟩, go⟩ := run T hT X
  cases hv
  obtain ⟨k2, k3⟩ := lstep hS hAX h0 e1 hF hL'
  obtain ⟨t2, a1, b1⟩ := kk T'.heap (locs ++ Lc) ⟨by rw [e1]; exact hP1, zkept hM (fun q h h' => hXM q h' h) k2, okept hOo hXo k2, k3⟩ T' rfl X'
  exact ⟨t2, go t2 a1, b1⟩
theorem lm_call {ρ : Type} {val : ρ → Option Value} {g : zM ρ} {idx : Nat} {y : MethodName} {bytes : ByteArray} {maxL k dc : Nat} {ret : Option FieldType} {r : ρ} (As : List Value) (hO : lOK p l s m meth c D ca aX aM tt sa sv ob b L xs) (hn : n ≤ 512) (hK : zKV RL idx RX12 y bytes maxL ret k) (hC : zC l y bytes maxL ret dc layM aM ca D (xtM aM sa sv) (.ref (aM 0) :: As) val g) (hf : g SM = some (r, SM2)) (hk : As.length = k) (hst : st0 = As.reverse ++ .ref (aM 0) :: st) (hsum : (st.map fun v => v.category).sum ≤ 8) (hR : dc ≤ 2000) (hd : decode code pc = .ok (.invokevirtual idx, 3)) (hl : ls.size = 8) (hw : lWo D ca aX aM ob SX SM f s H locs)
    (kk : ∀ (H1 : Heap) (locs1 : List Loc), lWo D ca aX aM ob SX SM2 f s H1 locs1 → lWr p l e s m below meth c b H1 locs1 n (F0 m (pc + 3) ls ((val r).toList ++ st))) : lWr p l e s m below meth c b H locs n (F0 m pc ls st0) := by
  obtain ⟨hX, hM, hOo, hS⟩ := hw
  obtain ⟨h1, hKs, hlt, hL, hAX, hAM, hob, hDX, hDM, hXM, hXo, hMo, -, -⟩ := id hO
  have hrm : dc + 1 ≤ room_1.frames ∧ 8 + (maxL + 11) + 40 * dc ≤ room_1.locals := by
    have := hK.2.2.2.2.2.2
    exact ⟨by show dc + 1 ≤ 2048; omega, by show 8 + (maxL + 11) + 40 * dc ≤ 84000; omega⟩
  have run := va_runV (l := l) (e := e) (below := below) (meth := meth) (H := H) (locs := locs) (cells := 108 + n) (slots := lKS + 6 * n) (g := F0 m pc ls st0) (As := As) (rest := st) (lfix hO) (hC SM r SM2 hf) (lcwV hK (lts hO) hrm) ⟨zPre_blind _ _ _ _ _ _ _, va_recv hKs hM (ci := 12) (q0 := 0) rfl (zW_at lM_0), fun U hU hW => ⟨rfl, lpreM hO hM hS U hU hW⟩⟩ rfl hk hl hst (lv_room hsum) hd (lroom hn)
  intro T hT X
  obtain ⟨v, st₀, t, T', Lc, h0, X', hL', e1, e2, ⟨hv, hP1, hF⟩, go⟩ := run T hT X
  cases hv
  obtain ⟨k2, k3⟩ := lstep hS hAM h0 e1 hF hL'
  obtain ⟨t2, a1, b1⟩ := kk T'.heap (locs ++ Lc) ⟨zkept hX (fun q h h' => hXM q h h') k2, by rw [e1]; exact hP1, okept hOo hMo k2, k3⟩ T' rfl X'
  exact ⟨t2, go t2 a1, b1⟩
def lKH (idx : Nat) (y : MethodName) (bytes : ByteArray) (maxL : Nat) (hh : List (Nat × Nat × Nat × Nat)) (k : Nat) : Prop := Cond.methodLink RL idx y ∈ zTB ∧ Cond.static y ∈ zTB ∧ Cond.initialized y.cls ∈ zTB ∧ Cond.codeWith y bytes maxL (some .int) hh ∈ zTB ∧ (y.cls ≠ "java/lang/invoke/MethodHandle" ∧ y.cls ≠ "java/lang/invoke/VarHandle" ∧ (parseMethodDescriptor y.desc).map (fun d => d.parameters.length) = some k) ∧ maxL ≤ 21
theorem lh_call {idx : Nat} {y : MethodName} {bytes : ByteArray} {maxL k dc : Nat} {hh : List (Nat × Nat × Nat × Nat)} {v : Int32} {f2 : Nat → Int64} (As : List Value) (hO : lOK p l s m meth c D ca aX aM tt sa sv ob b L xs) (hn : n + 1 ≤ 512) (hK : lKH idx y bytes maxL hh k) (hC : Met l y (.codeWith y bytes maxL (some .int) hh :: zTB) (zrx dc) (va_Pc As (hPre D ca aX tt ob f SX)) (hPost D ca aX ob v f2 SX2) 1 6 (hA aX ob)) (hk : As.length = k) (hst : st0 = As.reverse ++ st) (hsum : (st.map fun v => v.category).sum ≤ 8) (hR : dc ≤ 2000) (hd : decode code pc = .ok (.invokestatic idx, 3)) (hl : ls.size = 8) (hw : lWo D ca aX aM ob SX SM f s H locs)
    (kk : ∀ (H1 : Heap) (locs1 : List Loc), lWo D ca aX aM ob SX2 SM f2 s H1 locs1 → lWr p l e s m below meth c b H1 locs1 (n + 1) (F0 m (pc + 3) ls (.int v :: st))) : lWr p l e s m below meth c b H locs n (F0 m pc ls st0) := by
  obtain ⟨hX, hM, hOo, hS⟩ := hw
  obtain ⟨h1, hKs, hlt, hL, hAX, hAM, hob, hDX, hDM, hXM, hXo, hMo, -, -⟩ := id hO
  obtain ⟨w1, w2, w3, w4, w5, w6⟩ := hK
  have hrm : dc + 1 ≤ room_1.frames ∧ 8 + (maxL + 11) + 40 * dc ≤ room_1.locals := ⟨by show dc + 1 ≤ 2048; omega, by show 8 + (maxL + 11) + 40 * dc ≤ 84000; omega⟩
  have hG : GoodIn zTB (va_wsS RL idx y (.codeWith y bytes maxL (some .int) hh :: zTB)) := zgoodIn (fun w hw => by
    simp only [va_wsS, List.cons_append, List.nil_append, List.mem_cons] at hw
    rcases hw with rfl | rfl | rfl | rfl | hw
    · exact w1
    · exact w2
    · exact w3
    · exact w4
    · exact hw)
  have hbl : FrameBlind (va_Pc As (hPre D ca aX tt ob f SX)) := fun a U g mk h => ⟨h.1, (zPre_blind layX aX ca D (xtX aX tt) SX As a U g mk ⟨h.1, h.2.1⟩).2, h.2.2⟩
  have hAo : ∀ q, hA aX ob q → lA s q := fun q h => h.elim (hAX q) (fun e => by rw [e]; exact hob)
  have run := vx_runSW (l := l) (e := e) (below := below) (meth := meth) (H := H) (locs := locs) (cells := 108 + n) (slots := lKS + 6 * n) (g := F0 m pc ls st0) (As := As) (rest := st) (lfix hO) hC (vx_cwSW (R := room_1) k (lts hO) hG rfl rfl rfl w5 hrm) ⟨hbl, fun U hU hW => ⟨rfl, lpreX hO hX hS U hU hW, by rw [hU]; exact hOo, hXo⟩⟩ rfl hk hl hst (lv_room hsum) hd ⟨by show 108 + n + 1 ≤ 601024; omega, by show 4220 + 6 * n + 6 ≤ 7293034; omega⟩
  intro T hT X
  obtain ⟨v', st₀, t, T', Lc, h0, X', hL', e1, e2, ⟨hv, hP1, hO1, hF⟩, go⟩ := run T hT X
  cases hv
  obtain ⟨k2, k3⟩ := lstep hS hAo h0 e1 hF hL'
  obtain ⟨t2, a1, b1⟩ := kk T'.heap (locs ++ Lc) ⟨by rw [e1]; exact hP1, zkept hM (fun q h h' => h'.elim (fun z => hXM q z h) (fun z => hMo (z ▸ h))) k2, by rw [e1]; exact hO1, k3⟩ T' rfl X'
  exact ⟨t2, go t2 a1, b1⟩
theorem lin {x4 : Int32} {i k : Nat} (hx : x4 = nI i) (hi : i + 5 ≤ L) (hL : L ≤ 2560) {y : Int32} (hy : y = nI k) (hk : k < 5) : vp_in (x4 + y) L := by
  rw [hx, hy, nI_add]
  exact vp_in_nI (by omega) (by omega)
end LAW
