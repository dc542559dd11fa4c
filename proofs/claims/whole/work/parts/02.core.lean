/-! ===== pure states, layouts, worlds ===== -/
abbrev zS : Type := (Nat → Nat → Int32) × (Nat → Nat → Int64)
abbrev zM (ρ : Type) : Type := zS → Option (ρ × zS)
/-- a cell of a layout: an object (its class' number, its slots: a reference to a cell, an int, a long), or an array (type, length) -/
abbrev zY : Type := (Nat × List (Nat ⊕ Bool)) ⊕ (FieldType × Nat)
def zv (ad : Nat → Nat) (S : zS) (i j : Nat) (x : Nat ⊕ Bool) : Value := match x with
  | .inl k => .ref (ad k)
  | .inr false => .int (S.1 i j)
  | .inr true => .long (S.2 i j)
def zfl (ad : Nat → Nat) (S : zS) (i : Nat) : Nat → List (Nat ⊕ Bool) → List Value
  | _, [] => []
  | j, x :: xs => zv ad S i j x :: zfl ad S i (j + 1) xs
def zct (ad : Nat → Nat) (ca : FieldType → ClassId) (S : zS) (i : Nat) (y : zY) : va_E := match y with
  | .inl o => .inr (o.1, zfl ad S i 0 o.2)
  | .inr (.long, n) => .inl (ca .long, n, .inr (.inl (S.2 i)))
  | .inr (ty, n) => .inl (ca ty, n, .inl (S.1 i))
def zWf (ad : Nat → Nat) (ca : FieldType → ClassId) (S : zS) : Nat → List zY → va_W
  | _, [] => []
  | i, y :: ys => (ad i, zct ad ca S i y) :: zWf ad ca S (i + 1) ys
abbrev zW (lay : List zY) (ad : Nat → Nat) (ca : FieldType → ClassId) (S : zS) : va_W := zWf ad ca S 0 lay
theorem zfl_get (ad : Nat → Nat) (S : zS) (i : Nat) : ∀ (l : List (Nat ⊕ Bool)) (j k : Nat), (zfl ad S i j l)[k]? = (l[k]?).map (fun x => zv ad S i (j + k) x)
  | [], j, k => by simp [zfl]
  | x :: xs, j, 0 => by simp [zfl]
  | x :: xs, j, k + 1 => by
    have h := zfl_get ad S i xs (j + 1) k
    rw [show j + 1 + k = j + (k + 1) by omega] at h
    simpa [zfl] using h
theorem zfl_len (ad : Nat → Nat) (S : zS) (i : Nat) : ∀ (l : List (Nat ⊕ Bool)) (j : Nat), (zfl ad S i j l).length = l.length
  | [], j => rfl
  | x :: xs, j => by simp [zfl, zfl_len ad S i xs (j + 1)]
theorem zWf_get (ad : Nat → Nat) (ca : FieldType → ClassId) (S : zS) : ∀ (l : List zY) (i k : Nat), (zWf ad ca S i l)[k]? = (l[k]?).map (fun y => (ad (i + k), zct ad ca S (i + k) y))
  | [], i, k => by simp [zWf]
  | x :: xs, i, 0 => by simp [zWf]
  | x :: xs, i, k + 1 => by
    have h := zWf_get ad ca S xs (i + 1) k
    rw [show i + 1 + k = i + (k + 1) by omega] at h
    simpa [zWf] using h
theorem zW_at {lay : List zY} {ad : Nat → Nat} {ca : FieldType → ClassId} {S : zS} {k : Nat} {y : zY} (h : lay[k]? = some y) : (zW lay ad ca S)[k]? = some (ad k, zct ad ca S k y) := by
  rw [zWf_get, h]; simp
theorem zW_some {lay : List zY} {ad : Nat → Nat} {ca : FieldType → ClassId} {S : zS} {k : Nat} {q : Nat × va_E} (h : (zW lay ad ca S)[k]? = some q) : k < lay.length ∧ q.1 = ad k := by
  rw [zWf_get] at h
  cases hk : lay[k]? with
  | none => rw [hk] at h; cases h
  | some y =>
    rw [hk] at h
    cases h
    exact ⟨(List.getElem?_eq_some_iff.mp hk).1, by simp⟩
theorem zfl_congr {ad : Nat → Nat} {S S' : zS} {i : Nat} (h1 : S.1 i = S'.1 i) (h2 : S.2 i = S'.2 i) : ∀ (l : List (Nat ⊕ Bool)) (j : Nat), zfl ad S i j l = zfl ad S' i j l
  | [], _ => rfl
  | x :: xs, j => by
    have hx : zv ad S i j x = zv ad S' i j x := by
      rcases x with k | b
      · rfl
      · cases b <;> simp [zv, h1, h2]
    simp [zfl, hx, zfl_congr h1 h2 xs (j + 1)]
theorem zct_congr {ad : Nat → Nat} {ca : FieldType → ClassId} {S S' : zS} {i : Nat} (h1 : S.1 i = S'.1 i) (h2 : S.2 i = S'.2 i) (y : zY) : zct ad ca S i y = zct ad ca S' i y := by
  rcases y with o | ⟨ty, n⟩
  · simp [zct, zfl_congr h1 h2]
  · cases ty <;> simp [zct, h1, h2]
theorem zW_set {lay : List zY} {ad : Nat → Nat} {ca : FieldType → ClassId} {S S' : zS} {k : Nat} {y : zY} (hk : lay[k]? = some y) (h1 : ∀ a, a ≠ k → S.1 a = S'.1 a) (h2 : ∀ a, a ≠ k → S.2 a = S'.2 a) : (zW lay ad ca S).set k (ad k, zct ad ca S' k y) = zW lay ad ca S' := by
  have hl : k < (zW lay ad ca S).length := (List.getElem?_eq_some_iff.mp (zW_at (ad := ad) (ca := ca) (S := S) hk)).1
  apply List.ext_getElem?
  intro n
  by_cases hn : n = k
  · subst hn
    rw [List.getElem?_set_self hl, zW_at hk]
  · rw [List.getElem?_set_ne (fun h => hn h.symm), zWf_get, zWf_get]
    cases lay[n]? with
    | none => rfl
    | some y2 => simp only [Option.map_some, Nat.zero_add]; rw [zct_congr (h1 n hn) (h2 n hn)]
def zA (n : Nat) (ad : Nat → Nat) : Nat → Prop := fun q => ∃ i, i < n ∧ q = ad i
theorem zD_any {A : Nat → Prop} {lay : List zY} {ad : Nat → Nat} {ca : FieldType → ClassId} {S : zS} (h : va_D A (zW lay ad ca S)) (S' : zS) : va_D A (zW lay ad ca S') := by
  have key : ∀ (k : Nat) (q : Nat × va_E), (zW lay ad ca S')[k]? = some q → ∃ q0, (zW lay ad ca S)[k]? = some q0 ∧ q0.1 = q.1 := by
    intro k q hq
    obtain ⟨h1, h2⟩ := zW_some hq
    exact ⟨_, zW_at (List.getElem?_eq_getElem h1), h2.symm⟩
  refine ⟨fun i j x y hi hj hxy => ?_, fun k q hk => ?_⟩
  · obtain ⟨x0, a1, a2⟩ := key i x hi
    obtain ⟨y0, b1, b2⟩ := key j y hj
    exact h.1 i j x0 y0 a1 b1 (a2.trans (hxy.trans b2.symm))
  · obtain ⟨q0, a1, a2⟩ := key k q hk
    rw [← a2]
    exact h.2 k q0 a1
/-! what a program does to the state -/
def zpr (S : zS) (i : Nat) (f : Nat → Int32) : zS := (fun a => if a = i then f else S.1 a, S.2)
def zpq (S : zS) (i : Nat) (f : Nat → Int64) : zS := (S.1, fun a => if a = i then f else S.2 a)
def zpi (S : zS) (i j : Nat) (x : Int32) : zS := zpr S i (upd (S.1 i) j x)
def zpl (S : zS) (i j : Nat) (x : Int64) : zS := zpq S i (vp_updL (S.2 i) j x)
section ZP
variable {ρ α : Type}
def zgi (i j : Nat) (k : Int32 → zM ρ) : zM ρ := fun S => k (S.1 i j) S
def zgl (i j : Nat) (k : Int64 → zM ρ) : zM ρ := fun S => k (S.2 i j) S
def zsi (i j : Nat) (x : Int32) (k : zM ρ) : zM ρ := fun S => k (zpi S i j x)
def zsl (i j : Nat) (x : Int64) (k : zM ρ) : zM ρ := fun S => k (zpl S i j x)
/-- a boolean field: 0 or 1 alone -/
def zsz (i j : Nat) (x : Int32) (k : zM ρ) : zM ρ := fun S => if x = 0 ∨ x = 1 then k (zpi S i j x) else none
def zal (i n : Nat) (x : Int32) (k : Int32 → zM ρ) : zM ρ := fun S => if x < 0 ∨ n ≤ x.toNatClampNeg then none else k (S.1 i x.toNatClampNeg) S
def zall (i n : Nat) (x : Int32) (k : Int64 → zM ρ) : zM ρ := fun S => if x < 0 ∨ n ≤ x.toNatClampNeg then none else k (S.2 i x.toNatClampNeg) S
def zas (i n : Nat) (x v : Int32) (k : zM ρ) : zM ρ := fun S => if x < 0 ∨ n ≤ x.toNatClampNeg then none else k (zpi S i x.toNatClampNeg v)
def zasl (i n : Nat) (x : Int32) (v : Int64) (k : zM ρ) : zM ρ := fun S => if x < 0 ∨ n ≤ x.toNatClampNeg then none else k (zpl S i x.toNatClampNeg v)
def zta (t : List Int32) (x : Int32) (k : Int32 → zM ρ) : zM ρ := fun S => if x < 0 ∨ t.length ≤ x.toNatClampNeg then none else k (t.getD x.toNatClampNeg 0) S
def znz (y : Int32) (k : zM ρ) : zM ρ := fun S => if y = 0 then none else k S
def znzl (y : Int64) (k : zM ρ) : zM ρ := fun S => if y = 0 then none else k S
def zb (f : zM α) (k : α → zM ρ) : zM ρ := fun S => match f S with
  | none => none
  | some r => k r.1 r.2
def zret (v : ρ) : zM ρ := fun S => some (v, S)
def zretz (v : Int32) : zM Int32 := fun S => if v = 0 ∨ v = 1 then some (v, S) else none
def znone : zM ρ := fun _ => none
def zeq (x y : Int32) (a b : zM ρ) : zM ρ := fun S => if x = y then a S else b S
def zlt (x y : Int32) (a b : zM ρ) : zM ρ := fun S => if x < y then a S else b S
def zle (x y : Int32) (a b : zM ρ) : zM ρ := fun S => if x ≤ y then a S else b S
def zcpy (i n j m : Nat) (sp dp len : Int32) (k : zM ρ) : zM ρ := fun S => if sp < 0 ∨ dp < 0 ∨ len < 0 ∨ n < sp.toNatClampNeg + len.toNatClampNeg ∨ m < dp.toNatClampNeg + len.toNatClampNeg then none else k (zpr S j (va_cpy (S.1 i) (S.1 j) sp.toNatClampNeg dp.toNatClampNeg len.toNatClampNeg))
end ZP
theorem zNF_ex : ∃ n : Nat, 1000 ≤ n := ⟨1000, Nat.le_refl _⟩
/-- fuel of every loop -/
noncomputable def zNF : Nat := Classical.choose zNF_ex
theorem zNF_ge : 1000 ≤ zNF := Classical.choose_spec zNF_ex
/-! ===== a walk of the machine against a pure program ===== -/
abbrev zE : Type := (Program × Launch × Env × Room × State) × (MethodId × Array Value × List Frame × Method × Code) × ((FieldType → ClassId) × va_G)
def zTB : List Cond := lw_tbl.filter goodWord
abbrev zT (ca : FieldType → ClassId) : List (ClassId × FieldType) := [(ca .int, .int), (ca .char, .char), (ca .boolean, .boolean), (ca .long, .long)]
def zStab (A : Nat → Prop) (Xt : State → Prop) : Prop := ∀ (s U : State), s.WarmedH U.vm → s.heap.size ≤ U.heap.size → (∀ q : Nat, q < s.heap.size → ¬ A q → U.heap[q]? = s.heap[q]?) → Xt s → Xt U
def zrm (d : Nat) : Room := { frames := d, cells := 0, slots := 0, locals := 40 * d }
def zok (lay : List zY) (ad : Nat → Nat) (Xt : State → Prop) (E : zE) (cc : ByteArray) (nL : Nat) (own : String) (d : Nat) : Prop :=
  CallFix E.1.1 E.2.1.1 E.2.1.2.2.2.2 cc nL E.1.2.2.2.2 E.2.1.2.1 zTB own ∧ E.2.1.2.2.2.1.locks = false ∧ va_K E.2.2.2 vwCl (zT E.2.2.1) E.1.2.2.2.2 ∧ (∀ S, va_D (zA lay.length ad) (zW lay ad E.2.2.1 S)) ∧ Xt E.1.2.2.2.2 ∧ zStab (zA lay.length ad) Xt ∧ d ≤ E.1.2.2.2.1.frames ∧ 40 * d ≤ E.1.2.2.2.1.locals
abbrev zWr (E : zE) (H : Heap) (locs : List Loc) (Q : State → Prop) (g : JFrame) : Prop := W E.1.1 E.1.2.1 E.1.2.2.1 E.1.2.2.2.1 E.1.2.2.2.2 E.2.1.1 E.2.1.2.1 E.2.1.2.2.1 E.2.1.2.2.2.1 E.2.1.2.2.2.2 H locs 0 0 Q g
def Z {ρ : Type} (lay : List zY) (ad : Nat → Nat) (E : zE) (nL : Nat) (Fin : ρ → zS → State → Prop) (pc : Nat) (L : List (Nat × Value)) (st : List Value) (mm : zM ρ) : Prop :=
  ∀ (S : zS) (H : Heap) (locs : List Loc) (ls : Array Slot), lv_has ls nL L → va_P E.2.2.2 vwCl (zW lay ad E.2.2.1 S) H → va_S (zA lay.length ad) E.1.2.2.2.2.heap H locs → ∀ (r : ρ) (S' : zS), mm S = some (r, S') → zWr E H locs (Fin r S') (F0 E.2.1.1 pc ls st)
def zPre (lay : List zY) (ad : Nat → Nat) (ca : FieldType → ClassId) (D : va_G) (Xt : State → Prop) (S : zS) (U : State) : Prop := va_P D vwCl (zW lay ad ca S) U.heap ∧ va_K D vwCl (zT ca) U ∧ va_D (zA lay.length ad) (zW lay ad ca S) ∧ Xt U ∧ zStab (zA lay.length ad) Xt
def zPost (lay : List zY) (ad : Nat → Nat) (ca : FieldType → ClassId) (D : va_G) (o : Option Value) (S : zS) : Array Value → State → Outcome → State → Prop := fun _ st oc t => oc = .returned o ∧ va_P D vwCl (zW lay ad ca S) t.heap ∧ va_F (zA lay.length ad) st t
abbrev zws (y : MethodName) (bytes : ByteArray) (maxL : Nat) (ret : Option FieldType) : List Cond := .code y bytes maxL ret :: zTB
/-- the contract of a method: what the pure program says, it does -/
def zC {ρ : Type} (l : Launch) (y : MethodName) (bytes : ByteArray) (maxL : Nat) (ret : Option FieldType) (d : Nat) (lay : List zY) (ad : Nat → Nat) (ca : FieldType → ClassId) (D : va_G) (Xt : State → Prop) (As : List Value) (val : ρ → Option Value) (f : zM ρ) : Prop :=
  ∀ (S : zS) (r : ρ) (S' : zS), f S = some (r, S') → Met l y (zws y bytes maxL ret) (zrm d) (va_Pc As (zPre lay ad ca D Xt S)) (zPost lay ad ca D (val r) S') 0 0 (zA lay.length ad)
abbrev zvi : Int32 → Option Value := fun r => some (.int r)
abbrev zvl : Int64 → Option Value := fun r => some (.long r)
abbrev zvn : Unit → Option Value := fun _ => none
def zFin {ρ : Type} (lay : List zY) (ad : Nat → Nat) (E : zE) (val : ρ → Option Value) : ρ → zS → State → Prop := fun r S' => MQ E.2.1.2.2.1 (zPost lay ad E.2.2.1 E.2.2.2 (val r) S') E.2.1.2.1 E.1.2.2.2.2 0 0 (zA lay.length ad)
theorem zPre_blind (lay : List zY) (ad : Nat → Nat) (ca : FieldType → ClassId) (D : va_G) (Xt : State → Prop) (S : zS) (As : List Value) : FrameBlind (va_Pc As (zPre lay ad ca D Xt S)) := by
  intro a U g mk h
  obtain ⟨h1, hP, hK, hD, hX, hs⟩ := h
  exact ⟨h1, hP, va_K.moved (u := U) (U := U.calling g mk a) (Vm.Alike.refl U.vm) hK, hD, hs U (U.calling g mk a) (State.WarmedH.refl U) (Nat.le_refl _) (fun _ _ _ => rfl) hX, hs⟩
theorem z_enter {ρ : Type} {l : Launch} {y : MethodName} {bytes : ByteArray} {maxL : Nat} {ret : Option FieldType} {d : Nat} {lay : List zY} {ad : Nat → Nat} {ca : FieldType → ClassId} {D : va_G} {Xt : State → Prop} {As : List Value} {val : ρ → Option Value} {f : zM ρ} (hy : plainName y.cls = true) (hn : (lg_sl As).length ≤ maxL)
    (body : ∀ E : zE, zok lay ad Xt E bytes maxL y.cls d → E.1.2.1 = l → E.2.2 = (ca, D) → E.2.1.2.2.2.1.sig.returnType = ret → Z lay ad E maxL (zFin lay ad E val) 0 (lv_args 0 As) [] f) : zC l y bytes maxL ret d lay ad ca D Xt As val f := by
  intro S r S' hf
  refine Met.ofW (cc := bytes) (maxL := maxL) (ret := ret) hy rfl ?_
  intro p e s m args below meth c s₁ B hml hv
  obtain ⟨rfl, hP, hK, hD, hX, hs⟩ := hv
  have hts := atoms_spec (ws := zws y bytes maxL ret) B.pre
  have hown : s.vm.findClass y.cls = some m.cls := findClass_of_methodNamed B.named
  have hl := lv_entry As (n := maxL) hn
  rw [lg_entry_eq]
  exact body ((p, l, e, zrm d, s), (m, As.toArray, below, meth, c), (ca, D)) ⟨⟨B.exec, B.bytes, hml, hown, fun w hw => hts w (List.mem_cons_of_mem _ hw)⟩, B.notSynchronized, hK, fun S2 => zD_any hD S2, hX, hs, Nat.le_refl _, Nat.le_refl _⟩ rfl rfl B.returns S s.heap [] _ hl hP va_S.rf r S' hf
