section ZR
variable {ρ : Type} {lay : List zY} {ad : Nat → Nat} {Xt : State → Prop} {E : zE} {cc : ByteArray} {nL d : Nat} {own : String} {Fn : ρ → zS → State → Prop} {pc : Nat} {L L' : List (Nat × Value)} {st : List Value} {mm ma mb : zM ρ}
theorem zvin {x : Int32} {n : Nat} (h : ¬ (x < 0 ∨ n ≤ x.toNatClampNeg)) : vp_in x n := h
theorem z_none : Z lay ad E nL Fn pc L st (znone : zM ρ) := fun _ _ _ _ _ _ _ _ _ h => by cases h
theorem z_sub (ks : List Nat) (hL : lv_pick L ks = L') (k : Z lay ad E nL Fn pc L' st mm) : Z lay ad E nL Fn pc L st mm := fun S H locs ls hl hP hS r S' h => k S H locs ls (lv_sub hl ks hL) hP hS r S' h
theorem z_iadd (hE : zok lay ad Xt E cc nL own d) {x y : Int32} (hd : decode cc pc = .ok (.iadd, 1)) (k : Z lay ad E nL Fn (pc + 1) L (.int (x + y) :: st) mm) : Z lay ad E nL Fn pc L (.int y :: .int x :: st) mm := fun S H locs ls hl hP hS r S' h => lv_iadd hE.1.1 hE.1.2.1 hd (k S H locs ls hl hP hS r S' h)
theorem z_isub (hE : zok lay ad Xt E cc nL own d) {x y : Int32} (hd : decode cc pc = .ok (.isub, 1)) (k : Z lay ad E nL Fn (pc + 1) L (.int (x - y) :: st) mm) : Z lay ad E nL Fn pc L (.int y :: .int x :: st) mm := fun S H locs ls hl hP hS r S' h => lv_isub hE.1.1 hE.1.2.1 hd (k S H locs ls hl hP hS r S' h)
theorem z_imul (hE : zok lay ad Xt E cc nL own d) {x y : Int32} (hd : decode cc pc = .ok (.imul, 1)) (k : Z lay ad E nL Fn (pc + 1) L (.int (x * y) :: st) mm) : Z lay ad E nL Fn pc L (.int y :: .int x :: st) mm := fun S H locs ls hl hP hS r S' h => lv_imul hE.1.1 hE.1.2.1 hd (k S H locs ls hl hP hS r S' h)
theorem z_iand (hE : zok lay ad Xt E cc nL own d) {x y : Int32} (hd : decode cc pc = .ok (.iand, 1)) (k : Z lay ad E nL Fn (pc + 1) L (.int (x &&& y) :: st) mm) : Z lay ad E nL Fn pc L (.int y :: .int x :: st) mm := fun S H locs ls hl hP hS r S' h => lv_iand hE.1.1 hE.1.2.1 hd (k S H locs ls hl hP hS r S' h)
theorem z_ior (hE : zok lay ad Xt E cc nL own d) {x y : Int32} (hd : decode cc pc = .ok (.ior, 1)) (k : Z lay ad E nL Fn (pc + 1) L (.int (x ||| y) :: st) mm) : Z lay ad E nL Fn pc L (.int y :: .int x :: st) mm := fun S H locs ls hl hP hS r S' h => lv_ior hE.1.1 hE.1.2.1 hd (k S H locs ls hl hP hS r S' h)
theorem z_ixor (hE : zok lay ad Xt E cc nL own d) {x y : Int32} (hd : decode cc pc = .ok (.ixor, 1)) (k : Z lay ad E nL Fn (pc + 1) L (.int (x ^^^ y) :: st) mm) : Z lay ad E nL Fn pc L (.int y :: .int x :: st) mm := fun S H locs ls hl hP hS r S' h => lv_ixor hE.1.1 hE.1.2.1 hd (k S H locs ls hl hP hS r S' h)
theorem z_ishl (hE : zok lay ad Xt E cc nL own d) {x y : Int32} (hd : decode cc pc = .ok (.ishl, 1)) (k : Z lay ad E nL Fn (pc + 1) L (.int (x <<< (y &&& 31)) :: st) mm) : Z lay ad E nL Fn pc L (.int y :: .int x :: st) mm := fun S H locs ls hl hP hS r S' h => lv_ishl hE.1.1 hE.1.2.1 hd (k S H locs ls hl hP hS r S' h)
theorem z_ishr (hE : zok lay ad Xt E cc nL own d) {x y : Int32} (hd : decode cc pc = .ok (.ishr, 1)) (k : Z lay ad E nL Fn (pc + 1) L (.int (x >>> (y &&& 31)) :: st) mm) : Z lay ad E nL Fn pc L (.int y :: .int x :: st) mm := fun S H locs ls hl hP hS r S' h => lv_ishr hE.1.1 hE.1.2.1 hd (k S H locs ls hl hP hS r S' h)
theorem z_ladd (hE : zok lay ad Xt E cc nL own d) {x y : Int64} (hd : decode cc pc = .ok (.ladd, 1)) (k : Z lay ad E nL Fn (pc + 1) L (.long (x + y) :: st) mm) : Z lay ad E nL Fn pc L (.long y :: .long x :: st) mm := fun S H locs ls hl hP hS r S' h => lv_ladd hE.1.1 hE.1.2.1 hd (k S H locs ls hl hP hS r S' h)
theorem z_lmul (hE : zok lay ad Xt E cc nL own d) {x y : Int64} (hd : decode cc pc = .ok (.lmul, 1)) (k : Z lay ad E nL Fn (pc + 1) L (.long (x * y) :: st) mm) : Z lay ad E nL Fn pc L (.long y :: .long x :: st) mm := fun S H locs ls hl hP hS r S' h => lv_lmul hE.1.1 hE.1.2.1 hd (k S H locs ls hl hP hS r S' h)
theorem z_land (hE : zok lay ad Xt E cc nL own d) {x y : Int64} (hd : decode cc pc = .ok (.land, 1)) (k : Z lay ad E nL Fn (pc + 1) L (.long (x &&& y) :: st) mm) : Z lay ad E nL Fn pc L (.long y :: .long x :: st) mm := fun S H locs ls hl hP hS r S' h => lv_land hE.1.1 hE.1.2.1 hd (k S H locs ls hl hP hS r S' h)
theorem z_lor (hE : zok lay ad Xt E cc nL own d) {x y : Int64} (hd : decode cc pc = .ok (.lor, 1)) (k : Z lay ad E nL Fn (pc + 1) L (.long (x ||| y) :: st) mm) : Z lay ad E nL Fn pc L (.long y :: .long x :: st) mm := fun S H locs ls hl hP hS r S' h => lv_lor hE.1.1 hE.1.2.1 hd (k S H locs ls hl hP hS r S' h)
theorem z_iushr (hE : zok lay ad Xt E cc nL own d) {x y : Int32} (hd : decode cc pc = .ok (.iushr, 1)) (k : Z lay ad E nL Fn (pc + 1) L (.int ((x.toUInt32 >>> (y.toUInt32 &&& Int32.toUInt32 31)).toInt32) :: st) mm) : Z lay ad E nL Fn pc L (.int y :: .int x :: st) mm := fun S H locs ls hl hP hS r S' h => lv_iushr hE.1.1 hE.1.2.1 hd rfl (k S H locs ls hl hP hS r S' h)
theorem z_lshl (hE : zok lay ad Xt E cc nL own d) {x : Int64} {y : Int32} (hd : decode cc pc = .ok (.lshl, 1)) (k : Z lay ad E nL Fn (pc + 1) L (.long (x <<< (y.toInt64 &&& 63)) :: st) mm) : Z lay ad E nL Fn pc L (.int y :: .long x :: st) mm := fun S H locs ls hl hP hS r S' h => lv_lshl hE.1.1 hE.1.2.1 hd rfl (k S H locs ls hl hP hS r S' h)
theorem z_ineg (hE : zok lay ad Xt E cc nL own d) {x : Int32} (hd : decode cc pc = .ok (.ineg, 1)) (k : Z lay ad E nL Fn (pc + 1) L (.int (-x) :: st) mm) : Z lay ad E nL Fn pc L (.int x :: st) mm := fun S H locs ls hl hP hS r S' h => lv_ineg hE.1.1 hE.1.2.1 hd (k S H locs ls hl hP hS r S' h)
theorem z_i2l (hE : zok lay ad Xt E cc nL own d) {x : Int32} (hd : decode cc pc = .ok (.i2l, 1)) (k : Z lay ad E nL Fn (pc + 1) L (.long x.toInt64 :: st) mm) : Z lay ad E nL Fn pc L (.int x :: st) mm := fun S H locs ls hl hP hS r S' h => lv_i2l hE.1.1 hE.1.2.1 hd rfl (k S H locs ls hl hP hS r S' h)
theorem z_l2i (hE : zok lay ad Xt E cc nL own d) {x : Int64} (hd : decode cc pc = .ok (.l2i, 1)) (k : Z lay ad E nL Fn (pc + 1) L (.int x.toInt32 :: st) mm) : Z lay ad E nL Fn pc L (.long x :: st) mm := fun S H locs ls hl hP hS r S' h => lv_l2i hE.1.1 hE.1.2.1 hd rfl (k S H locs ls hl hP hS r S' h)
theorem z_i2b (hE : zok lay ad Xt E cc nL own d) {x : Int32} (hd : decode cc pc = .ok (.i2b, 1)) (k : Z lay ad E nL Fn (pc + 1) L (.int x.toInt8.toInt32 :: st) mm) : Z lay ad E nL Fn pc L (.int x :: st) mm := fun S H locs ls hl hP hS r S' h => lv_i2b hE.1.1 hE.1.2.1 hd rfl (k S H locs ls hl hP hS r S' h)
theorem z_i2s (hE : zok lay ad Xt E cc nL own d) {x : Int32} (hd : decode cc pc = .ok (.i2s, 1)) (k : Z lay ad E nL Fn (pc + 1) L (.int x.toInt16.toInt32 :: st) mm) : Z lay ad E nL Fn pc L (.int x :: st) mm := fun S H locs ls hl hP hS r S' h => lv_i2s hE.1.1 hE.1.2.1 hd rfl (k S H locs ls hl hP hS r S' h)
theorem z_i2c (hE : zok lay ad Xt E cc nL own d) {x : Int32} (hd : decode cc pc = .ok (.i2c, 1)) (k : Z lay ad E nL Fn (pc + 1) L (.int (x.toUInt32 % 65536).toInt32 :: st) mm) : Z lay ad E nL Fn pc L (.int x :: st) mm := fun S H locs ls hl hP hS r S' h => lv_i2c hE.1.1 hE.1.2.1 hd rfl (k S H locs ls hl hP hS r S' h)
theorem z_lcmp (hE : zok lay ad Xt E cc nL own d) {x y : Int64} (hd : decode cc pc = .ok (.lcmp, 1)) (k : Z lay ad E nL Fn (pc + 1) L (.int (lg_cmp x y) :: st) mm) : Z lay ad E nL Fn pc L (.long y :: .long x :: st) mm := fun S H locs ls hl hP hS r S' h => W.lcmp hE.1.1 hE.1.2.1 hd (k S H locs ls hl hP hS r S' h)
theorem z_dup (hE : zok lay ad Xt E cc nL own d) {v : Value} (hd : decode cc pc = .ok (.dup, 1)) (hv : v.category = 1) (k : Z lay ad E nL Fn (pc + 1) L (v :: v :: st) mm) : Z lay ad E nL Fn pc L (v :: st) mm := fun S H locs ls hl hP hS r S' h => lv_dup hE.1.1 hE.1.2.1 hd hv (k S H locs ls hl hP hS r S' h)
theorem z_dup2 (hE : zok lay ad Xt E cc nL own d) {v v2 : Value} (hd : decode cc pc = .ok (.dup2, 1)) (hv : v.category = 1) (hv2 : v2.category = 1) (k : Z lay ad E nL Fn (pc + 1) L (v :: v2 :: v :: v2 :: st) mm) : Z lay ad E nL Fn pc L (v :: v2 :: st) mm := fun S H locs ls hl hP hS r S' h => lv_dup2_11 hE.1.1 hE.1.2.1 hd hv hv2 (k S H locs ls hl hP hS r S' h)
theorem z_dup2l (hE : zok lay ad Xt E cc nL own d) {v : Value} (hd : decode cc pc = .ok (.dup2, 1)) (hv : v.category = 2) (k : Z lay ad E nL Fn (pc + 1) L (v :: v :: st) mm) : Z lay ad E nL Fn pc L (v :: st) mm := fun S H locs ls hl hP hS r S' h => lv_dup2_2 hE.1.1 hE.1.2.1 hd hv (k S H locs ls hl hP hS r S' h)
theorem z_pop (hE : zok lay ad Xt E cc nL own d) {v : Value} (hd : decode cc pc = .ok (.pop, 1)) (hv : v.category = 1) (k : Z lay ad E nL Fn (pc + 1) L (st) mm) : Z lay ad E nL Fn pc L (v :: st) mm := fun S H locs ls hl hP hS r S' h => lv_pop hE.1.1 hE.1.2.1 hd hv (k S H locs ls hl hP hS r S' h)
theorem z_iconst (hE : zok lay ad Xt E cc nL own d) {n : Int} {v : Int32} (hd : decode cc pc = .ok (.iconst n, 1)) (hv : Int32.ofInt n = v) (k : Z lay ad E nL Fn (pc + 1) L (.int v :: st) mm) : Z lay ad E nL Fn pc L (st) mm := fun S H locs ls hl hP hS r S' h => lv_iconst hE.1.1 hE.1.2.1 hd hv (k S H locs ls hl hP hS r S' h)
theorem z_bipush (hE : zok lay ad Xt E cc nL own d) {n : Int} {v : Int32} (hd : decode cc pc = .ok (.bipush n, 2)) (hv : (Int8.ofInt n).toInt32 = v) (k : Z lay ad E nL Fn (pc + 2) L (.int v :: st) mm) : Z lay ad E nL Fn pc L (st) mm := fun S H locs ls hl hP hS r S' h => lv_bipush hE.1.1 hE.1.2.1 hd hv (k S H locs ls hl hP hS r S' h)
theorem z_sipush (hE : zok lay ad Xt E cc nL own d) {n : Int} {v : Int32} (hd : decode cc pc = .ok (.sipush n, 3)) (hv : (Int16.ofInt n).toInt32 = v) (k : Z lay ad E nL Fn (pc + 3) L (.int v :: st) mm) : Z lay ad E nL Fn pc L (st) mm := fun S H locs ls hl hP hS r S' h => lv_sipush hE.1.1 hE.1.2.1 hd hv (k S H locs ls hl hP hS r S' h)
theorem z_lconst (hE : zok lay ad Xt E cc nL own d) {n : Fin 2} {v : Int64} (hd : decode cc pc = .ok (.lconst n, 1)) (hv : Int64.ofNat (n : Nat) = v) (k : Z lay ad E nL Fn (pc + 1) L (.long v :: st) mm) : Z lay ad E nL Fn pc L (st) mm := fun S H locs ls hl hP hS r S' h => lv_lconst hE.1.1 hE.1.2.1 hd hv (k S H locs ls hl hP hS r S' h)
theorem z_ldc (hE : zok lay ad Xt E cc nL own d) {idx : Nat} {v : Int32} (hw : Cond.constant own idx v ∈ zTB) (hd : decode cc pc = .ok (.ldc idx, 2)) (k : Z lay ad E nL Fn (pc + 2) L (.int v :: st) mm) : Z lay ad E nL Fn pc L st mm := fun S H locs ls hl hP hS r S' h => lv_ldc hE.1.1 hE.1.2.1 hE.1.2.2.2.1 (hE.1.2.2.2.2 _ hw) hd (k S H locs ls hl hP hS r S' h)
theorem z_ldcw (hE : zok lay ad Xt E cc nL own d) {idx : Nat} {v : Int32} (hw : Cond.constant own idx v ∈ zTB) (hd : decode cc pc = .ok (.ldc_w idx, 3)) (k : Z lay ad E nL Fn (pc + 3) L (.int v :: st) mm) : Z lay ad E nL Fn pc L st mm := fun S H locs ls hl hP hS r S' h => lv_ldcw hE.1.1 hE.1.2.1 hE.1.2.2.2.1 (hE.1.2.2.2.2 _ hw) hd (k S H locs ls hl hP hS r S' h)
theorem z_ldc2 (hE : zok lay ad Xt E cc nL own d) {idx : Nat} {v : Int64} (hw : Cond.constantLong own idx v ∈ zTB) (hd : decode cc pc = .ok (.ldc2_w idx, 3)) (k : Z lay ad E nL Fn (pc + 3) L (.long v :: st) mm) : Z lay ad E nL Fn pc L st mm := fun S H locs ls hl hP hS r S' h => lv_ldc2 hE.1.1 hE.1.2.1 hE.1.2.2.2.1 (hE.1.2.2.2.2 _ hw) hd (k S H locs ls hl hP hS r S' h)
theorem z_iload_n (hE : zok lay ad Xt E cc nL own d) {j : Fin 4} {x : Int32} (q i : Nat) (hi : (j : Nat) = i) (hq : L[q]? = some (i, .int x)) (hd : decode cc pc = .ok (.iload_n j, 1)) (k : Z lay ad E nL Fn (pc + 1) L (.int x :: st) mm) : Z lay ad E nL Fn pc L st mm := fun S H locs ls hl hP hS r S' h => lv_iload_n hE.1.1 hE.1.2.1 hd hi (lv_at hl q hq) (k S H locs ls hl hP hS r S' h)
theorem z_iload (hE : zok lay ad Xt E cc nL own d) {x : Int32} (q : Nat) {i : Nat} (hq : L[q]? = some (i, .int x)) (hd : decode cc pc = .ok (.iload i, 2)) (k : Z lay ad E nL Fn (pc + 2) L (.int x :: st) mm) : Z lay ad E nL Fn pc L st mm := fun S H locs ls hl hP hS r S' h => lv_iload hE.1.1 hE.1.2.1 hd (lv_at hl q hq) (k S H locs ls hl hP hS r S' h)
theorem z_istore_n (hE : zok lay ad Xt E cc nL own d) {j : Fin 4} {x : Int32} (i : Nat) (hi : (j : Nat) = i) (hn : i < nL) (hL : (i, Value.int x) :: L.filter (fun q => !(q.1 == i) && !(q.1 + 1 == i && q.2.category == 2)) = L') (hd : decode cc pc = .ok (.istore_n j, 1)) (k : Z lay ad E nL Fn (pc + 1) L' st mm) : Z lay ad E nL Fn pc L (.int x :: st) mm := fun S H locs ls hl hP hS r S' h => lv_istore_n hE.1.1 hE.1.2.1 hd hi hl hn hL (fun ls2 hl2 => k S H locs ls2 hl2 hP hS r S' h)
theorem z_istore (hE : zok lay ad Xt E cc nL own d) {x : Int32} {i : Nat} (hn : i < nL) (hL : (i, Value.int x) :: L.filter (fun q => !(q.1 == i) && !(q.1 + 1 == i && q.2.category == 2)) = L') (hd : decode cc pc = .ok (.istore i, 2)) (k : Z lay ad E nL Fn (pc + 2) L' st mm) : Z lay ad E nL Fn pc L (.int x :: st) mm := fun S H locs ls hl hP hS r S' h => lv_istore hE.1.1 hE.1.2.1 hd hl hn hL (fun ls2 hl2 => k S H locs ls2 hl2 hP hS r S' h)
theorem z_lload_n (hE : zok lay ad Xt E cc nL own d) {j : Fin 4} {x : Int64} (q i : Nat) (hi : (j : Nat) = i) (hq : L[q]? = some (i, .long x)) (hd : decode cc pc = .ok (.lload_n j, 1)) (k : Z lay ad E nL Fn (pc + 1) L (.long x :: st) mm) : Z lay ad E nL Fn pc L st mm := fun S H locs ls hl hP hS r S' h => lv_lload_n hE.1.1 hE.1.2.1 hd hi (lv_at hl q hq) (k S H locs ls hl hP hS r S' h)
theorem z_lload (hE : zok lay ad Xt E cc nL own d) {x : Int64} (q : Nat) {i : Nat} (hq : L[q]? = some (i, .long x)) (hd : decode cc pc = .ok (.lload i, 2)) (k : Z lay ad E nL Fn (pc + 2) L (.long x :: st) mm) : Z lay ad E nL Fn pc L st mm := fun S H locs ls hl hP hS r S' h => lv_lload hE.1.1 hE.1.2.1 hd (lv_at hl q hq) (k S H locs ls hl hP hS r S' h)
theorem z_lstore_n (hE : zok lay ad Xt E cc nL own d) {j : Fin 4} {x : Int64} (i : Nat) (hi : (j : Nat) = i) (hn : i + 1 < nL) (hL : (i, Value.long x) :: L.filter (fun q => !(q.1 == i) && (!(q.1 == i + 1) && !(q.1 + 1 == i && q.2.category == 2))) = L') (hd : decode cc pc = .ok (.lstore_n j, 1)) (k : Z lay ad E nL Fn (pc + 1) L' st mm) : Z lay ad E nL Fn pc L (.long x :: st) mm := fun S H locs ls hl hP hS r S' h => lv_lstore_n hE.1.1 hE.1.2.1 hd hi hl hn hL (fun ls2 hl2 => k S H locs ls2 hl2 hP hS r S' h)
theorem z_lstore (hE : zok lay ad Xt E cc nL own d) {x : Int64} {i : Nat} (hn : i + 1 < nL) (hL : (i, Value.long x) :: L.filter (fun q => !(q.1 == i) && (!(q.1 == i + 1) && !(q.1 + 1 == i && q.2.category == 2))) = L') (hd : decode cc pc = .ok (.lstore i, 2)) (k : Z lay ad E nL Fn (pc + 2) L' st mm) : Z lay ad E nL Fn pc L (.long x :: st) mm := fun S H locs ls hl hP hS r S' h => lv_lstore hE.1.1 hE.1.2.1 hd hl hn hL (fun ls2 hl2 => k S H locs ls2 hl2 hP hS r S' h)
theorem z_aload_n (hE : zok lay ad Xt E cc nL own d) {j : Fin 4} {x : Nat} (q i : Nat) (hi : (j : Nat) = i) (hq : L[q]? = some (i, .ref x)) (hd : decode cc pc = .ok (.aload_n j, 1)) (k : Z lay ad E nL Fn (pc + 1) L (.ref x :: st) mm) : Z lay ad E nL Fn pc L st mm := fun S H locs ls hl hP hS r S' h => lv_aload_n hE.1.1 hE.1.2.1 hd hi (lv_at hl q hq) (k S H locs ls hl hP hS r S' h)
theorem z_aload (hE : zok lay ad Xt E cc nL own d) {x : Nat} (q : Nat) {i : Nat} (hq : L[q]? = some (i, .ref x)) (hd : decode cc pc = .ok (.aload i, 2)) (k : Z lay ad E nL Fn (pc + 2) L (.ref x :: st) mm) : Z lay ad E nL Fn pc L st mm := fun S H locs ls hl hP hS r S' h => lv_aload hE.1.1 hE.1.2.1 hd (lv_at hl q hq) (k S H locs ls hl hP hS r S' h)
theorem z_astore_n (hE : zok lay ad Xt E cc nL own d) {j : Fin 4} {x : Nat} (i : Nat) (hi : (j : Nat) = i) (hn : i < nL) (hL : (i, Value.ref x) :: L.filter (fun q => !(q.1 == i) && !(q.1 + 1 == i && q.2.category == 2)) = L') (hd : decode cc pc = .ok (.astore_n j, 1)) (k : Z lay ad E nL Fn (pc + 1) L' st mm) : Z lay ad E nL Fn pc L (.ref x :: st) mm := fun S H locs ls hl hP hS r S' h => lv_astore_n hE.1.1 hE.1.2.1 hd hi hl hn hL (fun ls2 hl2 => k S H locs ls2 hl2 hP hS r S' h)
theorem z_astore (hE : zok lay ad Xt E cc nL own d) {x : Nat} {i : Nat} (hn : i < nL) (hL : (i, Value.ref x) :: L.filter (fun q => !(q.1 == i) && !(q.1 + 1 == i && q.2.category == 2)) = L') (hd : decode cc pc = .ok (.astore i, 2)) (k : Z lay ad E nL Fn (pc + 2) L' st mm) : Z lay ad E nL Fn pc L (.ref x :: st) mm := fun S H locs ls hl hP hS r S' h => lv_astore hE.1.1 hE.1.2.1 hd hl hn hL (fun ls2 hl2 => k S H locs ls2 hl2 hP hS r S' h)
theorem z_iinc (hE : zok lay ad Xt E cc nL own d) {x v : Int32} {i : Nat} {n : Int} (q : Nat) (hq : L[q]? = some (i, .int x)) (hv : x + Int32.ofInt n = v) (hn : i < nL) (hL : (i, Value.int v) :: L.filter (fun q => !(q.1 == i) && !(q.1 + 1 == i && q.2.category == 2)) = L') (hd : decode cc pc = .ok (.iinc i n, 3)) (k : Z lay ad E nL Fn (pc + 3) L' st mm) : Z lay ad E nL Fn pc L st mm := fun S H locs ls hl hP hS r S' h => lv_iinc hE.1.1 hE.1.2.1 hd hl hq hv hn hL (fun ls2 hl2 => k S H locs ls2 hl2 hP hS r S' h)
theorem z_goto (hE : zok lay ad Xt E cc nL own d) {off : Int} (tgt : Nat) (ht : (pc : Int) + off = (tgt : Int)) (hd : decode cc pc = .ok (.goto off, 3)) (k : Z lay ad E nL Fn tgt L st mm) : Z lay ad E nL Fn pc L st mm := fun S H locs ls hl hP hS r S' h => lv_goto hE.1.1 hE.1.2.1 hd ht (k S H locs ls hl hP hS r S' h)
theorem z_icmp_eq (hE : zok lay ad Xt E cc nL own d) {x y : Int32} {off : Int} (tgt : Nat) (ht : (pc : Int) + off = (tgt : Int)) (hd : decode cc pc = .ok (.if_icmp .eq off, 3)) (kt : Z lay ad E nL Fn tgt L st ma) (kf : Z lay ad E nL Fn (pc + 3) L st mb) : Z lay ad E nL Fn pc L (.int y :: .int x :: st) (zeq x y ma mb) := fun S H locs ls hl hP hS r S' h => lv_icmp_eq hE.1.1 hE.1.2.1 hd ht (fun hc => kt S H locs ls hl hP hS r S' (by simpa [zeq, hc] using h)) (fun hc => kf S H locs ls hl hP hS r S' (by simpa [zeq, hc] using h))
theorem z_if_eq (hE : zok lay ad Xt E cc nL own d) {x : Int32} {off : Int} (tgt : Nat) (ht : (pc : Int) + off = (tgt : Int)) (hd : decode cc pc = .ok (.ifCond .eq off, 3)) (kt : Z lay ad E nL Fn tgt L st ma) (kf : Z lay ad E nL Fn (pc + 3) L st mb) : Z lay ad E nL Fn pc L (.int x :: st) (zeq x 0 ma mb) := fun S H locs ls hl hP hS r S' h => lv_if_eq hE.1.1 hE.1.2.1 hd ht (fun hc => kt S H locs ls hl hP hS r S' (by simpa [zeq, hc] using h)) (fun hc => kf S H locs ls hl hP hS r S' (by simpa [zeq, hc] using h))
theorem z_icmp_ne (hE : zok lay ad Xt E cc nL own d) {x y : Int32} {off : Int} (tgt : Nat) (ht : (pc : Int) + off = (tgt : Int)) (hd : decode cc pc = .ok (.if_icmp .ne off, 3)) (kt : Z lay ad E nL Fn tgt L st ma) (kf : Z lay ad E nL Fn (pc + 3) L st mb) : Z lay ad E nL Fn pc L (.int y :: .int x :: st) (zeq x y mb ma) := fun S H locs ls hl hP hS r S' h => lv_icmp_ne hE.1.1 hE.1.2.1 hd ht (fun hc => kt S H locs ls hl hP hS r S' (by simpa [zeq, hc] using h)) (fun hc => kf S H locs ls hl hP hS r S' (by simpa [zeq, hc] using h))
theorem z_if_ne (hE : zok lay ad Xt E cc nL own d) {x : Int32} {off : Int} (tgt : Nat) (ht : (pc : Int) + off = (tgt : Int)) (hd : decode cc pc = .ok (.ifCond .ne off, 3)) (kt : Z lay ad E nL Fn tgt L st ma) (kf : Z lay ad E nL Fn (pc + 3) L st mb) : Z lay ad E nL Fn pc L (.int x :: st) (zeq x 0 mb ma) := fun S H locs ls hl hP hS r S' h => lv_if_ne hE.1.1 hE.1.2.1 hd ht (fun hc => kt S H locs ls hl hP hS r S' (by simpa [zeq, hc] using h)) (fun hc => kf S H locs ls hl hP hS r S' (by simpa [zeq, hc] using h))
theorem z_icmp_lt (hE : zok lay ad Xt E cc nL own d) {x y : Int32} {off : Int} (tgt : Nat) (ht : (pc : Int) + off = (tgt : Int)) (hd : decode cc pc = .ok (.if_icmp .lt off, 3)) (kt : Z lay ad E nL Fn tgt L st ma) (kf : Z lay ad E nL Fn (pc + 3) L st mb) : Z lay ad E nL Fn pc L (.int y :: .int x :: st) (zlt x y ma mb) := fun S H locs ls hl hP hS r S' h => lv_icmp_lt hE.1.1 hE.1.2.1 hd ht (fun hc => kt S H locs ls hl hP hS r S' (by simpa [zlt, hc] using h)) (fun hc => kf S H locs ls hl hP hS r S' (by simpa [zlt, hc] using h))
theorem z_if_lt (hE : zok lay ad Xt E cc nL own d) {x : Int32} {off : Int} (tgt : Nat) (ht : (pc : Int) + off = (tgt : Int)) (hd : decode cc pc = .ok (.ifCond .lt off, 3)) (kt : Z lay ad E nL Fn tgt L st ma) (kf : Z lay ad E nL Fn (pc + 3) L st mb) : Z lay ad E nL Fn pc L (.int x :: st) (zlt x 0 ma mb) := fun S H locs ls hl hP hS r S' h => lv_if_lt hE.1.1 hE.1.2.1 hd ht (fun hc => kt S H locs ls hl hP hS r S' (by simpa [zlt, hc] using h)) (fun hc => kf S H locs ls hl hP hS r S' (by simpa [zlt, hc] using h))
theorem z_icmp_ge (hE : zok lay ad Xt E cc nL own d) {x y : Int32} {off : Int} (tgt : Nat) (ht : (pc : Int) + off = (tgt : Int)) (hd : decode cc pc = .ok (.if_icmp .ge off, 3)) (kt : Z lay ad E nL Fn tgt L st ma) (kf : Z lay ad E nL Fn (pc + 3) L st mb) : Z lay ad E nL Fn pc L (.int y :: .int x :: st) (zle y x ma mb) := fun S H locs ls hl hP hS r S' h => lv_icmp_ge hE.1.1 hE.1.2.1 hd ht (fun hc => kt S H locs ls hl hP hS r S' (by simpa [zle, hc] using h)) (fun hc => kf S H locs ls hl hP hS r S' (by simpa [zle, hc] using h))
theorem z_if_ge (hE : zok lay ad Xt E cc nL own d) {x : Int32} {off : Int} (tgt : Nat) (ht : (pc : Int) + off = (tgt : Int)) (hd : decode cc pc = .ok (.ifCond .ge off, 3)) (kt : Z lay ad E nL Fn tgt L st ma) (kf : Z lay ad E nL Fn (pc + 3) L st mb) : Z lay ad E nL Fn pc L (.int x :: st) (zle 0 x ma mb) := fun S H locs ls hl hP hS r S' h => lv_if_ge hE.1.1 hE.1.2.1 hd ht (fun hc => kt S H locs ls hl hP hS r S' (by simpa [zle, hc] using h)) (fun hc => kf S H locs ls hl hP hS r S' (by simpa [zle, hc] using h))
theorem z_icmp_gt (hE : zok lay ad Xt E cc nL own d) {x y : Int32} {off : Int} (tgt : Nat) (ht : (pc : Int) + off = (tgt : Int)) (hd : decode cc pc = .ok (.if_icmp .gt off, 3)) (kt : Z lay ad E nL Fn tgt L st ma) (kf : Z lay ad E nL Fn (pc + 3) L st mb) : Z lay ad E nL Fn pc L (.int y :: .int x :: st) (zlt y x ma mb) := fun S H locs ls hl hP hS r S' h => lv_icmp_gt hE.1.1 hE.1.2.1 hd ht (fun hc => kt S H locs ls hl hP hS r S' (by simpa [zlt, hc] using h)) (fun hc => kf S H locs ls hl hP hS r S' (by simpa [zlt, hc] using h))
theorem z_if_gt (hE : zok lay ad Xt E cc nL own d) {x : Int32} {off : Int} (tgt : Nat) (ht : (pc : Int) + off = (tgt : Int)) (hd : decode cc pc = .ok (.ifCond .gt off, 3)) (kt : Z lay ad E nL Fn tgt L st ma) (kf : Z lay ad E nL Fn (pc + 3) L st mb) : Z lay ad E nL Fn pc L (.int x :: st) (zlt 0 x ma mb) := fun S H locs ls hl hP hS r S' h => lv_if_gt hE.1.1 hE.1.2.1 hd ht (fun hc => kt S H locs ls hl hP hS r S' (by simpa [zlt, hc] using h)) (fun hc => kf S H locs ls hl hP hS r S' (by simpa [zlt, hc] using h))
theorem z_icmp_le (hE : zok lay ad Xt E cc nL own d) {x y : Int32} {off : Int} (tgt : Nat) (ht : (pc : Int) + off = (tgt : Int)) (hd : decode cc pc = .ok (.if_icmp .le off, 3)) (kt : Z lay ad E nL Fn tgt L st ma) (kf : Z lay ad E nL Fn (pc + 3) L st mb) : Z lay ad E nL Fn pc L (.int y :: .int x :: st) (zle x y ma mb) := fun S H locs ls hl hP hS r S' h => lv_icmp_le hE.1.1 hE.1.2.1 hd ht (fun hc => kt S H locs ls hl hP hS r S' (by simpa [zle, hc] using h)) (fun hc => kf S H locs ls hl hP hS r S' (by simpa [zle, hc] using h))
theorem z_if_le (hE : zok lay ad Xt E cc nL own d) {x : Int32} {off : Int} (tgt : Nat) (ht : (pc : Int) + off = (tgt : Int)) (hd : decode cc pc = .ok (.ifCond .le off, 3)) (kt : Z lay ad E nL Fn tgt L st ma) (kf : Z lay ad E nL Fn (pc + 3) L st mb) : Z lay ad E nL Fn pc L (.int x :: st) (zle x 0 ma mb) := fun S H locs ls hl hP hS r S' h => lv_if_le hE.1.1 hE.1.2.1 hd ht (fun hc => kt S H locs ls hl hP hS r S' (by simpa [zle, hc] using h)) (fun hc => kf S H locs ls hl hP hS r S' (by simpa [zle, hc] using h))
theorem z_idiv (hE : zok lay ad Xt E cc nL own d) {x y : Int32} (hd : decode cc pc = .ok (.idiv, 1)) (k : Z lay ad E nL Fn (pc + 1) L (.int (x / y) :: st) mm) : Z lay ad E nL Fn pc L (.int y :: .int x :: st) (znz y mm) := fun S H locs ls hl hP hS r S' h => by
  by_cases hy : y = 0
  · simp [znz, hy] at h
  · exact lv_idiv hE.1.1 hE.1.2.1 hd hy (k S H locs ls hl hP hS r S' (by simpa [znz, hy] using h))
theorem z_irem (hE : zok lay ad Xt E cc nL own d) {x y : Int32} (hd : decode cc pc = .ok (.irem, 1)) (k : Z lay ad E nL Fn (pc + 1) L (.int (x - x / y * y) :: st) mm) : Z lay ad E nL Fn pc L (.int y :: .int x :: st) (znz y mm) := fun S H locs ls hl hP hS r S' h => by
  by_cases hy : y = 0
  · simp [znz, hy] at h
  · exact lv_irem hE.1.1 hE.1.2.1 hd hy (k S H locs ls hl hP hS r S' (by simpa [znz, hy] using h))
theorem z_ldiv (hE : zok lay ad Xt E cc nL own d) {x y : Int64} (hd : decode cc pc = .ok (.ldiv, 1)) (k : Z lay ad E nL Fn (pc + 1) L (.long (x / y) :: st) mm) : Z lay ad E nL Fn pc L (.long y :: .long x :: st) (znzl y mm) := fun S H locs ls hl hP hS r S' h => by
  by_cases hy : y = 0
  · simp [znzl, hy] at h
  · exact lv_ldiv hE.1.1 hE.1.2.1 hd hy (k S H locs ls hl hP hS r S' (by simpa [znzl, hy] using h))
theorem z_lrem (hE : zok lay ad Xt E cc nL own d) {x y : Int64} (hd : decode cc pc = .ok (.lrem, 1)) (k : Z lay ad E nL Fn (pc + 1) L (.long (x - x / y * y) :: st) mm) : Z lay ad E nL Fn pc L (.long y :: .long x :: st) (znzl y mm) := fun S H locs ls hl hP hS r S' h => by
  by_cases hy : y = 0
  · simp [znzl, hy] at h
  · exact lv_lrem hE.1.1 hE.1.2.1 hd hy (k S H locs ls hl hP hS r S' (by simpa [znzl, hy] using h))
/-- the pure program asks, the machine stands still -/
theorem z_case (x y : Int32) (ka : x = y → Z lay ad E nL Fn pc L st ma) (kb : x ≠ y → Z lay ad E nL Fn pc L st mb) : Z lay ad E nL Fn pc L st (zeq x y ma mb) := fun S H locs ls hl hP hS r S' h => by
  by_cases hc : x = y
  · exact ka hc S H locs ls hl hP hS r S' (by simpa [zeq, hc] using h)
  · exact kb hc S H locs ls hl hP hS r S' (by simpa [zeq, hc] using h)
theorem z_tableIn (hE : zok lay ad Xt E cc nL own d) {dflt lo hi : Int} {offs : Array Int} {len : Nat} {x : Int32} (off : Int) (tgt : Nat) (hd : decode cc pc = .ok (.tableswitch dflt lo hi offs, len)) (h1 : ¬ x.toInt < lo) (h2 : ¬ hi < x.toInt) (ho : offs[(x.toInt - lo).toNat]? = some off) (ht : (pc : Int) + off = (tgt : Int)) (k : Z lay ad E nL Fn tgt L st mm) : Z lay ad E nL Fn pc L (.int x :: st) mm := fun S H locs ls hl hP hS r S' h => lv_tableIn hE.1.1 hE.1.2.1 hd h1 h2 ho ht (k S H locs ls hl hP hS r S' h)
theorem z_tableOut (hE : zok lay ad Xt E cc nL own d) {dflt lo hi : Int} {offs : Array Int} {len : Nat} {x : Int32} (tgt : Nat) (hd : decode cc pc = .ok (.tableswitch dflt lo hi offs, len)) (h1 : x.toInt < lo ∨ hi < x.toInt) (ht : (pc : Int) + dflt = (tgt : Int)) (k : Z lay ad E nL Fn tgt L st mm) : Z lay ad E nL Fn pc L (.int x :: st) mm := fun S H locs ls hl hP hS r S' h => lv_tableOut hE.1.1 hE.1.2.1 hd h1 ht (k S H locs ls hl hP hS r S' h)
theorem z_lookup (hE : zok lay ad Xt E cc nL own d) {dflt : Int} {ps : Array (Int × Int)} {len : Nat} {x : Int32} (off : Int) (tgt : Nat) (hd : decode cc pc = .ok (.lookupswitch dflt ps, len)) (hp : (ps.toList.zip (ps.toList.drop 1)).all (fun (a, next) => a.1 < next.1) = true) (ho : Op.lookupswitch.offset ps.toList dflt x.toInt = off) (ht : (pc : Int) + off = (tgt : Int)) (k : Z lay ad E nL Fn tgt L st mm) : Z lay ad E nL Fn pc L (.int x :: st) mm := fun S H locs ls hl hP hS r S' h => lv_lookup hE.1.1 hE.1.2.1 hd hp ho ht (k S H locs ls hl hP hS r S' h)
/-! fields -/
def zF (own : String) (idx ci j : Nat) (ty : FieldType) (fin : Bool) : Prop := ∃ (C : String) (T : u_T) (N : Nat) (ty0 : Nat → FieldType), vwCl[ci]? = some (C, T, N) ∧ (∀ w ∈ u_ws C T N, w ∈ zTB) ∧ j < N ∧ Cond.fieldLink own idx (T j).1 (T j).2.1 (T j).2.2.1 ∈ zTB ∧ (∀ k, k < N → parseFieldDescriptor (T k).2.2.1 = some (ty0 k)) ∧ (∀ a, a < N → ∀ b, b < N → a ≠ b → (T a).2.1 ≠ (T b).2.1) ∧ parseFieldDescriptor (T j).2.2.1 = some ty ∧ (T j).2.2.2 = fin
theorem z_getr (hE : zok lay ad Xt E cc nL own d) {idx ci j i k0 : Nat} {ty : FieldType} {fin : Bool} {sl : List (Nat ⊕ Bool)} (hF : zF own idx ci j ty fin) (hk : lay[i]? = some (.inl (ci, sl))) (hj : sl[j]? = some (.inl k0)) (hd : decode cc pc = .ok (.getfield idx, 3)) (k : Z lay ad E nL Fn (pc + 3) L (.ref (ad k0) :: st) mm) : Z lay ad E nL Fn pc L (.ref (ad i) :: st) mm := fun S H locs ls hl hP hS r S' h => by
  obtain ⟨C, T, N, ty0, h1, h2, h3, h4, -⟩ := hF
  exact va_get (fs := zfl ad S i 0 sl) (v := .ref (ad k0)) hE.1.1 hE.1.2.1 hE.1.2.2.2.2 h2 hE.1.2.2.2.1 hE.2.2.1 hP i (zW_at hk) h1 j h3 (hE.1.2.2.2.2 _ h4) (fun _ h => h) (by rw [zfl_get, hj]; simp [zv]) hd (k S H locs ls hl hP hS r S' h)
theorem z_geti (hE : zok lay ad Xt E cc nL own d) {idx ci j i : Nat} {ty : FieldType} {fin : Bool} {sl : List (Nat ⊕ Bool)} {mk : Int32 → zM ρ} (hF : zF own idx ci j ty fin) (hk : lay[i]? = some (.inl (ci, sl))) (hj : sl[j]? = some (.inr false)) (hd : decode cc pc = .ok (.getfield idx, 3)) (k : ∀ x, Z lay ad E nL Fn (pc + 3) L (.int x :: st) (mk x)) : Z lay ad E nL Fn pc L (.ref (ad i) :: st) (zgi i j mk) := fun S H locs ls hl hP hS r S' h => by
  obtain ⟨C, T, N, ty0, h1, h2, h3, h4, -⟩ := hF
  exact va_get (fs := zfl ad S i 0 sl) (v := .int (S.1 i j)) hE.1.1 hE.1.2.1 hE.1.2.2.2.2 h2 hE.1.2.2.2.1 hE.2.2.1 hP i (zW_at hk) h1 j h3 (hE.1.2.2.2.2 _ h4) (fun _ h => h) (by rw [zfl_get, hj]; simp [zv]) hd (k _ S H locs ls hl hP hS r S' h)
theorem z_getl (hE : zok lay ad Xt E cc nL own d) {idx ci j i : Nat} {ty : FieldType} {fin : Bool} {sl : List (Nat ⊕ Bool)} {mk : Int64 → zM ρ} (hF : zF own idx ci j ty fin) (hk : lay[i]? = some (.inl (ci, sl))) (hj : sl[j]? = some (.inr true)) (hd : decode cc pc = .ok (.getfield idx, 3)) (k : ∀ x, Z lay ad E nL Fn (pc + 3) L (.long x :: st) (mk x)) : Z lay ad E nL Fn pc L (.ref (ad i) :: st) (zgl i j mk) := fun S H locs ls hl hP hS r S' h => by
  obtain ⟨C, T, N, ty0, h1, h2, h3, h4, -⟩ := hF
  exact va_get (fs := zfl ad S i 0 sl) (v := .long (S.2 i j)) hE.1.1 hE.1.2.1 hE.1.2.2.2.2 h2 hE.1.2.2.2.1 hE.2.2.1 hP i (zW_at hk) h1 j h3 (hE.1.2.2.2.2 _ h4) (fun _ h => h) (by rw [zfl_get, hj]; simp [zv]) hd (k _ S H locs ls hl hP hS r S' h)
theorem zfl_set {S : zS} {i j : Nat} {sl : List (Nat ⊕ Bool)} (hj : sl[j]? = some (.inr false)) (x : Int32) : (zfl ad S i 0 sl).set j (.int x) = zfl ad (zpi S i j x) i 0 sl := by
  have hl : j < (zfl ad S i 0 sl).length := by rw [zfl_len]; exact (List.getElem?_eq_some_iff.mp hj).1
  apply List.ext_getElem?
  intro n
  by_cases hn : n = j
  · subst hn
    rw [List.getElem?_set_self hl, zfl_get, hj]
    simp [zv, zpi, zpr, upd]
  · rw [List.getElem?_set_ne (fun h => hn h.symm), zfl_get, zfl_get]
    cases sl[n]? with
    | none => rfl
    | some y =>
      rcases y with k | b
      · simp [zv]
      · cases b <;> simp [zv, zpi, zpr, upd, hn]
theorem zfl_setl {S : zS} {i j : Nat} {sl : List (Nat ⊕ Bool)} (hj : sl[j]? = some (.inr true)) (x : Int64) : (zfl ad S i 0 sl).set j (.long x) = zfl ad (zpl S i j x) i 0 sl := by
  have hl : j < (zfl ad S i 0 sl).length := by rw [zfl_len]; exact (List.getElem?_eq_some_iff.mp hj).1
  apply List.ext_getElem?
  intro n
  by_cases hn : n = j
  · subst hn
    rw [List.getElem?_set_self hl, zfl_get, hj]
    simp [zv, zpl, zpq, vp_updL]
  · rw [List.getElem?_set_ne (fun h => hn h.symm), zfl_get, zfl_get]
    cases sl[n]? with
    | none => rfl
    | some y =>
      rcases y with k | b
      · simp [zv]
      · cases b <;> simp [zv, zpl, zpq, vp_updL, hn]
theorem zpr_off {S : zS} {i : Nat} {f : Nat → Int32} : (∀ a, a ≠ i → S.1 a = (zpr S i f).1 a) ∧ (∀ a, a ≠ i → S.2 a = (zpr S i f).2 a) := ⟨fun a h => by simp [zpr, h], fun _ _ => rfl⟩
theorem zpq_off {S : zS} {i : Nat} {f : Nat → Int64} : (∀ a, a ≠ i → S.1 a = (zpq S i f).1 a) ∧ (∀ a, a ≠ i → S.2 a = (zpq S i f).2 a) := ⟨fun _ _ => rfl, fun a h => by simp [zpq, h]⟩
theorem zWset_f {ca : FieldType → ClassId} {S : zS} {i ci j : Nat} {sl : List (Nat ⊕ Bool)} (hk : lay[i]? = some (.inl (ci, sl))) (hj : sl[j]? = some (.inr false)) (x : Int32) : (zW lay ad ca S).set i (ad i, .inr (ci, (zfl ad S i 0 sl).set j (.int x))) = zW lay ad ca (zpi S i j x) := by
  rw [zfl_set hj]; exact zW_set (S := S) (S' := zpi S i j x) hk zpr_off.1 zpr_off.2
theorem zWset_g {ca : FieldType → ClassId} {S : zS} {i ci j : Nat} {sl : List (Nat ⊕ Bool)} (hk : lay[i]? = some (.inl (ci, sl))) (hj : sl[j]? = some (.inr true)) (x : Int64) : (zW lay ad ca S).set i (ad i, .inr (ci, (zfl ad S i 0 sl).set j (.long x))) = zW lay ad ca (zpl S i j x) := by
  rw [zfl_setl hj]; exact zW_set (S := S) (S' := zpl S i j x) hk zpq_off.1 zpq_off.2
theorem z_putv (hE : zok lay ad Xt E cc nL own d) {idx ci j i : Nat} {ty : FieldType} {sl : List (Nat ⊕ Bool)} {x : Int32} (hF : zF own idx ci j ty false) (hk : lay[i]? = some (.inl (ci, sl))) (hj : sl[j]? = some (.inr false)) (hn : narrow ty (.int x) = .int x) (hfit : fits ty (.int x) = true) (hd : decode cc pc = .ok (.putfield idx, 3)) (k : Z lay ad E nL Fn (pc + 3) L st mm) : Z lay ad E nL Fn pc L (.int x :: .ref (ad i) :: st) (zsi i j x mm) := fun S H locs ls hl hP hS r S' h => by
  obtain ⟨C, T, N, ty0, h1, h2, h3, h4, h5, h6, h7, h8⟩ := hF
  refine va_put (fs := zfl ad S i 0 sl) (ty := ty) hE.1.1 hE.1.2.1 hE.1.2.2.2.2 h2 ty0 h5 h6 hE.1.2.2.2.1 hE.2.2.1 hP (hE.2.2.2.1 S) hS i (zW_at hk) h1 j h3 (hE.1.2.2.2.2 _ h4) (fun _ h => h) h8 h7 hn hfit (by rw [zfl_len]; exact (List.getElem?_eq_some_iff.mp hj).1) hd (fun H1 locs1 hP1 _ hS1 => ?_)
  rw [zWset_f hk hj] at hP1
  exact k _ H1 locs1 ls hl hP1 hS1 r S' h
theorem z_puti (hE : zok lay ad Xt E cc nL own d) {idx ci j i : Nat} {sl : List (Nat ⊕ Bool)} {x : Int32} (hF : zF own idx ci j .int false) (hk : lay[i]? = some (.inl (ci, sl))) (hj : sl[j]? = some (.inr false)) (hd : decode cc pc = .ok (.putfield idx, 3)) (k : Z lay ad E nL Fn (pc + 3) L st mm) : Z lay ad E nL Fn pc L (.int x :: .ref (ad i) :: st) (zsi i j x mm) := z_putv hE hF hk hj (vp_nar_int x) rfl hd k
theorem zbool {x : Int32} (h : x = 0 ∨ x = 1) : narrow .boolean (.int x) = .int x ∧ fits .boolean (.int x) = true := by
  rcases h with rfl | rfl <;> exact ⟨by decide, by decide⟩
theorem z_putz (hE : zok lay ad Xt E cc nL own d) {idx ci j i : Nat} {sl : List (Nat ⊕ Bool)} {x : Int32} (hF : zF own idx ci j .boolean false) (hk : lay[i]? = some (.inl (ci, sl))) (hj : sl[j]? = some (.inr false)) (hd : decode cc pc = .ok (.putfield idx, 3)) (k : Z lay ad E nL Fn (pc + 3) L st mm) : Z lay ad E nL Fn pc L (.int x :: .ref (ad i) :: st) (zsz i j x mm) := fun S H locs ls hl hP hS r S' h => by
  by_cases hx : x = 0 ∨ x = 1
  · exact z_putv hE hF hk hj (zbool hx).1 (zbool hx).2 hd k S H locs ls hl hP hS r S' (by simpa [zsz, zsi, hx] using h)
  · simp [zsz, hx] at h
theorem z_putl (hE : zok lay ad Xt E cc nL own d) {idx ci j i : Nat} {sl : List (Nat ⊕ Bool)} {x : Int64} (hF : zF own idx ci j .long false) (hk : lay[i]? = some (.inl (ci, sl))) (hj : sl[j]? = some (.inr true)) (hd : decode cc pc = .ok (.putfield idx, 3)) (k : Z lay ad E nL Fn (pc + 3) L st mm) : Z lay ad E nL Fn pc L (.long x :: .ref (ad i) :: st) (zsl i j x mm) := fun S H locs ls hl hP hS r S' h => by
  obtain ⟨C, T, N, ty0, h1, h2, h3, h4, h5, h6, h7, h8⟩ := hF
  refine va_put (fs := zfl ad S i 0 sl) (ty := .long) hE.1.1 hE.1.2.1 hE.1.2.2.2.2 h2 ty0 h5 h6 hE.1.2.2.2.1 hE.2.2.1 hP (hE.2.2.2.1 S) hS i (zW_at hk) h1 j h3 (hE.1.2.2.2.2 _ h4) (fun _ h => h) h8 h7 rfl rfl (by rw [zfl_len]; exact (List.getElem?_eq_some_iff.mp hj).1) hd (fun H1 locs1 hP1 _ hS1 => ?_)
  rw [zWset_g hk hj] at hP1
  exact k _ H1 locs1 ls hl hP1 hS1 r S' h
theorem z_iald (hE : zok lay ad Xt E cc nL own d) {i n : Nat} {x : Int32} {mk : Int32 → zM ρ} (hk : lay[i]? = some (.inr (.int, n))) (hd : decode cc pc = .ok (.iaload, 1)) (k : ∀ v, Z lay ad E nL Fn (pc + 1) L (.int v :: st) (mk v)) : Z lay ad E nL Fn pc L (.int x :: .ref (ad i) :: st) (zal i n x mk) := fun S H locs ls hl hP hS r S' h => by
  by_cases hx : x < 0 ∨ n ≤ x.toNatClampNeg
  · simp [zal, hx] at h
  · exact va_iald (f := S.1 i) hE.1.1 hE.1.2.1 hE.2.2.1 hP i 0 (zW_at hk) rfl (zvin hx) hd (k _ S H locs ls hl hP hS r S' (by simpa [zal, hx] using h))
theorem z_cald (hE : zok lay ad Xt E cc nL own d) {i n : Nat} {x : Int32} {mk : Int32 → zM ρ} (hk : lay[i]? = some (.inr (.char, n))) (hd : decode cc pc = .ok (.caload, 1)) (k : ∀ v, Z lay ad E nL Fn (pc + 1) L (.int v :: st) (mk v)) : Z lay ad E nL Fn pc L (.int x :: .ref (ad i) :: st) (zal i n x mk) := fun S H locs ls hl hP hS r S' h => by
  by_cases hx : x < 0 ∨ n ≤ x.toNatClampNeg
  · simp [zal, hx] at h
  · exact va_cald (f := S.1 i) hE.1.1 hE.1.2.1 hE.2.2.1 hP i 1 (zW_at hk) rfl (zvin hx) hd (k _ S H locs ls hl hP hS r S' (by simpa [zal, hx] using h))
theorem z_zald (hE : zok lay ad Xt E cc nL own d) {i n : Nat} {x : Int32} {mk : Int32 → zM ρ} (hk : lay[i]? = some (.inr (.boolean, n))) (hd : decode cc pc = .ok (.baload, 1)) (k : ∀ v, Z lay ad E nL Fn (pc + 1) L (.int v :: st) (mk v)) : Z lay ad E nL Fn pc L (.int x :: .ref (ad i) :: st) (zal i n x mk) := fun S H locs ls hl hP hS r S' h => by
  by_cases hx : x < 0 ∨ n ≤ x.toNatClampNeg
  · simp [zal, hx] at h
  · exact va_zald (f := S.1 i) hE.1.1 hE.1.2.1 hE.2.2.1 hP i 2 (zW_at hk) rfl (zvin hx) hd (k _ S H locs ls hl hP hS r S' (by simpa [zal, hx] using h))
theorem z_lald (hE : zok lay ad Xt E cc nL own d) {i n : Nat} {x : Int32} {mk : Int64 → zM ρ} (hk : lay[i]? = some (.inr (.long, n))) (hd : decode cc pc = .ok (.laload, 1)) (k : ∀ v, Z lay ad E nL Fn (pc + 1) L (.long v :: st) (mk v)) : Z lay ad E nL Fn pc L (.int x :: .ref (ad i) :: st) (zall i n x mk) := fun S H locs ls hl hP hS r S' h => by
  by_cases hx : x < 0 ∨ n ≤ x.toNatClampNeg
  · simp [zall, hx] at h
  · exact va_lald (f := S.2 i) hE.1.1 hE.1.2.1 hE.2.2.1 hP i 3 (zW_at hk) rfl (zvin hx) hd (k _ S H locs ls hl hP hS r S' (by simpa [zall, hx] using h))
theorem z_iast (hE : zok lay ad Xt E cc nL own d) {i n : Nat} {x v : Int32} (hk : lay[i]? = some (.inr (.int, n))) (hd : decode cc pc = .ok (.iastore, 1)) (k : Z lay ad E nL Fn (pc + 1) L st mm) : Z lay ad E nL Fn pc L (.int v :: .int x :: .ref (ad i) :: st) (zas i n x v mm) := fun S H locs ls hl hP hS r S' h => by
  by_cases hx : x < 0 ∨ n ≤ x.toNatClampNeg
  · simp [zas, hx] at h
  · refine va_iast (f := S.1 i) hE.1.1 hE.1.2.1 hE.2.2.1 hP (hE.2.2.2.1 S) hS i 0 (zW_at hk) rfl (zvin hx) hd (fun H1 locs1 hP1 _ hS1 => ?_)
    have e : (zW lay ad E.2.2.1 S).set i (ad i, .inl (E.2.2.1 .int, n, .inl (upd (S.1 i) x.toNatClampNeg v))) = zW lay ad E.2.2.1 (zpi S i x.toNatClampNeg v) := by
      have e1 := zW_set (ad := ad) (ca := E.2.2.1) (S := S) (S' := zpi S i x.toNatClampNeg v) hk zpr_off.1 zpr_off.2
      have e2 : (zpi S i x.toNatClampNeg v).1 i = upd (S.1 i) x.toNatClampNeg v := by simp [zpi, zpr]
      simp only [zct, e2] at e1
      exact e1
    rw [e] at hP1
    exact k _ H1 locs1 ls hl hP1 hS1 r S' (by simpa [zas, hx] using h)
theorem z_cast (hE : zok lay ad Xt E cc nL own d) {i n : Nat} {x v : Int32} (hk : lay[i]? = some (.inr (.char, n))) (hd : decode cc pc = .ok (.castore, 1)) (k : Z lay ad E nL Fn (pc + 1) L st mm) : Z lay ad E nL Fn pc L (.int v :: .int x :: .ref (ad i) :: st) (zas i n x (vp_nar .char v) mm) := fun S H locs ls hl hP hS r S' h => by
  by_cases hx : x < 0 ∨ n ≤ x.toNatClampNeg
  · simp [zas, hx] at h
  · refine va_cast (f := S.1 i) hE.1.1 hE.1.2.1 hE.2.2.1 hP (hE.2.2.2.1 S) hS i 1 (zW_at hk) rfl (zvin hx) hd (fun H1 locs1 hP1 _ hS1 => ?_)
    have e : (zW lay ad E.2.2.1 S).set i (ad i, .inl (E.2.2.1 .char, n, .inl (upd (S.1 i) x.toNatClampNeg (vp_nar .char v)))) = zW lay ad E.2.2.1 (zpi S i x.toNatClampNeg (vp_nar .char v)) := by
      have e1 := zW_set (ad := ad) (ca := E.2.2.1) (S := S) (S' := zpi S i x.toNatClampNeg (vp_nar .char v)) hk zpr_off.1 zpr_off.2
      have e2 : (zpi S i x.toNatClampNeg (vp_nar .char v)).1 i = upd (S.1 i) x.toNatClampNeg (vp_nar .char v) := by simp [zpi, zpr]
      simp only [zct, e2] at e1
      exact e1
    rw [e] at hP1
    exact k _ H1 locs1 ls hl hP1 hS1 r S' (by simpa [zas, hx] using h)
theorem z_zast (hE : zok lay ad Xt E cc nL own d) {i n : Nat} {x v : Int32} (hk : lay[i]? = some (.inr (.boolean, n))) (hd : decode cc pc = .ok (.bastore, 1)) (k : Z lay ad E nL Fn (pc + 1) L st mm) : Z lay ad E nL Fn pc L (.int v :: .int x :: .ref (ad i) :: st) (zas i n x (vp_nar .boolean v) mm) := fun S H locs ls hl hP hS r S' h => by
  by_cases hx : x < 0 ∨ n ≤ x.toNatClampNeg
  · simp [zas, hx] at h
  · refine va_zast (f := S.1 i) hE.1.1 hE.1.2.1 hE.2.2.1 hP (hE.2.2.2.1 S) hS i 2 (zW_at hk) rfl (zvin hx) hd (fun H1 locs1 hP1 _ hS1 => ?_)
    have e : (zW lay ad E.2.2.1 S).set i (ad i, .inl (E.2.2.1 .boolean, n, .inl (upd (S.1 i) x.toNatClampNeg (vp_nar .boolean v)))) = zW lay ad E.2.2.1 (zpi S i x.toNatClampNeg (vp_nar .boolean v)) := by
      have e1 := zW_set (ad := ad) (ca := E.2.2.1) (S := S) (S' := zpi S i x.toNatClampNeg (vp_nar .boolean v)) hk zpr_off.1 zpr_off.2
      have e2 : (zpi S i x.toNatClampNeg (vp_nar .boolean v)).1 i = upd (S.1 i) x.toNatClampNeg (vp_nar .boolean v) := by simp [zpi, zpr]
      simp only [zct, e2] at e1
      exact e1
    rw [e] at hP1
    exact k _ H1 locs1 ls hl hP1 hS1 r S' (by simpa [zas, hx] using h)
theorem z_last (hE : zok lay ad Xt E cc nL own d) {i n : Nat} {x : Int32} {v : Int64} (hk : lay[i]? = some (.inr (.long, n))) (hd : decode cc pc = .ok (.lastore, 1)) (k : Z lay ad E nL Fn (pc + 1) L st mm) : Z lay ad E nL Fn pc L (.long v :: .int x :: .ref (ad i) :: st) (zasl i n x v mm) := fun S H locs ls hl hP hS r S' h => by
  by_cases hx : x < 0 ∨ n ≤ x.toNatClampNeg
  · simp [zasl, hx] at h
  · refine va_last (f := S.2 i) hE.1.1 hE.1.2.1 hE.2.2.1 hP (hE.2.2.2.1 S) hS i 3 (zW_at hk) rfl (zvin hx) hd (fun H1 locs1 hP1 _ hS1 => ?_)
    have e : (zW lay ad E.2.2.1 S).set i (ad i, .inl (E.2.2.1 .long, n, .inr (.inl (vp_updL (S.2 i) x.toNatClampNeg v)))) = zW lay ad E.2.2.1 (zpl S i x.toNatClampNeg v) := by
      have e1 := zW_set (ad := ad) (ca := E.2.2.1) (S := S) (S' := zpl S i x.toNatClampNeg v) hk zpq_off.1 zpq_off.2
      have e2 : (zpl S i x.toNatClampNeg v).2 i = vp_updL (S.2 i) x.toNatClampNeg v := by simp [zpl, zpq]
      simp only [zct, e2] at e1
      exact e1
    rw [e] at hP1
    exact k _ H1 locs1 ls hl hP1 hS1 r S' (by simpa [zasl, hx] using h)
theorem z_aleni (hE : zok lay ad Xt E cc nL own d) {i n : Nat} {v : Int32} (hk : lay[i]? = some (.inr (.int, n))) (hv : Int32.ofNat n = v) (hd : decode cc pc = .ok (.arraylength, 1)) (k : Z lay ad E nL Fn (pc + 1) L (.int v :: st) mm) : Z lay ad E nL Fn pc L (.ref (ad i) :: st) mm := fun S H locs ls hl hP hS r S' h => va_alen (x := (n, .inl (S.1 i))) hE.1.1 hE.1.2.1 hE.2.2.1 hP i 0 (zW_at hk) rfl hv hd (k S H locs ls hl hP hS r S' h)
theorem z_alenz (hE : zok lay ad Xt E cc nL own d) {i n : Nat} {v : Int32} (hk : lay[i]? = some (.inr (.boolean, n))) (hv : Int32.ofNat n = v) (hd : decode cc pc = .ok (.arraylength, 1)) (k : Z lay ad E nL Fn (pc + 1) L (.int v :: st) mm) : Z lay ad E nL Fn pc L (.ref (ad i) :: st) mm := fun S H locs ls hl hP hS r S' h => va_alen (x := (n, .inl (S.1 i))) hE.1.1 hE.1.2.1 hE.2.2.1 hP i 2 (zW_at hk) rfl hv hd (k S H locs ls hl hP hS r S' h)
theorem z_alenl (hE : zok lay ad Xt E cc nL own d) {i n : Nat} {v : Int32} (hk : lay[i]? = some (.inr (.long, n))) (hv : Int32.ofNat n = v) (hd : decode cc pc = .ok (.arraylength, 1)) (k : Z lay ad E nL Fn (pc + 1) L (.int v :: st) mm) : Z lay ad E nL Fn pc L (.ref (ad i) :: st) mm := fun S H locs ls hl hP hS r S' h => va_alen (x := (n, .inr (.inl (S.2 i)))) hE.1.1 hE.1.2.1 hE.2.2.1 hP i 3 (zW_at hk) rfl hv hd (k S H locs ls hl hP hS r S' h)
/-! ends -/
theorem z_ireturn {v : Int32} (hE : zok lay ad Xt E cc nL own d) (hr : E.2.1.2.2.2.1.sig.returnType = some .int) (hd : decode cc pc = .ok (.ireturn, 1)) : Z lay ad E nL (zFin lay ad E zvi) pc L [.int v] (zret v) := fun S H locs ls hl hP hS r S' h => by
  simp only [zret, Option.some.injEq, Prod.mk.injEq] at h
  obtain ⟨rfl, rfl⟩ := h
  exact W.iret hE.1.1 hE.1.2.1 hr (fun t ht hW => ⟨rfl, by rw [ht]; exact hP, hS.F ht⟩) hS.2.2 hd hE.2.1
theorem z_zreturn {v : Int32} (hE : zok lay ad Xt E cc nL own d) (hr : E.2.1.2.2.2.1.sig.returnType = some .boolean) (hd : decode cc pc = .ok (.ireturn, 1)) : Z lay ad E nL (zFin lay ad E zvi) pc L [.int v] (zretz v) := fun S H locs ls hl hP hS r S' h => by
  by_cases hv : v = 0 ∨ v = 1
  · simp only [zretz, if_pos hv, Option.some.injEq, Prod.mk.injEq] at h
    obtain ⟨rfl, rfl⟩ := h
    exact W.zret hE.1.1 hE.1.2.1 hr (zbool hv).1 (fun t ht hW => ⟨rfl, by rw [ht]; exact hP, hS.F ht⟩) hS.2.2 hd hE.2.1
  · simp [zretz, hv] at h
theorem z_lreturn {v : Int64} (hE : zok lay ad Xt E cc nL own d) (hr : E.2.1.2.2.2.1.sig.returnType = some .long) (hd : decode cc pc = .ok (.lreturn, 1)) : Z lay ad E nL (zFin lay ad E zvl) pc L [.long v] (zret v) := fun S H locs ls hl hP hS r S' h => by
  simp only [zret, Option.some.injEq, Prod.mk.injEq] at h
  obtain ⟨rfl, rfl⟩ := h
  exact W.lret hE.1.1 hE.1.2.1 hr (fun t ht hW => ⟨rfl, by rw [ht]; exact hP, hS.F ht⟩) hS.2.2 hd hE.2.1
theorem z_return (hE : zok lay ad Xt E cc nL own d) (hr : E.2.1.2.2.2.1.sig.returnType = none) (hd : decode cc pc = .ok (.return_, 1)) : Z lay ad E nL (zFin lay ad E zvn) pc L [] (zret ()) := fun S H locs ls hl hP hS r S' h => by
  simp only [zret, Option.some.injEq, Prod.mk.injEq] at h
  obtain ⟨-, rfl⟩ := h
  exact W.vret hE.1.1 hE.1.2.1 hr (fun t ht hW => ⟨rfl, by rw [ht]; exact hP, hS.F ht⟩) hS.2.2 hd hE.2.1
end ZR
