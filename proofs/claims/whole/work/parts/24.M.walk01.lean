set_option maxRecDepth 100000 in
set_option maxHeartbeats 4000000 in
theorem c_X12_thrown {l : Launch} {ad : Nat → Nat} {ca : FieldType → ClassId} {D : va_G} {sa sv : Nat → Nat}  : zC l yX12_thrown cX12_thrown 1 (some .int) 0 layM ad ca D (xtM ad sa sv) [.ref (ad 0)] zvi (p_X12_thrown) := by
  refine z_enter (by decide) (Nat.le_of_ble_eq_true rfl) (fun E hE hl0 hcD hr => ?_)
  have hE : zok layM ad (xtM ad sa sv) E cX12_thrown 1 RX12 0 := hE
  show Z layM ad E 1 (zFin layM ad E zvi) 0 [(0, .ref (ad 0))] [] (p_X12_thrown)
  unfold p_X12_thrown
  refine z_aload_n (pc := 0) hE 0 0 rfl rfl dX12_thrown_0 ?_
  refine z_geti (pc := 1) hE fk_RX12_117 lM_0 rfl dX12_thrown_1 (fun x1 => ?_)
  exact z_ireturn (pc := 4) hE hr dX12_thrown_4
set_option maxRecDepth 100000 in
set_option maxHeartbeats 4000000 in
theorem c_X12_refuse {l : Launch} {ad : Nat → Nat} {ca : FieldType → ClassId} {D : va_G} {sa sv : Nat → Nat}  : zC l yX12_refuse cX12_refuse 1 (some .int) 0 layM ad ca D (xtM ad sa sv) [.ref (ad 0)] zvi (p_X12_refuse) := by
  refine z_enter (by decide) (Nat.le_of_ble_eq_true rfl) (fun E hE hl0 hcD hr => ?_)
  have hE : zok layM ad (xtM ad sa sv) E cX12_refuse 1 RX12 0 := hE
  show Z layM ad E 1 (zFin layM ad E zvi) 0 [(0, .ref (ad 0))] [] (p_X12_refuse)
  unfold p_X12_refuse
  refine z_aload_n (pc := 0) hE 0 0 rfl rfl dX12_refuse_0 ?_
  refine z_iconst (pc := 1) hE dX12_refuse_1 qM_iconst_1 ?_
  refine z_puti (pc := 2) hE fk_RX12_117 lM_0 rfl dX12_refuse_2 ?_
  refine z_iconst (pc := 5) hE dX12_refuse_5 qM_iconst_0 ?_
  exact z_ireturn (pc := 6) hE hr dX12_refuse_6
set_option maxRecDepth 100000 in
set_option maxHeartbeats 4000000 in
theorem c_X12_in {l : Launch} {ad : Nat → Nat} {ca : FieldType → ClassId} {D : va_G} {sa sv : Nat → Nat} (a1 : Int64) (a2 : Int64) (a3 : Int64) : zC l yX12_in cX12_in 6 (some .boolean) 0 layM ad ca D (xtM ad sa sv) [.long a1, .long a2, .long a3] zvi (p_X12_in a1 a2 a3) := by
  refine z_enter (by decide) (Nat.le_of_ble_eq_true rfl) (fun E hE hl0 hcD hr => ?_)
  have hE : zok layM ad (xtM ad sa sv) E cX12_in 6 RX12 0 := hE
  show Z layM ad E 6 (zFin layM ad E zvi) 0 [(0, .long a1), (2, .long a2), (4, .long a3)] [] (p_X12_in a1 a2 a3)
  unfold p_X12_in
  refine z_lload_n (pc := 0) hE 0 0 rfl rfl dX12_in_0 ?_
  refine z_lload_n (pc := 1) hE 1 2 rfl rfl dX12_in_1 ?_
  refine z_lcmp (pc := 2) hE dX12_in_2 ?_
  refine z_if_lt (pc := 3) hE 17 rfl dX12_in_3 ?_ ?_
  · refine z_iconst (pc := 17) hE dX12_in_17 qM_iconst_0 ?_
    exact z_zreturn (pc := 18) hE hr dX12_in_18
  · refine z_lload_n (pc := 6) hE 0 0 rfl rfl dX12_in_6 ?_
    refine z_lload (pc := 7) hE 2 rfl dX12_in_7 ?_
    refine z_lcmp (pc := 9) hE dX12_in_9 ?_
    refine z_if_gt (pc := 10) hE 17 rfl dX12_in_10 ?_ ?_
    · refine z_iconst (pc := 17) hE dX12_in_17 qM_iconst_0 ?_
      exact z_zreturn (pc := 18) hE hr dX12_in_18
    · refine z_iconst (pc := 13) hE dX12_in_13 qM_iconst_1 ?_
      refine z_goto (pc := 14) hE 18 rfl dX12_in_14 ?_
      exact z_zreturn (pc := 18) hE hr dX12_in_18
set_option maxRecDepth 100000 in
set_option maxHeartbeats 4000000 in
theorem c_X12_has {l : Launch} {ad : Nat → Nat} {ca : FieldType → ClassId} {D : va_G} {sa sv : Nat → Nat} (a1 : Int32) (a2 : Int32) : zC l yX12_has cX12_has 2 (some .boolean) 0 layM ad ca D (xtM ad sa sv) [.int a1, .int a2] zvi (p_X12_has a1 a2) := by
  refine z_enter (by decide) (Nat.le_of_ble_eq_true rfl) (fun E hE hl0 hcD hr => ?_)
  have hE : zok layM ad (xtM ad sa sv) E cX12_has 2 RX12 0 := hE
  show Z layM ad E 2 (zFin layM ad E zvi) 0 [(0, .int a1), (1, .int a2)] [] (p_X12_has a1 a2)
  unfold p_X12_has
  refine z_iload_n (pc := 0) hE 0 0 rfl rfl dX12_has_0 ?_
  refine z_iload_n (pc := 1) hE 1 1 rfl rfl dX12_has_1 ?_
  refine z_ishr (pc := 2) hE dX12_has_2 ?_
  refine z_iconst (pc := 3) hE dX12_has_3 qM_iconst_1 ?_
  refine z_iand (pc := 4) hE dX12_has_4 ?_
  refine z_iconst (pc := 5) hE dX12_has_5 qM_iconst_1 ?_
  refine z_icmp_ne (pc := 6) hE 13 rfl dX12_has_6 ?_ ?_
  · refine z_iconst (pc := 13) hE dX12_has_13 qM_iconst_0 ?_
    exact z_zreturn (pc := 14) hE hr dX12_has_14
  · refine z_iconst (pc := 9) hE dX12_has_9 qM_iconst_1 ?_
    refine z_goto (pc := 10) hE 14 rfl dX12_has_10 ?_
    exact z_zreturn (pc := 14) hE hr dX12_has_14
set_option maxRecDepth 100000 in
set_option maxHeartbeats 4000000 in
theorem c_X12_flag {l : Launch} {ad : Nat → Nat} {ca : FieldType → ClassId} {D : va_G} {sa sv : Nat → Nat} (a1 : Int32) : zC l yX12_flag cX12_flag 1 (some .int) 0 layM ad ca D (xtM ad sa sv) [.int a1] zvi (p_X12_flag a1) := by
  refine z_enter (by decide) (Nat.le_of_ble_eq_true rfl) (fun E hE hl0 hcD hr => ?_)
  have hE : zok layM ad (xtM ad sa sv) E cX12_flag 1 RX12 0 := hE
  show Z layM ad E 1 (zFin layM ad E zvi) 0 [(0, .int a1)] [] (p_X12_flag a1)
  unfold p_X12_flag
  refine z_iload_n (pc := 0) hE 0 0 rfl rfl dX12_flag_0 ?_
  refine z_if_eq (pc := 1) hE 8 rfl dX12_flag_1 ?_ ?_
  · refine z_iconst (pc := 8) hE dX12_flag_8 qM_iconst_0 ?_
    exact z_ireturn (pc := 9) hE hr dX12_flag_9
  · refine z_iconst (pc := 4) hE dX12_flag_4 qM_iconst_1 ?_
    refine z_goto (pc := 5) hE 9 rfl dX12_flag_5 ?_
    exact z_ireturn (pc := 9) hE hr dX12_flag_9
set_option maxRecDepth 100000 in
set_option maxHeartbeats 4000000 in
theorem c_X12_common_s (G : ((Int64 × Int64) → zM Int64)) (d : Nat) (hd : 1 ≤ d) (hG : (∀ (l : Launch) (ad : Nat → Nat) (ca : FieldType → ClassId) (D : va_G) (sa sv : Nat → Nat) (a1 : Int64) (a2 : Int64), zC l yX12_common cX12_common 4 (some .long) (d - 1) layM ad ca D (xtM ad sa sv) [.long a1, .long a2] zvl (G (a1, a2)))) {l : Launch} {ad : Nat → Nat} {ca : FieldType → ClassId} {D : va_G} {sa sv : Nat → Nat} (a1 : Int64) (a2 : Int64) : zC l yX12_common cX12_common 4 (some .long) d layM ad ca D (xtM ad sa sv) [.long a1, .long a2] zvl (p_X12_common_s G a1 a2) := by
  refine z_enter (by decide) (Nat.le_of_ble_eq_true rfl) (fun E hE hl0 hcD hr => ?_)
  have hE : zok layM ad (xtM ad sa sv) E cX12_common 4 RX12 d := hE
  show Z layM ad E 4 (zFin layM ad E zvl) 0 [(0, .long a1), (2, .long a2)] [] (p_X12_common_s G a1 a2)
  unfold p_X12_common_s
  refine z_lload_n (pc := 0) hE 1 2 rfl rfl dX12_common_0 ?_
  refine z_lconst (v := (0 : Int64)) (pc := 1) hE dX12_common_1 (by decide) ?_
  refine z_lcmp (pc := 2) hE dX12_common_2 ?_
  refine z_if_ne (pc := 3) hE 10 rfl dX12_common_3 ?_ ?_
  · refine z_lload_n (pc := 10) hE 1 2 rfl rfl dX12_common_10 ?_
    refine z_lload_n (pc := 11) hE 0 0 rfl rfl dX12_common_11 ?_
    refine z_lload_n (pc := 12) hE 1 2 rfl rfl dX12_common_12 ?_
    refine z_lrem (pc := 13) hE dX12_common_13 ?_
    refine z_callSl (pc := 14) (st := []) [.long a2, .long (a1 - a1 / a2 * a2)] hE kk_RX12_121 (hG _ _ _ _ _ _ a2 (a1 - a1 / a2 * a2)) rfl rfl (Nat.le_of_ble_eq_true rfl) (by omega) dX12_common_14 (fun x1 => ?_)
    exact z_lreturn (pc := 17) hE hr dX12_common_17
  · refine z_lload_n (pc := 6) hE 0 0 rfl rfl dX12_common_6 ?_
    refine z_goto (pc := 7) hE 17 rfl dX12_common_7 ?_
    exact z_lreturn (pc := 17) hE hr dX12_common_17
theorem c_X12_common_g : ∀ (n d : Nat), 0 + n ≤ d → (∀ (l : Launch) (ad : Nat → Nat) (ca : FieldType → ClassId) (D : va_G) (sa sv : Nat → Nat) (a1 : Int64) (a2 : Int64), zC l yX12_common cX12_common 4 (some .long) d layM ad ca D (xtM ad sa sv) [.long a1, .long a2] zvl ((p_X12_common_g n) (a1, a2)))
  | 0, d, h => fun _ _ _ _ _ _ _ _ S r S2 h => (by cases h)
  | n + 1, d, h => by
    have hG := c_X12_common_g n (d - 1) (by omega)
    exact fun l ad ca D sa sv a1 a2 => c_X12_common_s _ d (by omega) hG a1 a2
theorem c_X12_common {l : Launch} {ad : Nat → Nat} {ca : FieldType → ClassId} {D : va_G} {sa sv : Nat → Nat} (a1 : Int64) (a2 : Int64) : zC l yX12_common cX12_common 4 (some .long) 100 layM ad ca D (xtM ad sa sv) [.long a1, .long a2] zvl (p_X12_common a1 a2) := (c_X12_common_g zDP 100 (Nat.le_of_eq (by rw [zDP_eq]))) _ _ _ _ _ _ a1 a2
set_option maxRecDepth 100000 in
set_option maxHeartbeats 4000000 in
theorem c_X12_enters {l : Launch} {ad : Nat → Nat} {ca : FieldType → ClassId} {D : va_G} {sa sv : Nat → Nat} (a1 : Int64) : zC l yX12_enters cX12_enters 3 none 0 layM ad ca D (xtM ad sa sv) [.ref (ad 0), .long a1] zvn (p_X12_enters a1) := by
  refine z_enter (by decide) (Nat.le_of_ble_eq_true rfl) (fun E hE hl0 hcD hr => ?_)
  have hE : zok layM ad (xtM ad sa sv) E cX12_enters 3 RX12 0 := hE
  show Z layM ad E 3 (zFin layM ad E zvn) 0 [(0, .ref (ad 0)), (1, .long a1)] [] (p_X12_enters a1)
  unfold p_X12_enters
  refine z_aload_n (pc := 0) hE 0 0 rfl rfl dX12_enters_0 ?_
  refine z_getr (pc := 1) hE fk_RX12_9 lM_0 rfl dX12_enters_1 ?_
  refine z_aload_n (pc := 4) hE 0 0 rfl rfl dX12_enters_4 ?_
  refine z_geti (pc := 5) hE fk_RX12_125 lM_0 rfl dX12_enters_5 (fun x1 => ?_)
  refine z_lload_n (pc := 8) hE 1 1 rfl rfl dX12_enters_8 ?_
  refine z_last (pc := 9) hE lM_1 dX12_enters_9 ?_
  refine z_aload_n (pc := 10) hE 0 0 rfl rfl dX12_enters_10 ?_
  refine z_dup (pc := 11) hE dX12_enters_11 rfl ?_
  refine z_geti (pc := 12) hE fk_RX12_125 lM_0 rfl dX12_enters_12 (fun x2 => ?_)
  refine z_iconst (pc := 15) hE dX12_enters_15 qM_iconst_1 ?_
  refine z_iadd (pc := 16) hE dX12_enters_16 ?_
  refine z_puti (pc := 17) hE fk_RX12_125 lM_0 rfl dX12_enters_17 ?_
  exact z_return (pc := 20) hE hr dX12_enters_20
set_option maxRecDepth 100000 in
set_option maxHeartbeats 4000000 in
theorem c_X12_isRing {l : Launch} {ad : Nat → Nat} {ca : FieldType → ClassId} {D : va_G} {sa sv : Nat → Nat} (a1 : Int32) : zC l yX12_isRing cX12_isRing 2 (some .boolean) 1 layM ad ca D (xtM ad sa sv) [.ref (ad 0), .int a1] zvi (p_X12_isRing a1) := by
  refine z_enter (by decide) (Nat.le_of_ble_eq_true rfl) (fun E hE hl0 hcD hr => ?_)
  have hE : zok layM ad (xtM ad sa sv) E cX12_isRing 2 RX12 1 := hE
  show Z layM ad E 2 (zFin layM ad E zvi) 0 [(0, .ref (ad 0)), (1, .int a1)] [] (p_X12_isRing a1)
  unfold p_X12_isRing
  refine z_iload_n (pc := 0) hE 1 1 rfl rfl dX12_isRing_0 ?_
  refine z_i2l (pc := 1) hE dX12_isRing_1 ?_
  refine z_lconst (v := (0 : Int64)) (pc := 2) hE dX12_isRing_2 (by decide) ?_
  refine z_aload_n (pc := 3) hE 0 0 rfl rfl dX12_isRing_3 ?_
  refine z_geti (pc := 4) hE fk_RX12_128 lM_0 rfl dX12_isRing_4 (fun x1 => ?_)
  refine z_iconst (pc := 7) hE dX12_isRing_7 qM_iconst_1 ?_
  refine z_isub (pc := 8) hE dX12_isRing_8 ?_
  refine z_i2l (pc := 9) hE dX12_isRing_9 ?_
  refine z_callSi (pc := 10) (st := []) [.long a1.toInt64, .long ((0 : Int64)), .long ((x1 - ((1 : Int32))).toInt64)] hE kk_RX12_131 (c_X12_in a1.toInt64 ((0 : Int64)) ((x1 - ((1 : Int32))).toInt64)) rfl rfl (Nat.le_of_ble_eq_true rfl) (by decide) dX12_isRing_10 (fun x2 => ?_)
  exact z_zreturn (pc := 13) hE hr dX12_isRing_13
set_option maxRecDepth 100000 in
set_option maxHeartbeats 4000000 in
theorem c_X12_isBalloon {l : Launch} {ad : Nat → Nat} {ca : FieldType → ClassId} {D : va_G} {sa sv : Nat → Nat} (a1 : Int32) : zC l yX12_isBalloon cX12_isBalloon 2 (some .boolean) 1 layM ad ca D (xtM ad sa sv) [.ref (ad 0), .int a1] zvi (p_X12_isBalloon a1) := by
  refine z_enter (by decide) (Nat.le_of_ble_eq_true rfl) (fun E hE hl0 hcD hr => ?_)
  have hE : zok layM ad (xtM ad sa sv) E cX12_isBalloon 2 RX12 1 := hE
  show Z layM ad E 2 (zFin layM ad E zvi) 0 [(0, .ref (ad 0)), (1, .int a1)] [] (p_X12_isBalloon a1)
  unfold p_X12_isBalloon
  refine z_iload_n (pc := 0) hE 1 1 rfl rfl dX12_isBalloon_0 ?_
  refine z_i2l (pc := 1) hE dX12_isBalloon_1 ?_
  refine z_lconst (v := (0 : Int64)) (pc := 2) hE dX12_isBalloon_2 (by decide) ?_
  refine z_aload_n (pc := 3) hE 0 0 rfl rfl dX12_isBalloon_3 ?_
  refine z_geti (pc := 4) hE fk_RX12_135 lM_0 rfl dX12_isBalloon_4 (fun x1 => ?_)
  refine z_iconst (pc := 7) hE dX12_isBalloon_7 qM_iconst_1 ?_
  refine z_isub (pc := 8) hE dX12_isBalloon_8 ?_
  refine z_i2l (pc := 9) hE dX12_isBalloon_9 ?_
  refine z_callSi (pc := 10) (st := []) [.long a1.toInt64, .long ((0 : Int64)), .long ((x1 - ((1 : Int32))).toInt64)] hE kk_RX12_131 (c_X12_in a1.toInt64 ((0 : Int64)) ((x1 - ((1 : Int32))).toInt64)) rfl rfl (Nat.le_of_ble_eq_true rfl) (by decide) dX12_isBalloon_10 (fun x2 => ?_)
  exact z_zreturn (pc := 13) hE hr dX12_isBalloon_13
set_option maxRecDepth 100000 in
set_option maxHeartbeats 4000000 in
theorem c_X12_how {l : Launch} {ad : Nat → Nat} {ca : FieldType → ClassId} {D : va_G} {sa sv : Nat → Nat} (a1 : Int32) : zC l yX12_how cX12_how 2 (some .int) 0 layM ad ca D (xtM ad sa sv) [.ref (ad 0), .int a1] zvi (p_X12_how a1) := by
  refine z_enter (by decide) (Nat.le_of_ble_eq_true rfl) (fun E hE hl0 hcD hr => ?_)
  have hE : zok layM ad (xtM ad sa sv) E cX12_how 2 RX12 0 := hE
  show Z layM ad E 2 (zFin layM ad E zvi) 0 [(0, .ref (ad 0)), (1, .int a1)] [] (p_X12_how a1)
  unfold p_X12_how
  refine z_aload_n (pc := 0) hE 0 0 rfl rfl dX12_how_0 ?_
  refine z_getr (pc := 1) hE fk_RX12_32 lM_0 rfl dX12_how_1 ?_
  refine z_bipush (pc := 4) hE dX12_how_4 qM_bipush_7 ?_
  refine z_iload_n (pc := 6) hE 1 1 rfl rfl dX12_how_6 ?_
  refine z_imul (pc := 7) hE dX12_how_7 ?_
  refine z_iconst (pc := 8) hE dX12_how_8 qM_iconst_3 ?_
  refine z_iadd (pc := 9) hE dX12_how_9 ?_
  refine z_iald (pc := 10) hE lM_8 dX12_how_10 (fun x1 => ?_)
  exact z_ireturn (pc := 11) hE hr dX12_how_11
set_option maxRecDepth 100000 in
set_option maxHeartbeats 4000000 in
theorem c_X12_sign {l : Launch} {ad : Nat → Nat} {ca : FieldType → ClassId} {D : va_G} {sa sv : Nat → Nat} (a1 : Int32) : zC l yX12_sign cX12_sign 3 (some .int) 0 layM ad ca D (xtM ad sa sv) [.ref (ad 0), .int a1] zvi (p_X12_sign a1) := by
  refine z_enter (by decide) (Nat.le_of_ble_eq_true rfl) (fun E hE hl0 hcD hr => ?_)
  have hE : zok layM ad (xtM ad sa sv) E cX12_sign 3 RX12 0 := hE
  show Z layM ad E 3 (zFin layM ad E zvi) 0 [(0, .ref (ad 0)), (1, .int a1)] [] (p_X12_sign a1)
  unfold p_X12_sign
  refine z_aload_n (pc := 0) hE 0 0 rfl rfl dX12_sign_0 ?_
  refine z_iconst (pc := 1) hE dX12_sign_1 qM_iconst_0 ?_
  refine z_puti (pc := 2) hE fk_RX12_117 lM_0 rfl dX12_sign_2 ?_
  refine z_aload_n (pc := 5) hE 0 0 rfl rfl dX12_sign_5 ?_
  refine z_geti (pc := 6) hE fk_RX12_138 lM_0 rfl dX12_sign_6 (fun x1 => ?_)
  refine z_bipush (pc := 9) hE dX12_sign_9 qM_bipush_76 ?_
  refine z_icmp_le (pc := 11) hE 16 rfl dX12_sign_11 ?_ ?_
  · refine z_iconst (pc := 16) hE dX12_sign_16 qM_iconst_0 ?_
    refine z_istore_n (L' := [(2, .int ((0 : Int32))), (0, .ref (ad 0)), (1, .int a1)]) (pc := 17) hE 2 rfl (by decide) rfl dX12_sign_17 ?_
    refine z_sub (L' := [(0, .ref (ad 0)), (1, .int a1), (2, .int ((0 : Int32)))]) [1, 2, 0] rfl ?_
    refine z_loop (V := Int32) (X := Unit) (hd := 18) (ex := 53) (Lh := fun v2 => [(0, .ref (ad 0)), (1, .int a1), (2, .int v2)]) (Lx := fun e5 => [(0, .ref (ad 0))]) (fun rc4 k3 hrc4 hk3 v2 => ?_) zNF ((0 : Int32)) _ (fun e5 => ?_)
    · unfold p_X12_sign_b18
      refine z_iload_n (pc := 18) hE 2 2 rfl rfl dX12_sign_18 ?_
      refine z_iconst (pc := 19) hE dX12_sign_19 qM_iconst_4 ?_
      refine z_icmp_ge (pc := 20) hE 53 rfl dX12_sign_20 ?_ ?_
      · exact z_sub [0] rfl (hk3 ())
      · refine z_aload_n (pc := 23) hE 0 0 rfl rfl dX12_sign_23 ?_
        refine z_getr (pc := 24) hE fk_RX12_38 lM_0 rfl dX12_sign_24 ?_
        refine z_aload_n (pc := 27) hE 0 0 rfl rfl dX12_sign_27 ?_
        refine z_geti (pc := 28) hE fk_RX12_138 lM_0 rfl dX12_sign_28 (fun x6 => ?_)
        refine z_iload_n (pc := 31) hE 2 2 rfl rfl dX12_sign_31 ?_
        refine z_iadd (pc := 32) hE dX12_sign_32 ?_
        refine z_iload_n (pc := 33) hE 1 1 rfl rfl dX12_sign_33 ?_
        refine z_bipush (pc := 34) hE dX12_sign_34 qM_bipush_24 ?_
        refine z_bipush (pc := 36) hE dX12_sign_36 qM_bipush_8 ?_
        refine z_iload_n (pc := 38) hE 2 2 rfl rfl dX12_sign_38 ?_
        refine z_imul (pc := 39) hE dX12_sign_39 ?_
        refine z_isub (pc := 40) hE dX12_sign_40 ?_
        refine z_ishr (pc := 41) hE dX12_sign_41 ?_
        refine z_sipush (pc := 42) hE dX12_sign_42 qM_sipush_255 ?_
        refine z_iand (pc := 45) hE dX12_sign_45 ?_
        refine z_iast (pc := 46) hE lM_10 dX12_sign_46 ?_
        refine z_iinc (L' := [(2, .int (v2 + (1 : Int32))), (0, .ref (ad 0)), (1, .int a1)]) (pc := 47) hE 2 rfl (zinc qM_iconst_1) (by decide) rfl dX12_sign_47 ?_
        refine z_goto (pc := 50) hE 18 rfl dX12_sign_50 ?_
        exact z_sub [1, 2, 0] rfl (hrc4 (v2 + (1 : Int32)))
    · refine z_aload_n (pc := 53) hE 0 0 rfl rfl dX12_sign_53 ?_
      refine z_dup (pc := 54) hE dX12_sign_54 rfl ?_
      refine z_geti (pc := 55) hE fk_RX12_138 lM_0 rfl dX12_sign_55 (fun x7 => ?_)
      refine z_iconst (pc := 58) hE dX12_sign_58 qM_iconst_4 ?_
      refine z_iadd (pc := 59) hE dX12_sign_59 ?_
      refine z_puti (pc := 60) hE fk_RX12_138 lM_0 rfl dX12_sign_60 ?_
      refine z_aload_n (pc := 63) hE 0 0 rfl rfl dX12_sign_63 ?_
      refine z_geti (pc := 64) hE fk_RX12_138 lM_0 rfl dX12_sign_64 (fun x8 => ?_)
      exact z_ireturn (pc := 67) hE hr dX12_sign_67
  · refine z_iconst (pc := 14) hE dX12_sign_14 qM_iconst_m1 ?_
    exact z_ireturn (pc := 15) hE hr dX12_sign_15
set_option maxRecDepth 100000 in
set_option maxHeartbeats 4000000 in
theorem c_X12_end {l : Launch} {ad : Nat → Nat} {ca : FieldType → ClassId} {D : va_G} {sa sv : Nat → Nat} (a1 : Int32) : zC l yX12_end cX12_end 2 (some .boolean) 1 layM ad ca D (xtM ad sa sv) [.ref (ad 0), .int a1] zvi (p_X12_end a1) := by
  refine z_enter (by decide) (Nat.le_of_ble_eq_true rfl) (fun E hE hl0 hcD hr => ?_)
  have hE : zok layM ad (xtM ad sa sv) E cX12_end 2 RX12 1 := hE
  show Z layM ad E 2 (zFin layM ad E zvi) 0 [(0, .ref (ad 0)), (1, .int a1)] [] (p_X12_end a1)
  unfold p_X12_end
  refine z_aload_n (pc := 0) hE 0 0 rfl rfl dX12_end_0 ?_
  refine z_iconst (pc := 1) hE dX12_end_1 qM_iconst_0 ?_
  refine z_puti (pc := 2) hE fk_RX12_117 lM_0 rfl dX12_end_2 ?_
  refine z_iload_n (pc := 5) hE 1 1 rfl rfl dX12_end_5 ?_
  refine z_i2l (pc := 6) hE dX12_end_6 ?_
  refine z_lconst (v := (0 : Int64)) (pc := 7) hE dX12_end_7 (by decide) ?_
  refine z_aload_n (pc := 8) hE 0 0 rfl rfl dX12_end_8 ?_
  refine z_geti (pc := 9) hE fk_RX12_138 lM_0 rfl dX12_end_9 (fun x1 => ?_)
  refine z_i2l (pc := 12) hE dX12_end_12 ?_
  refine z_callSi (pc := 13) (st := []) [.long a1.toInt64, .long ((0 : Int64)), .long x1.toInt64] hE kk_RX12_131 (c_X12_in a1.toInt64 ((0 : Int64)) x1.toInt64) rfl rfl (Nat.le_of_ble_eq_true rfl) (by decide) dX12_end_13 (fun x2 => ?_)
  refine z_if_ne (pc := 16) hE 21 rfl dX12_end_16 ?_ ?_
  · refine z_aload_n (pc := 21) hE 0 0 rfl rfl dX12_end_21 ?_
    refine z_iload_n (pc := 22) hE 1 1 rfl rfl dX12_end_22 ?_
    refine z_puti (pc := 23) hE fk_RX12_138 lM_0 rfl dX12_end_23 ?_
    refine z_iconst (pc := 26) hE dX12_end_26 qM_iconst_1 ?_
    exact z_zreturn (pc := 27) hE hr dX12_end_27
  · refine z_iconst (pc := 19) hE dX12_end_19 qM_iconst_0 ?_
    exact z_zreturn (pc := 20) hE hr dX12_end_20
set_option maxRecDepth 100000 in
set_option maxHeartbeats 4000000 in
theorem c_X12_begins {l : Launch} {ad : Nat → Nat} {ca : FieldType → ClassId} {D : va_G} {sa sv : Nat → Nat} (a1 : Int32) : zC l yX12_begins cX12_begins 3 (some .int) 1 layM ad ca D (xtM ad sa sv) [.ref (ad 0), .int a1] zvi (p_X12_begins a1) := by
  refine z_enter (by decide) (Nat.le_of_ble_eq_true rfl) (fun E hE hl0 hcD hr => ?_)
  have hE : zok layM ad (xtM ad sa sv) E cX12_begins 3 RX12 1 := hE
  show Z layM ad E 3 (zFin layM ad E zvi) 0 [(0, .ref (ad 0)), (1, .int a1)] [] (p_X12_begins a1)
  unfold p_X12_begins
  refine z_aload_n (pc := 0) hE 0 0 rfl rfl dX12_begins_0 ?_
  refine z_geti (pc := 1) hE fk_RX12_138 lM_0 rfl dX12_begins_1 (fun x1 => ?_)
  refine z_istore_n (L' := [(2, .int x1), (0, .ref (ad 0)), (1, .int a1)]) (pc := 4) hE 2 rfl (by decide) rfl dX12_begins_4 ?_
  refine z_aload_n (pc := 5) hE 1 0 rfl rfl dX12_begins_5 ?_
  refine z_iconst (pc := 6) hE dX12_begins_6 qM_iconst_0 ?_
  refine z_puti (pc := 7) hE fk_RX12_138 lM_0 rfl dX12_begins_7 ?_
  refine z_aload_n (pc := 10) hE 1 0 rfl rfl dX12_begins_10 ?_
  refine z_iconst (pc := 11) hE dX12_begins_11 qM_iconst_0 ?_
  refine z_puti (pc := 12) hE fk_RX12_141 lM_0 rfl dX12_begins_12 ?_
  refine z_aload_n (pc := 15) hE 1 0 rfl rfl dX12_begins_15 ?_
  refine z_iconst (pc := 16) hE dX12_begins_16 qM_iconst_0 ?_
  refine z_puti (pc := 17) hE fk_RX12_144 lM_0 rfl dX12_begins_17 ?_
  refine z_aload_n (pc := 20) hE 1 0 rfl rfl dX12_begins_20 ?_
  refine z_iload_n (pc := 21) hE 0 2 rfl rfl dX12_begins_21 ?_
  refine z_iload_n (pc := 22) hE 2 1 rfl rfl dX12_begins_22 ?_
  refine z_min (pc := 23) hE kk_RX12_147 (Nat.le_of_ble_eq_true rfl) (by decide) dX12_begins_23 ?_
  refine z_puti (pc := 26) hE fk_RX12_153 lM_0 rfl dX12_begins_26 ?_
  refine z_iload_n (pc := 29) hE 0 2 rfl rfl dX12_begins_29 ?_
  exact z_ireturn (pc := 30) hE hr dX12_begins_30
set_option maxRecDepth 100000 in
set_option maxHeartbeats 4000000 in
theorem c_X12_takes {l : Launch} {ad : Nat → Nat} {ca : FieldType → ClassId} {D : va_G} {sa sv : Nat → Nat} (a1 : Int32) : zC l yX12_takes cX12_takes 3 (some .boolean) 1 layM ad ca D (xtM ad sa sv) [.ref (ad 0), .int a1] zvi (p_X12_takes a1) := by
  refine z_enter (by decide) (Nat.le_of_ble_eq_true rfl) (fun E hE hl0 hcD hr => ?_)
  have hE : zok layM ad (xtM ad sa sv) E cX12_takes 3 RX12 1 := hE
  show Z layM ad E 3 (zFin layM ad E zvi) 0 [(0, .ref (ad 0)), (1, .int a1)] [] (p_X12_takes a1)
  unfold p_X12_takes
  refine z_aload_n (pc := 0) hE 0 0 rfl rfl dX12_takes_0 ?_
  refine z_geti (pc := 1) hE fk_RX12_141 lM_0 rfl dX12_takes_1 (fun x1 => ?_)
  refine z_aload_n (pc := 4) hE 0 0 rfl rfl dX12_takes_4 ?_
  refine z_geti (pc := 5) hE fk_RX12_153 lM_0 rfl dX12_takes_5 (fun x2 => ?_)
  refine z_join (Y := Int32) (pcJ := 29) (Lj := fun y3 => [(0, .ref (ad 0))]) (sj := fun y3 => [.int y3]) (fun y3 => ?_) (fun j4 hj4 => ?_)
  · refine z_istore_n (L' := [(2, .int y3), (0, .ref (ad 0))]) (pc := 29) hE 2 rfl (by decide) rfl dX12_takes_29 ?_
    refine z_aload_n (pc := 30) hE 1 0 rfl rfl dX12_takes_30 ?_
    refine z_dup (pc := 31) hE dX12_takes_31 rfl ?_
    refine z_geti (pc := 32) hE fk_RX12_141 lM_0 rfl dX12_takes_32 (fun x5 => ?_)
    refine z_iload_n (pc := 35) hE 0 2 rfl rfl dX12_takes_35 ?_
    refine z_callSi (pc := 36) (st := [.int x5, .ref (ad 0)]) [.int y3] hE kk_RX12_156 (c_X12_flag y3) rfl rfl (Nat.le_of_ble_eq_true rfl) (by decide) dX12_takes_36 (fun x6 => ?_)
    refine z_iadd (pc := 39) hE dX12_takes_39 ?_
    refine z_puti (pc := 40) hE fk_RX12_141 lM_0 rfl dX12_takes_40 ?_
    refine z_iload_n (pc := 43) hE 0 2 rfl rfl dX12_takes_43 ?_
    exact z_zreturn (pc := 44) hE hr dX12_takes_44
  refine z_join (Y := Unit) (pcJ := 28) (Lj := fun y7 => [(0, .ref (ad 0))]) (sj := fun y7 => []) (fun y7 => ?_) (fun j8 hj8 => ?_)
  · refine z_iconst (pc := 28) hE dX12_takes_28 qM_iconst_0 ?_
    exact z_sub [0] rfl (hj4 ((0 : Int32)))
  refine z_icmp_ge (pc := 8) hE 28 rfl dX12_takes_8 ?_ ?_
  · exact z_sub [0] rfl (hj8 ())
  · refine z_aload_n (pc := 11) hE 0 0 rfl rfl dX12_takes_11 ?_
    refine z_getr (pc := 12) hE fk_RX12_38 lM_0 rfl dX12_takes_12 ?_
    refine z_aload_n (pc := 15) hE 0 0 rfl rfl dX12_takes_15 ?_
    refine z_geti (pc := 16) hE fk_RX12_141 lM_0 rfl dX12_takes_16 (fun x9 => ?_)
    refine z_iald (pc := 19) hE lM_10 dX12_takes_19 (fun x10 => ?_)
    refine z_iload_n (pc := 20) hE 1 1 rfl rfl dX12_takes_20 ?_
    refine z_icmp_ne (pc := 21) hE 28 rfl dX12_takes_21 ?_ ?_
    · exact z_sub [0] rfl (hj8 ())
    · refine z_iconst (pc := 24) hE dX12_takes_24 qM_iconst_1 ?_
      refine z_goto (pc := 25) hE 29 rfl dX12_takes_25 ?_
      exact z_sub [0] rfl (hj4 ((1 : Int32)))
set_option maxRecDepth 100000 in
set_option maxHeartbeats 4000000 in
theorem c_X12_isDigit {l : Launch} {ad : Nat → Nat} {ca : FieldType → ClassId} {D : va_G} {sa sv : Nat → Nat}  : zC l yX12_isDigit cX12_isDigit 1 (some .boolean) 1 layM ad ca D (xtM ad sa sv) [.ref (ad 0)] zvi (p_X12_isDigit) := by
  refine z_enter (by decide) (Nat.le_of_ble_eq_true rfl) (fun E hE hl0 hcD hr => ?_)
  have hE : zok layM ad (xtM ad sa sv) E cX12_isDigit 1 RX12 1 := hE
  show Z layM ad E 1 (zFin layM ad E zvi) 0 [(0, .ref (ad 0))] [] (p_X12_isDigit)
  unfold p_X12_isDigit
  refine z_aload_n (pc := 0) hE 0 0 rfl rfl dX12_isDigit_0 ?_
  refine z_geti (pc := 1) hE fk_RX12_141 lM_0 rfl dX12_isDigit_1 (fun x1 => ?_)
  refine z_aload_n (pc := 4) hE 0 0 rfl rfl dX12_isDigit_4 ?_
  refine z_geti (pc := 5) hE fk_RX12_153 lM_0 rfl dX12_isDigit_5 (fun x2 => ?_)
  refine z_icmp_ge (pc := 8) hE 37 rfl dX12_isDigit_8 ?_ ?_
  · refine z_iconst (pc := 37) hE dX12_isDigit_37 qM_iconst_0 ?_
    exact z_zreturn (pc := 38) hE hr dX12_isDigit_38
  · refine z_aload_n (pc := 11) hE 0 0 rfl rfl dX12_isDigit_11 ?_
    refine z_getr (pc := 12) hE fk_RX12_38 lM_0 rfl dX12_isDigit_12 ?_
    refine z_aload_n (pc := 15) hE 0 0 rfl rfl dX12_isDigit_15 ?_
    refine z_geti (pc := 16) hE fk_RX12_141 lM_0 rfl dX12_isDigit_16 (fun x3 => ?_)
    refine z_iald (pc := 19) hE lM_10 dX12_isDigit_19 (fun x4 => ?_)
    refine z_i2l (pc := 20) hE dX12_isDigit_20 ?_
    refine z_ldc2 (pc := 21) hE wM_0 dX12_isDigit_21 ?_
    refine z_ldc2 (pc := 24) hE wM_1 dX12_isDigit_24 ?_
    refine z_callSi (pc := 27) (st := []) [.long x4.toInt64, .long ((48 : Int64)), .long ((57 : Int64))] hE kk_RX12_131 (c_X12_in x4.toInt64 ((48 : Int64)) ((57 : Int64))) rfl rfl (Nat.le_of_ble_eq_true rfl) (by decide) dX12_isDigit_27 (fun x5 => ?_)
    refine z_if_eq (pc := 30) hE 37 rfl dX12_isDigit_30 ?_ ?_
    · refine z_iconst (pc := 37) hE dX12_isDigit_37 qM_iconst_0 ?_
      exact z_zreturn (pc := 38) hE hr dX12_isDigit_38
    · refine z_iconst (pc := 33) hE dX12_isDigit_33 qM_iconst_1 ?_
      refine z_goto (pc := 34) hE 38 rfl dX12_isDigit_34 ?_
      exact z_zreturn (pc := 38) hE hr dX12_isDigit_38
set_option maxRecDepth 100000 in
set_option maxHeartbeats 4000000 in
theorem c_X12_among {l : Launch} {ad : Nat → Nat} {ca : FieldType → ClassId} {D : va_G} {sa sv : Nat → Nat} (q : Nat) (hq : q < 8) : zC l yX12_among cX12_among 3 (some .int) 4 layM ad ca D (xtM ad sa sv) [.ref (ad 0), .ref (sa q)] zvi (p_X12_among q) := by
  refine z_enter (by decide) (Nat.le_of_ble_eq_true rfl) (fun E hE hl0 hcD hr => ?_)
  have hE : zok layM ad (xtM ad sa sv) E cX12_among 3 RX12 4 := hE
  show Z layM ad E 3 (zFin layM ad E zvi) 0 [(0, .ref (ad 0)), (1, .ref (sa q))] [] (p_X12_among q)
  unfold p_X12_among
  refine z_iconst (pc := 0) hE dX12_among_0 qM_iconst_0 ?_
  refine z_istore_n (L' := [(2, .int ((0 : Int32))), (0, .ref (ad 0)), (1, .ref (sa q))]) (pc := 1) hE 2 rfl (by decide) rfl dX12_among_1 ?_
  refine z_sub (L' := [(0, .ref (ad 0)), (1, .ref (sa q)), (2, .int ((0 : Int32)))]) [1, 2, 0] rfl ?_
  refine z_loop (V := Int32) (X := Unit) (hd := 2) (ex := 46) (Lh := fun v1 => [(0, .ref (ad 0)), (1, .ref (sa q)), (2, .int v1)]) (Lx := fun e4 => []) (fun rc3 k2 hrc3 hk2 v1 => ?_) zNF ((0 : Int32)) _ (fun e4 => ?_)
  · unfold p_X12_among_b2
    refine z_iload_n (pc := 2) hE 2 2 rfl rfl dX12_among_2 ?_
    refine z_aload_n (pc := 3) hE 1 1 rfl rfl dX12_among_3 ?_
    refine z_callVsi (pc := 4) (st := [.int v1]) [] hE kk_RX12_164 (c_J0_length_8abf5 q hq) (sO hq) rfl rfl (Nat.le_of_ble_eq_true rfl) (by decide) dX12_among_4 (fun x5 => ?_)
    refine z_icmp_ge (pc := 7) hE 46 rfl dX12_among_7 ?_ ?_
    · exact z_sub [] rfl (hk2 ())
    · refine z_aload_n (pc := 10) hE 0 0 rfl rfl dX12_among_10 ?_
      refine z_geti (pc := 11) hE fk_RX12_141 lM_0 rfl dX12_among_11 (fun x6 => ?_)
      refine z_aload_n (pc := 14) hE 0 0 rfl rfl dX12_among_14 ?_
      refine z_geti (pc := 15) hE fk_RX12_153 lM_0 rfl dX12_among_15 (fun x7 => ?_)
      refine z_icmp_ge (pc := 18) hE 46 rfl dX12_among_18 ?_ ?_
      · exact z_sub [] rfl (hk2 ())
      · refine z_aload_n (pc := 21) hE 1 1 rfl rfl dX12_among_21 ?_
        refine z_iload_n (pc := 22) hE 2 2 rfl rfl dX12_among_22 ?_
        refine z_callVsi (pc := 23) (st := []) [.int v1] hE kk_RX12_170 (c_J0_charAt_5068e q hq v1) (sO hq) rfl rfl (Nat.le_of_ble_eq_true rfl) (by decide) dX12_among_23 (fun x8 => ?_)
        refine z_aload_n (pc := 26) hE 0 0 rfl rfl dX12_among_26 ?_
        refine z_getr (pc := 27) hE fk_RX12_38 lM_0 rfl dX12_among_27 ?_
        refine z_aload_n (pc := 30) hE 0 0 rfl rfl dX12_among_30 ?_
        refine z_geti (pc := 31) hE fk_RX12_141 lM_0 rfl dX12_among_31 (fun x9 => ?_)
        refine z_iald (pc := 34) hE lM_10 dX12_among_34 (fun x10 => ?_)
        refine z_icmp_ne (pc := 35) hE 40 rfl dX12_among_35 ?_ ?_
        · refine z_iinc (L' := [(2, .int (v1 + (1 : Int32))), (0, .ref (ad 0)), (1, .ref (sa q))]) (pc := 40) hE 2 rfl (zinc qM_iconst_1) (by decide) rfl dX12_among_40 ?_
          refine z_goto (pc := 43) hE 2 rfl dX12_among_43 ?_
          exact z_sub [1, 2, 0] rfl (hrc3 (v1 + (1 : Int32)))
        · refine z_iload_n (pc := 38) hE 2 2 rfl rfl dX12_among_38 ?_
          exact z_ireturn (pc := 39) hE hr dX12_among_39
  · refine z_iconst (pc := 46) hE dX12_among_46 qM_iconst_m1 ?_
    exact z_ireturn (pc := 47) hE hr dX12_among_47
set_option maxRecDepth 100000 in
set_option maxHeartbeats 4000000 in
theorem c_X12_takesOf {l : Launch} {ad : Nat → Nat} {ca : FieldType → ClassId} {D : va_G} {sa sv : Nat → Nat} (q : Nat) (hq : q < 8) : zC l yX12_takesOf cX12_takesOf 3 (some .int) 5 layM ad ca D (xtM ad sa sv) [.ref (ad 0), .ref (sa q)] zvi (p_X12_takesOf q) := by
  refine z_enter (by decide) (Nat.le_of_ble_eq_true rfl) (fun E hE hl0 hcD hr => ?_)
  have hE : zok layM ad (xtM ad sa sv) E cX12_takesOf 3 RX12 5 := hE
  show Z layM ad E 3 (zFin layM ad E zvi) 0 [(0, .ref (ad 0)), (1, .ref (sa q))] [] (p_X12_takesOf q)
  unfold p_X12_takesOf
  refine z_aload_n (pc := 0) hE 0 0 rfl rfl dX12_takesOf_0 ?_
  refine z_aload_n (pc := 1) hE 1 1 rfl rfl dX12_takesOf_1 ?_
  refine z_callVi (pc := 2) (st := []) [.ref (sa q)] hE kk_RX12_174 (c_X12_among q hq) lM_0 rfl rfl rfl (Nat.le_of_ble_eq_true rfl) (by decide) dX12_takesOf_2 (fun x1 => ?_)
  refine z_istore_n (L' := [(2, .int x1), (0, .ref (ad 0)), (1, .ref (sa q))]) (pc := 5) hE 2 rfl (by decide) rfl dX12_takesOf_5 ?_
  refine z_aload_n (pc := 6) hE 1 0 rfl rfl dX12_takesOf_6 ?_
  refine z_dup (pc := 7) hE dX12_takesOf_7 rfl ?_
  refine z_geti (pc := 8) hE fk_RX12_141 lM_0 rfl dX12_takesOf_8 (fun x2 => ?_)
  refine z_iload_n (pc := 11) hE 0 2 rfl rfl dX12_takesOf_11 ?_
  refine z_join (Y := Int32) (pcJ := 20) (Lj := fun y3 => [(2, .int x1)]) (sj := fun y3 => [.int y3, .int x2, .ref (ad 0)]) (fun y3 => ?_) (fun j4 hj4 => ?_)
  · refine z_callSi (pc := 20) (st := [.int x2, .ref (ad 0)]) [.int y3] hE kk_RX12_156 (c_X12_flag y3) rfl rfl (Nat.le_of_ble_eq_true rfl) (by decide) dX12_takesOf_20 (fun x5 => ?_)
    refine z_iadd (pc := 23) hE dX12_takesOf_23 ?_
    refine z_puti (pc := 24) hE fk_RX12_141 lM_0 rfl dX12_takesOf_24 ?_
    refine z_iload_n (pc := 27) hE 0 2 rfl rfl dX12_takesOf_27 ?_
    exact z_ireturn (pc := 28) hE hr dX12_takesOf_28
  refine z_if_lt (pc := 12) hE 19 rfl dX12_takesOf_12 ?_ ?_
  · refine z_iconst (pc := 19) hE dX12_takesOf_19 qM_iconst_0 ?_
    exact z_sub [0] rfl (hj4 ((0 : Int32)))
  · refine z_iconst (pc := 15) hE dX12_takesOf_15 qM_iconst_1 ?_
    refine z_goto (pc := 16) hE 20 rfl dX12_takesOf_16 ?_
    exact z_sub [0] rfl (hj4 ((1 : Int32)))
set_option maxRecDepth 100000 in
set_option maxHeartbeats 4000000 in
theorem c_X12_number {l : Launch} {ad : Nat → Nat} {ca : FieldType → ClassId} {D : va_G} {sa sv : Nat → Nat} (a1 : Int32) : zC l yX12_number cX12_number 4 (some .int) 2 layM ad ca D (xtM ad sa sv) [.ref (ad 0), .int a1] zvi (p_X12_number a1) := by
  refine z_enter (by decide) (Nat.le_of_ble_eq_true rfl) (fun E hE hl0 hcD hr => ?_)
  have hE : zok layM ad (xtM ad sa sv) E cX12_number 4 RX12 2 := hE
  show Z layM ad E 4 (zFin layM ad E zvi) 0 [(0, .ref (ad 0)), (1, .int a1)] [] (p_X12_number a1)
  unfold p_X12_number
  refine z_aload_n (pc := 0) hE 0 0 rfl rfl dX12_number_0 ?_
  refine z_callVi (pc := 1) (st := []) [] hE kk_RX12_178 (c_X12_isDigit) lM_0 rfl rfl rfl (Nat.le_of_ble_eq_true rfl) (by decide) dX12_number_1 (fun x1 => ?_)
  refine z_if_ne (pc := 4) hE 9 rfl dX12_number_4 ?_ ?_
  · refine z_iconst (pc := 9) hE dX12_number_9 qM_iconst_0 ?_
    refine z_istore_n (L' := [(2, .int ((0 : Int32))), (0, .ref (ad 0)), (1, .int a1)]) (pc := 10) hE 2 rfl (by decide) rfl dX12_number_10 ?_
    refine z_iconst (pc := 11) hE dX12_number_11 qM_iconst_0 ?_
    refine z_istore_n (L' := [(3, .int ((0 : Int32))), (2, .int ((0 : Int32))), (0, .ref (ad 0)), (1, .int a1)]) (pc := 12) hE 3 rfl (by decide) rfl dX12_number_12 ?_
    refine z_sub (L' := [(0, .ref (ad 0)), (1, .int a1), (2, .int ((0 : Int32))), (3, .int ((0 : Int32)))]) [2, 3, 1, 0] rfl ?_
    refine z_loop (V := (Int32 × Int32)) (X := Int32) (hd := 13) (ex := 59) (Lh := fun v2 => [(0, .ref (ad 0)), (1, .int a1), (2, .int v2.1), (3, .int v2.2)]) (Lx := fun e5 => [(2, .int e5)]) (fun rc4 k3 hrc4 hk3 v2 => ?_) zNF ((0 : Int32), (0 : Int32)) _ (fun e5 => ?_)
    · unfold p_X12_number_b13
      refine z_iload_n (pc := 13) hE 3 3 rfl rfl dX12_number_13 ?_
      refine z_iload_n (pc := 14) hE 1 1 rfl rfl dX12_number_14 ?_
      refine z_icmp_ge (pc := 15) hE 59 rfl dX12_number_15 ?_ ?_
      · exact z_sub [2] rfl (hk3 v2.1)
      · refine z_aload_n (pc := 18) hE 0 0 rfl rfl dX12_number_18 ?_
        refine z_callVi (pc := 19) (st := []) [] hE kk_RX12_178 (c_X12_isDigit) lM_0 rfl rfl rfl (Nat.le_of_ble_eq_true rfl) (by decide) dX12_number_19 (fun x6 => ?_)
        refine z_if_eq (pc := 22) hE 59 rfl dX12_number_22 ?_ ?_
        · exact z_sub [2] rfl (hk3 v2.1)
        · refine z_bipush (pc := 25) hE dX12_number_25 qM_bipush_10 ?_
          refine z_iload_n (pc := 27) hE 2 2 rfl rfl dX12_number_27 ?_
          refine z_imul (pc := 28) hE dX12_number_28 ?_
          refine z_aload_n (pc := 29) hE 0 0 rfl rfl dX12_number_29 ?_
          refine z_getr (pc := 30) hE fk_RX12_38 lM_0 rfl dX12_number_30 ?_
          refine z_aload_n (pc := 33) hE 0 0 rfl rfl dX12_number_33 ?_
          refine z_geti (pc := 34) hE fk_RX12_141 lM_0 rfl dX12_number_34 (fun x7 => ?_)
          refine z_iald (pc := 37) hE lM_10 dX12_number_37 (fun x8 => ?_)
          refine z_iadd (pc := 38) hE dX12_number_38 ?_
          refine z_bipush (pc := 39) hE dX12_number_39 qM_bipush_48 ?_
          refine z_isub (pc := 41) hE dX12_number_41 ?_
          refine z_istore_n (L' := [(2, .int (((((10 : Int32)) * v2.1) + x8) - ((48 : Int32)))), (0, .ref (ad 0)), (1, .int a1), (3, .int v2.2)]) (pc := 42) hE 2 rfl (by decide) rfl dX12_number_42 ?_
          refine z_aload_n (pc := 43) hE 1 0 rfl rfl dX12_number_43 ?_
          refine z_dup (pc := 44) hE dX12_number_44 rfl ?_
          refine z_geti (pc := 45) hE fk_RX12_141 lM_0 rfl dX12_number_45 (fun x9 => ?_)
          refine z_iconst (pc := 48) hE dX12_number_48 qM_iconst_1 ?_
          refine z_iadd (pc := 49) hE dX12_number_49 ?_
          refine z_puti (pc := 50) hE fk_RX12_141 lM_0 rfl dX12_number_50 ?_
          refine z_iinc (L' := [(3, .int (v2.2 + (1 : Int32))), (2, .int (((((10 : Int32)) * v2.1) + x8) - ((48 : Int32)))), (0, .ref (ad 0)), (1, .int a1)]) (pc := 53) hE 3 rfl (zinc qM_iconst_1) (by decide) rfl dX12_number_53 ?_
          refine z_goto (pc := 56) hE 13 rfl dX12_number_56 ?_
          exact z_sub [2, 3, 1, 0] rfl (hrc4 (((((10 : Int32)) * v2.1) + x8) - ((48 : Int32)), v2.2 + (1 : Int32)))
    · refine z_iload_n (pc := 59) hE 0 2 rfl rfl dX12_number_59 ?_
      exact z_ireturn (pc := 60) hE hr dX12_number_60
  · refine z_iconst (pc := 7) hE dX12_number_7 qM_iconst_m1 ?_
    exact z_ireturn (pc := 8) hE hr dX12_number_8
set_option maxRecDepth 100000 in
set_option maxHeartbeats 4000000 in
theorem c_X12_faultOf {l : Launch} {ad : Nat → Nat} {ca : FieldType → ClassId} {D : va_G} {sa sv : Nat → Nat} (a1 : Int32) (a2 : Int32) (a3 : Int32) : zC l yX12_faultOf cX12_faultOf 5 (some .int) 0 layM ad ca D (xtM ad sa sv) [.ref (ad 0), .int a1, .int a2, .int a3] zvi (p_X12_faultOf a1 a2 a3) := by
  refine z_enter (by decide) (Nat.le_of_ble_eq_true rfl) (fun E hE hl0 hcD hr => ?_)
  have hE : zok layM ad (xtM ad sa sv) E cX12_faultOf 5 RX12 0 := hE
  show Z layM ad E 5 (zFin layM ad E zvi) 0 [(0, .ref (ad 0)), (1, .int a1), (2, .int a2), (3, .int a3)] [] (p_X12_faultOf a1 a2 a3)
  unfold p_X12_faultOf
  refine z_iload_n (pc := 0) hE 3 3 rfl rfl dX12_faultOf_0 ?_
  refine z_join (Y := Int32) (pcJ := 20) (Lj := fun y1 => [(0, .ref (ad 0)), (1, .int a1), (2, .int a2)]) (sj := fun y1 => [.int y1]) (fun y1 => ?_) (fun j2 hj2 => ?_)
  · refine z_istore (L' := [(4, .int y1), (0, .ref (ad 0)), (1, .int a1), (2, .int a2)]) (pc := 20) hE (by decide) rfl dX12_faultOf_20 ?_
    refine z_iload_n (pc := 22) hE 2 1 rfl rfl dX12_faultOf_22 ?_
    refine z_iload_n (pc := 23) hE 3 2 rfl rfl dX12_faultOf_23 ?_
    refine z_join (Y := Unit) (pcJ := 44) (Lj := fun y3 => [(0, .ref (ad 0)), (4, .int y1)]) (sj := fun y3 => []) (fun y3 => ?_) (fun j4 hj4 => ?_)
    · refine z_iload (pc := 44) hE 1 rfl dX12_faultOf_44 ?_
      refine z_if_eq (pc := 46) hE 53 rfl dX12_faultOf_46 ?_ ?_
      · refine z_iconst (pc := 53) hE dX12_faultOf_53 qM_iconst_m1 ?_
        refine z_aload_n (pc := 54) hE 0 0 rfl rfl dX12_faultOf_54 ?_
        refine z_geti (pc := 55) hE fk_RX12_141 lM_0 rfl dX12_faultOf_55 (fun x5 => ?_)
        refine z_isub (pc := 58) hE dX12_faultOf_58 ?_
        exact z_ireturn (pc := 59) hE hr dX12_faultOf_59
      · refine z_iconst (pc := 49) hE dX12_faultOf_49 qM_iconst_0 ?_
        refine z_goto (pc := 50) hE 59 rfl dX12_faultOf_50 ?_
        exact z_ireturn (pc := 59) hE hr dX12_faultOf_59
    refine z_icmp_le (pc := 24) hE 44 rfl dX12_faultOf_24 ?_ ?_
    · exact z_sub [1, 0] rfl (hj4 ())
    · refine z_iload (pc := 27) hE 0 rfl dX12_faultOf_27 ?_
      refine z_if_ne (pc := 29) hE 40 rfl dX12_faultOf_29 ?_ ?_
      · refine z_iconst (pc := 40) hE dX12_faultOf_40 qM_iconst_m1 ?_
        refine z_iload_n (pc := 41) hE 3 2 rfl rfl dX12_faultOf_41 ?_
        refine z_isub (pc := 42) hE dX12_faultOf_42 ?_
        exact z_ireturn (pc := 43) hE hr dX12_faultOf_43
      · refine z_aload_n (pc := 32) hE 1 0 rfl rfl dX12_faultOf_32 ?_
        refine z_geti (pc := 33) hE fk_RX12_141 lM_0 rfl dX12_faultOf_33 (fun x6 => ?_)
        refine z_iload_n (pc := 36) hE 3 2 rfl rfl dX12_faultOf_36 ?_
        refine z_icmp_lt (pc := 37) hE 44 rfl dX12_faultOf_37 ?_ ?_
        · exact z_sub [1, 0] rfl (hj4 ())
        · refine z_iconst (pc := 40) hE dX12_faultOf_40 qM_iconst_m1 ?_
          refine z_iload_n (pc := 41) hE 3 2 rfl rfl dX12_faultOf_41 ?_
          refine z_isub (pc := 42) hE dX12_faultOf_42 ?_
          exact z_ireturn (pc := 43) hE hr dX12_faultOf_43
  refine z_join (Y := Unit) (pcJ := 19) (Lj := fun y7 => [(0, .ref (ad 0)), (1, .int a1), (2, .int a2)]) (sj := fun y7 => []) (fun y7 => ?_) (fun j8 hj8 => ?_)
  · refine z_iconst (pc := 19) hE dX12_faultOf_19 qM_iconst_0 ?_
    exact z_sub [0, 1, 2] rfl (hj2 ((0 : Int32)))
  refine z_if_eq (pc := 1) hE 19 rfl dX12_faultOf_1 ?_ ?_
  · exact z_sub [0, 1, 2] rfl (hj8 ())
  · refine z_aload_n (pc := 4) hE 0 0 rfl rfl dX12_faultOf_4 ?_
    refine z_geti (pc := 5) hE fk_RX12_141 lM_0 rfl dX12_faultOf_5 (fun x9 => ?_)
    refine z_aload_n (pc := 8) hE 0 0 rfl rfl dX12_faultOf_8 ?_
    refine z_geti (pc := 9) hE fk_RX12_153 lM_0 rfl dX12_faultOf_9 (fun x10 => ?_)
    refine z_icmp_ne (pc := 12) hE 19 rfl dX12_faultOf_12 ?_ ?_
    · exact z_sub [0, 1, 2] rfl (hj8 ())
    · refine z_iconst (pc := 15) hE dX12_faultOf_15 qM_iconst_1 ?_
      refine z_goto (pc := 16) hE 20 rfl dX12_faultOf_16 ?_
      exact z_sub [0, 1, 2] rfl (hj2 ((1 : Int32)))
set_option maxRecDepth 100000 in
set_option maxHeartbeats 4000000 in
theorem c_X12_readsRing {l : Launch} {ad : Nat → Nat} {ca : FieldType → ClassId} {D : va_G} {sa sv : Nat → Nat}  : zC l yX12_readsRing cX12_readsRing 2 (some .boolean) 6 layM ad ca D (xtM ad sa sv) [.ref (ad 0)] zvi (p_X12_readsRing) := by
  refine z_enter (by decide) (Nat.le_of_ble_eq_true rfl) (fun E hE hl0 hcD hr => ?_)
  have hE : zok layM ad (xtM ad sa sv) E cX12_readsRing 2 RX12 6 := hE
  show Z layM ad E 2 (zFin layM ad E zvi) 0 [(0, .ref (ad 0))] [] (p_X12_readsRing)
  unfold p_X12_readsRing
  refine z_aload_n (pc := 0) hE 0 0 rfl rfl dX12_readsRing_0 ?_
  refine z_geti (pc := 1) hE fk_RX12_182 lM_0 rfl dX12_readsRing_1 (fun x1 => ?_)
  refine z_bipush (pc := 4) hE dX12_readsRing_4 qM_bipush_8 ?_
  refine z_icmp_ne (pc := 6) hE 11 rfl dX12_readsRing_6 ?_ ?_
  · refine z_iconst (pc := 11) hE dX12_readsRing_11 qM_iconst_2 ?_
    refine z_aload_n (pc := 12) hE 0 0 rfl rfl dX12_readsRing_12 ?_
    refine z_geti (pc := 13) hE fk_RX12_182 lM_0 rfl dX12_readsRing_13 (fun x2 => ?_)
    refine z_imul (pc := 16) hE dX12_readsRing_16 ?_
    refine z_istore_n (L' := [(1, .int (((2 : Int32)) * x2)), (0, .ref (ad 0))]) (pc := 17) hE 1 rfl (by decide) rfl dX12_readsRing_17 ?_
    refine z_aload_n (pc := 18) hE 1 0 rfl rfl dX12_readsRing_18 ?_
    refine z_getr (pc := 19) hE fk_RX12_41 lM_0 rfl dX12_readsRing_19 ?_
    refine z_iload_n (pc := 22) hE 0 1 rfl rfl dX12_readsRing_22 ?_
    refine z_aload_n (pc := 23) hE 1 0 rfl rfl dX12_readsRing_23 ?_
    refine z_iconst (pc := 24) hE dX12_readsRing_24 qM_iconst_1 ?_
    refine z_callVi (pc := 25) (st := [.int (((2 : Int32)) * x2), .ref (ad 11)]) [.int ((1 : Int32))] hE kk_RX12_185 (c_X12_number ((1 : Int32))) lM_0 rfl rfl rfl (Nat.le_of_ble_eq_true rfl) (by decide) dX12_readsRing_25 (fun x3 => ?_)
    refine z_iast (pc := 28) hE lM_11 dX12_readsRing_28 ?_
    refine z_aload_n (pc := 29) hE 1 0 rfl rfl dX12_readsRing_29 ?_
    refine z_getr (pc := 30) hE fk_RX12_41 lM_0 rfl dX12_readsRing_30 ?_
    refine z_iload_n (pc := 33) hE 0 1 rfl rfl dX12_readsRing_33 ?_
    refine z_iconst (pc := 34) hE dX12_readsRing_34 qM_iconst_1 ?_
    refine z_iadd (pc := 35) hE dX12_readsRing_35 ?_
    refine z_aload_n (pc := 36) hE 1 0 rfl rfl dX12_readsRing_36 ?_
    refine z_getr (pc := 37) hE fk_RX12_41 lM_0 rfl dX12_readsRing_37 ?_
    refine z_iload_n (pc := 40) hE 0 1 rfl rfl dX12_readsRing_40 ?_
    refine z_iald (pc := 41) hE lM_11 dX12_readsRing_41 (fun x4 => ?_)
    refine z_join (Y := Int32) (pcJ := 55) (Lj := fun y5 => [(0, .ref (ad 0)), (1, .int (((2 : Int32)) * x2))]) (sj := fun y5 => [.int y5, .int ((((2 : Int32)) * x2) + ((1 : Int32))), .ref (ad 11)]) (fun y5 => ?_) (fun j6 hj6 => ?_)
    · refine z_iast (pc := 55) hE lM_11 dX12_readsRing_55 ?_
      refine z_aload_n (pc := 56) hE 0 0 rfl rfl dX12_readsRing_56 ?_
      refine z_dup (pc := 57) hE dX12_readsRing_57 rfl ?_
      refine z_geti (pc := 58) hE fk_RX12_182 lM_0 rfl dX12_readsRing_58 (fun x7 => ?_)
      refine z_iconst (pc := 61) hE dX12_readsRing_61 qM_iconst_1 ?_
      refine z_iadd (pc := 62) hE dX12_readsRing_62 ?_
      refine z_puti (pc := 63) hE fk_RX12_182 lM_0 rfl dX12_readsRing_63 ?_
      refine z_aload_n (pc := 66) hE 0 0 rfl rfl dX12_readsRing_66 ?_
      refine z_getr (pc := 67) hE fk_RX12_41 lM_0 rfl dX12_readsRing_67 ?_
      refine z_iload_n (pc := 70) hE 1 1 rfl rfl dX12_readsRing_70 ?_
      refine z_iconst (pc := 71) hE dX12_readsRing_71 qM_iconst_1 ?_
      refine z_iadd (pc := 72) hE dX12_readsRing_72 ?_
      refine z_iald (pc := 73) hE lM_11 dX12_readsRing_73 (fun x8 => ?_)
      refine z_if_lt (pc := 74) hE 81 rfl dX12_readsRing_74 ?_ ?_
      · refine z_iconst (pc := 81) hE dX12_readsRing_81 qM_iconst_0 ?_
        exact z_zreturn (pc := 82) hE hr dX12_readsRing_82
      · refine z_iconst (pc := 77) hE dX12_readsRing_77 qM_iconst_1 ?_
        refine z_goto (pc := 78) hE 82 rfl dX12_readsRing_78 ?_
        exact z_zreturn (pc := 82) hE hr dX12_readsRing_82
    refine z_if_ge (pc := 42) hE 49 rfl dX12_readsRing_42 ?_ ?_
    · refine z_aload_n (pc := 49) hE 1 0 rfl rfl dX12_readsRing_49 ?_
      refine z_ldcs (pc := 50) hE (sR_189) dX12_readsRing_50 ?_
      refine z_callVi (pc := 52) (st := [.int ((((2 : Int32)) * x2) + ((1 : Int32))), .ref (ad 11)]) [.ref (sa 2)] hE kk_RX12_191 (c_X12_takesOf 2 (by decide)) lM_0 rfl rfl rfl (Nat.le_of_ble_eq_true rfl) (by decide) dX12_readsRing_52 (fun x9 => ?_)
      exact z_sub [1, 0] rfl (hj6 x9)
    · refine z_iconst (pc := 45) hE dX12_readsRing_45 qM_iconst_m1 ?_
      refine z_goto (pc := 46) hE 55 rfl dX12_readsRing_46 ?_
      exact z_sub [1, 0] rfl (hj6 ((-1 : Int32)))
  · refine z_iconst (pc := 9) hE dX12_readsRing_9 qM_iconst_0 ?_
    exact z_zreturn (pc := 10) hE hr dX12_readsRing_10
set_option maxRecDepth 100000 in
set_option maxHeartbeats 4000000 in
theorem c_X12_tower {l : Launch} {ad : Nat → Nat} {ca : FieldType → ClassId} {D : va_G} {sa sv : Nat → Nat}  : zC l yX12_tower cX12_tower 6 (some .int) 7 layM ad ca D (xtM ad sa sv) [.ref (ad 0)] zvi (p_X12_tower) := by
  refine z_enter (by decide) (Nat.le_of_ble_eq_true rfl) (fun E hE hl0 hcD hr => ?_)
  have hE : zok layM ad (xtM ad sa sv) E cX12_tower 6 RX12 7 := hE
  show Z layM ad E 6 (zFin layM ad E zvi) 0 [(0, .ref (ad 0))] [] (p_X12_tower)
  unfold p_X12_tower
  refine z_aload_n (pc := 0) hE 0 0 rfl rfl dX12_tower_0 ?_
  refine z_iconst (pc := 1) hE dX12_tower_1 qM_iconst_0 ?_
  refine z_puti (pc := 2) hE fk_RX12_117 lM_0 rfl dX12_tower_2 ?_
  refine z_aload_n (pc := 5) hE 0 0 rfl rfl dX12_tower_5 ?_
  refine z_bipush (pc := 6) hE dX12_tower_6 qM_bipush_23 ?_
  refine z_callVi (pc := 8) (st := []) [.int ((23 : Int32))] hE kk_RX12_194 (c_X12_begins ((23 : Int32))) lM_0 rfl rfl rfl (Nat.le_of_ble_eq_true rfl) (by decide) dX12_tower_8 (fun x1 => ?_)
  refine z_istore_n (L' := [(1, .int x1), (0, .ref (ad 0))]) (pc := 11) hE 1 rfl (by decide) rfl dX12_tower_11 ?_
  refine z_aload_n (pc := 12) hE 1 0 rfl rfl dX12_tower_12 ?_
  refine z_iconst (pc := 13) hE dX12_tower_13 qM_iconst_0 ?_
  refine z_puti (pc := 14) hE fk_RX12_182 lM_0 rfl dX12_tower_14 ?_
  refine z_iconst (pc := 17) hE dX12_tower_17 qM_iconst_1 ?_
  refine z_istore_n (L' := [(2, .int ((1 : Int32))), (1, .int x1), (0, .ref (ad 0))]) (pc := 18) hE 2 rfl (by decide) rfl dX12_tower_18 ?_
  refine z_iload_n (pc := 19) hE 1 1 rfl rfl dX12_tower_19 ?_
  refine z_join (Y := Int32) (pcJ := 28) (Lj := fun y2 => [(0, .ref (ad 0)), (1, .int x1), (2, .int ((1 : Int32)))]) (sj := fun y2 => [.int y2]) (fun y2 => ?_) (fun j3 hj3 => ?_)
  · refine z_istore_n (L' := [(3, .int y2), (0, .ref (ad 0)), (1, .int x1), (2, .int ((1 : Int32)))]) (pc := 28) hE 3 rfl (by decide) rfl dX12_tower_28 ?_
    refine z_sub (L' := [(0, .ref (ad 0)), (1, .int x1), (2, .int ((1 : Int32))), (3, .int y2)]) [1, 2, 3, 0] rfl ?_
    refine z_loop (V := (Int32 × Int32)) (X := Int32) (hd := 29) (ex := 60) (Lh := fun v4 => [(0, .ref (ad 0)), (1, .int x1), (2, .int v4.1), (3, .int v4.2)]) (Lx := fun e7 => [(0, .ref (ad 0)), (1, .int x1), (2, .int e7)]) (fun rc6 k5 hrc6 hk5 v4 => ?_) zNF ((1 : Int32), y2) _ (fun e7 => ?_)
    · unfold p_X12_tower_b29
      refine z_iload_n (pc := 29) hE 3 3 rfl rfl dX12_tower_29 ?_
      refine z_if_eq (pc := 30) hE 60 rfl dX12_tower_30 ?_ ?_
      · exact z_sub [0, 1, 2] rfl (hk5 v4.1)
      · refine z_aload_n (pc := 33) hE 0 0 rfl rfl dX12_tower_33 ?_
        refine z_callVi (pc := 34) (st := []) [] hE kk_RX12_197 (c_X12_readsRing) lM_0 rfl rfl rfl (Nat.le_of_ble_eq_true rfl) (by decide) dX12_tower_34 (fun x8 => ?_)
        refine z_istore_n (L' := [(2, .int x8), (0, .ref (ad 0)), (1, .int x1), (3, .int v4.2)]) (pc := 37) hE 2 rfl (by decide) rfl dX12_tower_37 ?_
        refine z_iload_n (pc := 38) hE 0 2 rfl rfl dX12_tower_38 ?_
        refine z_join (Y := Int32) (pcJ := 56) (Lj := fun y9 => [(0, .ref (ad 0)), (1, .int x1), (2, .int x8)]) (sj := fun y9 => [.int y9]) (fun y9 => ?_) (fun j10 hj10 => ?_)
        · refine z_istore_n (L' := [(3, .int y9), (0, .ref (ad 0)), (1, .int x1), (2, .int x8)]) (pc := 56) hE 3 rfl (by decide) rfl dX12_tower_56 ?_
          refine z_goto (pc := 57) hE 29 rfl dX12_tower_57 ?_
          exact z_sub [1, 2, 3, 0] rfl (hrc6 (x8, y9))
        refine z_join (Y := Unit) (pcJ := 55) (Lj := fun y11 => [(0, .ref (ad 0)), (1, .int x1), (2, .int x8)]) (sj := fun y11 => []) (fun y11 => ?_) (fun j12 hj12 => ?_)
        · refine z_iconst (pc := 55) hE dX12_tower_55 qM_iconst_0 ?_
          exact z_sub [0, 1, 2] rfl (hj10 ((0 : Int32)))
        refine z_if_eq (pc := 39) hE 55 rfl dX12_tower_39 ?_ ?_
        · exact z_sub [1, 2, 0] rfl (hj12 ())
        · refine z_aload_n (pc := 42) hE 1 0 rfl rfl dX12_tower_42 ?_
          refine z_bipush (pc := 43) hE dX12_tower_43 qM_bipush_59 ?_
          refine z_callVi (pc := 45) (st := []) [.int ((59 : Int32))] hE kk_RX12_200 (c_X12_takes ((59 : Int32))) lM_0 rfl rfl rfl (Nat.le_of_ble_eq_true rfl) (by decide) dX12_tower_45 (fun x13 => ?_)
          refine z_if_eq (pc := 48) hE 55 rfl dX12_tower_48 ?_ ?_
          · exact z_sub [1, 2, 0] rfl (hj12 ())
          · refine z_iconst (pc := 51) hE dX12_tower_51 qM_iconst_1 ?_
            refine z_goto (pc := 52) hE 56 rfl dX12_tower_52 ?_
            exact z_sub [1, 2, 0] rfl (hj10 ((1 : Int32)))
    · refine z_aload_n (pc := 60) hE 0 0 rfl rfl dX12_tower_60 ?_
      refine z_iload_n (pc := 61) hE 1 1 rfl rfl dX12_tower_61 ?_
      refine z_bipush (pc := 62) hE dX12_tower_62 qM_bipush_23 ?_
      refine z_iload_n (pc := 64) hE 2 2 rfl rfl dX12_tower_64 ?_
      refine z_callVi (pc := 65) (st := []) [.int x1, .int ((23 : Int32)), .int e7] hE kk_RX12_204 (c_X12_faultOf x1 ((23 : Int32)) e7) lM_0 rfl rfl rfl (Nat.le_of_ble_eq_true rfl) (by decide) dX12_tower_65 (fun x14 => ?_)
      refine z_istore (L' := [(4, .int x14), (0, .ref (ad 0)), (1, .int x1), (2, .int e7)]) (pc := 68) hE (by decide) rfl dX12_tower_68 ?_
      refine z_iload (pc := 70) hE 0 rfl dX12_tower_70 ?_
      refine z_if_ge (pc := 72) hE 78 rfl dX12_tower_72 ?_ ?_
      · refine z_aload_n (pc := 78) hE 1 0 rfl rfl dX12_tower_78 ?_
        refine z_aload_n (pc := 79) hE 1 0 rfl rfl dX12_tower_79 ?_
        refine z_geti (pc := 80) hE fk_RX12_182 lM_0 rfl dX12_tower_80 (fun x15 => ?_)
        refine z_puti (pc := 83) hE fk_RX12_128 lM_0 rfl dX12_tower_83 ?_
        refine z_iconst (pc := 86) hE dX12_tower_86 qM_iconst_0 ?_
        refine z_istore (L' := [(5, .int ((0 : Int32))), (4, .int x14), (0, .ref (ad 0)), (1, .int x1), (2, .int e7)]) (pc := 87) hE (by decide) rfl dX12_tower_87 ?_
        refine z_sub (L' := [(0, .ref (ad 0)), (5, .int ((0 : Int32)))]) [2, 0] rfl ?_
        refine z_loop (V := Int32) (X := Unit) (hd := 89) (ex := 138) (Lh := fun v16 => [(0, .ref (ad 0)), (5, .int v16)]) (Lx := fun e19 => [(0, .ref (ad 0))]) (fun rc18 k17 hrc18 hk17 v16 => ?_) zNF ((0 : Int32)) _ (fun e19 => ?_)
        · unfold p_X12_tower_b89
          refine z_iload (pc := 89) hE 1 rfl dX12_tower_89 ?_
          refine z_aload_n (pc := 91) hE 0 0 rfl rfl dX12_tower_91 ?_
          refine z_geti (pc := 92) hE fk_RX12_128 lM_0 rfl dX12_tower_92 (fun x20 => ?_)
          refine z_icmp_ge (pc := 95) hE 138 rfl dX12_tower_95 ?_ ?_
          · exact z_sub [0] rfl (hk17 ())
          · refine z_aload_n (pc := 98) hE 0 0 rfl rfl dX12_tower_98 ?_
            refine z_getr (pc := 99) hE fk_RX12_13 lM_0 rfl dX12_tower_99 ?_
            refine z_iload (pc := 102) hE 1 rfl dX12_tower_102 ?_
            refine z_aload_n (pc := 104) hE 0 0 rfl rfl dX12_tower_104 ?_
            refine z_getr (pc := 105) hE fk_RX12_41 lM_0 rfl dX12_tower_105 ?_
            refine z_iconst (pc := 108) hE dX12_tower_108 qM_iconst_2 ?_
            refine z_iload (pc := 109) hE 1 rfl dX12_tower_109 ?_
            refine z_imul (pc := 111) hE dX12_tower_111 ?_
            refine z_iald (pc := 112) hE lM_11 dX12_tower_112 (fun x21 => ?_)
            refine z_iast (pc := 113) hE lM_2 dX12_tower_113 ?_
            refine z_aload_n (pc := 114) hE 0 0 rfl rfl dX12_tower_114 ?_
            refine z_getr (pc := 115) hE fk_RX12_17 lM_0 rfl dX12_tower_115 ?_
            refine z_iload (pc := 118) hE 1 rfl dX12_tower_118 ?_
            refine z_aload_n (pc := 120) hE 0 0 rfl rfl dX12_tower_120 ?_
            refine z_getr (pc := 121) hE fk_RX12_41 lM_0 rfl dX12_tower_121 ?_
            refine z_iconst (pc := 124) hE dX12_tower_124 qM_iconst_2 ?_
            refine z_iload (pc := 125) hE 1 rfl dX12_tower_125 ?_
            refine z_imul (pc := 127) hE dX12_tower_127 ?_
            refine z_iconst (pc := 128) hE dX12_tower_128 qM_iconst_1 ?_
            refine z_iadd (pc := 129) hE dX12_tower_129 ?_
            refine z_iald (pc := 130) hE lM_11 dX12_tower_130 (fun x22 => ?_)
            refine z_iast (pc := 131) hE lM_3 dX12_tower_131 ?_
            refine z_iinc (L' := [(5, .int (v16 + (1 : Int32))), (0, .ref (ad 0))]) (pc := 132) hE 1 rfl (zinc qM_iconst_1) (by decide) rfl dX12_tower_132 ?_
            refine z_goto (pc := 135) hE 89 rfl dX12_tower_135 ?_
            exact z_sub [1, 0] rfl (hrc18 (v16 + (1 : Int32)))
        · refine z_aload_n (pc := 138) hE 0 0 rfl rfl dX12_tower_138 ?_
          refine z_iconst (pc := 139) hE dX12_tower_139 qM_iconst_0 ?_
          refine z_puti (pc := 140) hE fk_RX12_135 lM_0 rfl dX12_tower_140 ?_
          refine z_aload_n (pc := 143) hE 0 0 rfl rfl dX12_tower_143 ?_
          refine z_getr (pc := 144) hE fk_RX12_32 lM_0 rfl dX12_tower_144 ?_
          refine z_bipush (pc := 147) hE dX12_tower_147 qM_bipush_42 ?_
          refine z_iconst (pc := 149) hE dX12_tower_149 qM_iconst_0 ?_
          refine z_iast (pc := 150) hE lM_8 dX12_tower_150 ?_
          refine z_aload_n (pc := 151) hE 0 0 rfl rfl dX12_tower_151 ?_
          refine z_iconst (pc := 152) hE dX12_tower_152 qM_iconst_0 ?_
          refine z_puti (pc := 153) hE fk_RX12_208 lM_0 rfl dX12_tower_153 ?_
          refine z_aload_n (pc := 156) hE 0 0 rfl rfl dX12_tower_156 ?_
          refine z_iconst (pc := 157) hE dX12_tower_157 qM_iconst_0 ?_
          refine z_puti (pc := 158) hE fk_RX12_211 lM_0 rfl dX12_tower_158 ?_
          refine z_aload_n (pc := 161) hE 0 0 rfl rfl dX12_tower_161 ?_
          refine z_dup (pc := 162) hE dX12_tower_162 rfl ?_
          refine z_geti (pc := 163) hE fk_RX12_214 lM_0 rfl dX12_tower_163 (fun x23 => ?_)
          refine z_iconst (pc := 166) hE dX12_tower_166 qM_iconst_1 ?_
          refine z_iadd (pc := 167) hE dX12_tower_167 ?_
          refine z_puti (pc := 168) hE fk_RX12_214 lM_0 rfl dX12_tower_168 ?_
          refine z_aload_n (pc := 171) hE 0 0 rfl rfl dX12_tower_171 ?_
          refine z_geti (pc := 172) hE fk_RX12_128 lM_0 rfl dX12_tower_172 (fun x24 => ?_)
          exact z_ireturn (pc := 175) hE hr dX12_tower_175
      · refine z_iload (pc := 75) hE 0 rfl dX12_tower_75 ?_
        exact z_ireturn (pc := 77) hE hr dX12_tower_77
  refine z_if_le (pc := 20) hE 27 rfl dX12_tower_20 ?_ ?_
  · refine z_iconst (pc := 27) hE dX12_tower_27 qM_iconst_0 ?_
    exact z_sub [2, 1, 0] rfl (hj3 ((0 : Int32)))
  · refine z_iconst (pc := 23) hE dX12_tower_23 qM_iconst_1 ?_
    refine z_goto (pc := 24) hE 28 rfl dX12_tower_24 ?_
    exact z_sub [2, 1, 0] rfl (hj3 ((1 : Int32)))
set_option maxRecDepth 100000 in
set_option maxHeartbeats 4000000 in
theorem c_X12_readsBalloon {l : Launch} {ad : Nat → Nat} {ca : FieldType → ClassId} {D : va_G} {sa sv : Nat → Nat}  : zC l yX12_readsBalloon cX12_readsBalloon 2 (some .boolean) 6 layM ad ca D (xtM ad sa sv) [.ref (ad 0)] zvi (p_X12_readsBalloon) := by
  refine z_enter (by decide) (Nat.le_of_ble_eq_true rfl) (fun E hE hl0 hcD hr => ?_)
  have hE : zok layM ad (xtM ad sa sv) E cX12_readsBalloon 2 RX12 6 := hE
  show Z layM ad E 2 (zFin layM ad E zvi) 0 [(0, .ref (ad 0))] [] (p_X12_readsBalloon)
  unfold p_X12_readsBalloon
  refine z_aload_n (pc := 0) hE 0 0 rfl rfl dX12_readsBalloon_0 ?_
  refine z_geti (pc := 1) hE fk_RX12_135 lM_0 rfl dX12_readsBalloon_1 (fun x1 => ?_)
  refine z_aload_n (pc := 4) hE 0 0 rfl rfl dX12_readsBalloon_4 ?_
  refine z_geti (pc := 5) hE fk_RX12_182 lM_0 rfl dX12_readsBalloon_5 (fun x2 => ?_)
  refine z_iadd (pc := 8) hE dX12_readsBalloon_8 ?_
  refine z_bipush (pc := 9) hE dX12_readsBalloon_9 qM_bipush_6 ?_
  refine z_icmp_ne (pc := 11) hE 16 rfl dX12_readsBalloon_11 ?_ ?_
  · refine z_iconst (pc := 16) hE dX12_readsBalloon_16 qM_iconst_5 ?_
    refine z_aload_n (pc := 17) hE 0 0 rfl rfl dX12_readsBalloon_17 ?_
    refine z_geti (pc := 18) hE fk_RX12_182 lM_0 rfl dX12_readsBalloon_18 (fun x3 => ?_)
    refine z_imul (pc := 21) hE dX12_readsBalloon_21 ?_
    refine z_istore_n (L' := [(1, .int (((5 : Int32)) * x3)), (0, .ref (ad 0))]) (pc := 22) hE 1 rfl (by decide) rfl dX12_readsBalloon_22 ?_
    refine z_aload_n (pc := 23) hE 1 0 rfl rfl dX12_readsBalloon_23 ?_
    refine z_getr (pc := 24) hE fk_RX12_41 lM_0 rfl dX12_readsBalloon_24 ?_
    refine z_iload_n (pc := 27) hE 0 1 rfl rfl dX12_readsBalloon_27 ?_
    refine z_aload_n (pc := 28) hE 1 0 rfl rfl dX12_readsBalloon_28 ?_
    refine z_iconst (pc := 29) hE dX12_readsBalloon_29 qM_iconst_2 ?_
    refine z_callVi (pc := 30) (st := [.int (((5 : Int32)) * x3), .ref (ad 11)]) [.int ((2 : Int32))] hE kk_RX12_185 (c_X12_number ((2 : Int32))) lM_0 rfl rfl rfl (Nat.le_of_ble_eq_true rfl) (by decide) dX12_readsBalloon_30 (fun x4 => ?_)
    refine z_iast (pc := 33) hE lM_11 dX12_readsBalloon_33 ?_
    refine z_aload_n (pc := 34) hE 1 0 rfl rfl dX12_readsBalloon_34 ?_
    refine z_getr (pc := 35) hE fk_RX12_41 lM_0 rfl dX12_readsBalloon_35 ?_
    refine z_iload_n (pc := 38) hE 0 1 rfl rfl dX12_readsBalloon_38 ?_
    refine z_iald (pc := 39) hE lM_11 dX12_readsBalloon_39 (fun x5 => ?_)
    refine z_if_lt (pc := 40) hE 52 rfl dX12_readsBalloon_40 ?_ ?_
    · refine z_iconst (pc := 52) hE dX12_readsBalloon_52 qM_iconst_0 ?_
      exact z_zreturn (pc := 53) hE hr dX12_readsBalloon_53
    · refine z_aload_n (pc := 43) hE 1 0 rfl rfl dX12_readsBalloon_43 ?_
      refine z_bipush (pc := 44) hE dX12_readsBalloon_44 qM_bipush_44 ?_
      refine z_callVi (pc := 46) (st := []) [.int ((44 : Int32))] hE kk_RX12_200 (c_X12_takes ((44 : Int32))) lM_0 rfl rfl rfl (Nat.le_of_ble_eq_true rfl) (by decide) dX12_readsBalloon_46 (fun x6 => ?_)
      refine z_if_ne (pc := 49) hE 54 rfl dX12_readsBalloon_49 ?_ ?_
      · refine z_aload_n (pc := 54) hE 1 0 rfl rfl dX12_readsBalloon_54 ?_
        refine z_getr (pc := 55) hE fk_RX12_41 lM_0 rfl dX12_readsBalloon_55 ?_
        refine z_iload_n (pc := 58) hE 0 1 rfl rfl dX12_readsBalloon_58 ?_
        refine z_iconst (pc := 59) hE dX12_readsBalloon_59 qM_iconst_1 ?_
        refine z_iadd (pc := 60) hE dX12_readsBalloon_60 ?_
        refine z_aload_n (pc := 61) hE 1 0 rfl rfl dX12_readsBalloon_61 ?_
        refine z_iconst (pc := 62) hE dX12_readsBalloon_62 qM_iconst_1 ?_
        refine z_callVi (pc := 63) (st := [.int ((((5 : Int32)) * x3) + ((1 : Int32))), .ref (ad 11)]) [.int ((1 : Int32))] hE kk_RX12_185 (c_X12_number ((1 : Int32))) lM_0 rfl rfl rfl (Nat.le_of_ble_eq_true rfl) (by decide) dX12_readsBalloon_63 (fun x7 => ?_)
        refine z_iast (pc := 66) hE lM_11 dX12_readsBalloon_66 ?_
        refine z_aload_n (pc := 67) hE 1 0 rfl rfl dX12_readsBalloon_67 ?_
        refine z_getr (pc := 68) hE fk_RX12_41 lM_0 rfl dX12_readsBalloon_68 ?_
        refine z_iload_n (pc := 71) hE 0 1 rfl rfl dX12_readsBalloon_71 ?_
        refine z_iconst (pc := 72) hE dX12_readsBalloon_72 qM_iconst_2 ?_
        refine z_iadd (pc := 73) hE dX12_readsBalloon_73 ?_
        refine z_aload_n (pc := 74) hE 1 0 rfl rfl dX12_readsBalloon_74 ?_
        refine z_getr (pc := 75) hE fk_RX12_41 lM_0 rfl dX12_readsBalloon_75 ?_
        refine z_iload_n (pc := 78) hE 0 1 rfl rfl dX12_readsBalloon_78 ?_
        refine z_iconst (pc := 79) hE dX12_readsBalloon_79 qM_iconst_1 ?_
        refine z_iadd (pc := 80) hE dX12_readsBalloon_80 ?_
        refine z_iald (pc := 81) hE lM_11 dX12_readsBalloon_81 (fun x8 => ?_)
        refine z_join (Y := Int32) (pcJ := 94) (Lj := fun y9 => [(0, .ref (ad 0)), (1, .int (((5 : Int32)) * x3))]) (sj := fun y9 => [.int y9, .int ((((5 : Int32)) * x3) + ((2 : Int32))), .ref (ad 11)]) (fun y9 => ?_) (fun j10 hj10 => ?_)
        · refine z_iast (pc := 94) hE lM_11 dX12_readsBalloon_94 ?_
          refine z_aload_n (pc := 95) hE 0 0 rfl rfl dX12_readsBalloon_95 ?_
          refine z_getr (pc := 96) hE fk_RX12_41 lM_0 rfl dX12_readsBalloon_96 ?_
          refine z_iload_n (pc := 99) hE 1 1 rfl rfl dX12_readsBalloon_99 ?_
          refine z_iconst (pc := 100) hE dX12_readsBalloon_100 qM_iconst_3 ?_
          refine z_iadd (pc := 101) hE dX12_readsBalloon_101 ?_
          refine z_aload_n (pc := 102) hE 0 0 rfl rfl dX12_readsBalloon_102 ?_
          refine z_getr (pc := 103) hE fk_RX12_41 lM_0 rfl dX12_readsBalloon_103 ?_
          refine z_iload_n (pc := 106) hE 1 1 rfl rfl dX12_readsBalloon_106 ?_
          refine z_iconst (pc := 107) hE dX12_readsBalloon_107 qM_iconst_2 ?_
          refine z_iadd (pc := 108) hE dX12_readsBalloon_108 ?_
          refine z_iald (pc := 109) hE lM_11 dX12_readsBalloon_109 (fun x11 => ?_)
          refine z_join (Y := Int32) (pcJ := 125) (Lj := fun y12 => [(0, .ref (ad 0)), (1, .int (((5 : Int32)) * x3))]) (sj := fun y12 => [.int y12, .int ((((5 : Int32)) * x3) + ((3 : Int32))), .ref (ad 11)]) (fun y12 => ?_) (fun j13 hj13 => ?_)
          · refine z_iast (pc := 125) hE lM_11 dX12_readsBalloon_125 ?_
            refine z_aload_n (pc := 126) hE 0 0 rfl rfl dX12_readsBalloon_126 ?_
            refine z_getr (pc := 127) hE fk_RX12_41 lM_0 rfl dX12_readsBalloon_127 ?_
            refine z_iload_n (pc := 130) hE 1 1 rfl rfl dX12_readsBalloon_130 ?_
            refine z_iconst (pc := 131) hE dX12_readsBalloon_131 qM_iconst_4 ?_
            refine z_iadd (pc := 132) hE dX12_readsBalloon_132 ?_
            refine z_aload_n (pc := 133) hE 0 0 rfl rfl dX12_readsBalloon_133 ?_
            refine z_getr (pc := 134) hE fk_RX12_41 lM_0 rfl dX12_readsBalloon_134 ?_
            refine z_iload_n (pc := 137) hE 1 1 rfl rfl dX12_readsBalloon_137 ?_
            refine z_iconst (pc := 138) hE dX12_readsBalloon_138 qM_iconst_3 ?_
            refine z_iadd (pc := 139) hE dX12_readsBalloon_139 ?_
            refine z_iald (pc := 140) hE lM_11 dX12_readsBalloon_140 (fun x14 => ?_)
            refine z_iconst (pc := 141) hE dX12_readsBalloon_141 qM_iconst_1 ?_
            refine z_join (Y := Int32) (pcJ := 154) (Lj := fun y15 => [(0, .ref (ad 0)), (1, .int (((5 : Int32)) * x3))]) (sj := fun y15 => [.int y15, .int ((((5 : Int32)) * x3) + ((4 : Int32))), .ref (ad 11)]) (fun y15 => ?_) (fun j16 hj16 => ?_)
            · refine z_iast (pc := 154) hE lM_11 dX12_readsBalloon_154 ?_
              refine z_aload_n (pc := 155) hE 0 0 rfl rfl dX12_readsBalloon_155 ?_
              refine z_dup (pc := 156) hE dX12_readsBalloon_156 rfl ?_
              refine z_geti (pc := 157) hE fk_RX12_182 lM_0 rfl dX12_readsBalloon_157 (fun x17 => ?_)
              refine z_iconst (pc := 160) hE dX12_readsBalloon_160 qM_iconst_1 ?_
              refine z_iadd (pc := 161) hE dX12_readsBalloon_161 ?_
              refine z_puti (pc := 162) hE fk_RX12_182 lM_0 rfl dX12_readsBalloon_162 ?_
              refine z_aload_n (pc := 165) hE 0 0 rfl rfl dX12_readsBalloon_165 ?_
              refine z_getr (pc := 166) hE fk_RX12_41 lM_0 rfl dX12_readsBalloon_166 ?_
              refine z_iload_n (pc := 169) hE 1 1 rfl rfl dX12_readsBalloon_169 ?_
              refine z_iconst (pc := 170) hE dX12_readsBalloon_170 qM_iconst_4 ?_
              refine z_iadd (pc := 171) hE dX12_readsBalloon_171 ?_
              refine z_iald (pc := 172) hE lM_11 dX12_readsBalloon_172 (fun x18 => ?_)
              refine z_if_lt (pc := 173) hE 180 rfl dX12_readsBalloon_173 ?_ ?_
              · refine z_iconst (pc := 180) hE dX12_readsBalloon_180 qM_iconst_0 ?_
                exact z_zreturn (pc := 181) hE hr dX12_readsBalloon_181
              · refine z_iconst (pc := 176) hE dX12_readsBalloon_176 qM_iconst_1 ?_
                refine z_goto (pc := 177) hE 181 rfl dX12_readsBalloon_177 ?_
                exact z_zreturn (pc := 181) hE hr dX12_readsBalloon_181
            refine z_icmp_ge (pc := 142) hE 149 rfl dX12_readsBalloon_142 ?_ ?_
            · refine z_aload_n (pc := 149) hE 0 0 rfl rfl dX12_readsBalloon_149 ?_
              refine z_iconst (pc := 150) hE dX12_readsBalloon_150 qM_iconst_1 ?_
              refine z_callVi (pc := 151) (st := [.int ((((5 : Int32)) * x3) + ((4 : Int32))), .ref (ad 11)]) [.int ((1 : Int32))] hE kk_RX12_185 (c_X12_number ((1 : Int32))) lM_0 rfl rfl rfl (Nat.le_of_ble_eq_true rfl) (by decide) dX12_readsBalloon_151 (fun x19 => ?_)
              exact z_sub [0, 1] rfl (hj16 x19)
            · refine z_iconst (pc := 145) hE dX12_readsBalloon_145 qM_iconst_m1 ?_
              refine z_goto (pc := 146) hE 154 rfl dX12_readsBalloon_146 ?_
              exact z_sub [0, 1] rfl (hj16 ((-1 : Int32)))
          refine z_if_ge (pc := 110) hE 117 rfl dX12_readsBalloon_110 ?_ ?_
          · refine z_iconst (pc := 117) hE dX12_readsBalloon_117 qM_iconst_1 ?_
            refine z_aload_n (pc := 118) hE 0 0 rfl rfl dX12_readsBalloon_118 ?_
            refine z_ldcs (pc := 119) hE (sR_217) dX12_readsBalloon_119 ?_
            refine z_callVi (pc := 121) (st := [.int ((1 : Int32)), .int ((((5 : Int32)) * x3) + ((3 : Int32))), .ref (ad 11)]) [.ref (sa 4)] hE kk_RX12_191 (c_X12_takesOf 4 (by decide)) lM_0 rfl rfl rfl (Nat.le_of_ble_eq_true rfl) (by decide) dX12_readsBalloon_121 (fun x20 => ?_)
            refine z_iadd (pc := 124) hE dX12_readsBalloon_124 ?_
            exact z_sub [0, 1] rfl (hj13 (((1 : Int32)) + x20))
          · refine z_iconst (pc := 113) hE dX12_readsBalloon_113 qM_iconst_0 ?_
            refine z_goto (pc := 114) hE 125 rfl dX12_readsBalloon_114 ?_
            exact z_sub [0, 1] rfl (hj13 ((0 : Int32)))
        refine z_if_ge (pc := 82) hE 89 rfl dX12_readsBalloon_82 ?_ ?_
        · refine z_aload_n (pc := 89) hE 1 0 rfl rfl dX12_readsBalloon_89 ?_
          refine z_iconst (pc := 90) hE dX12_readsBalloon_90 qM_iconst_1 ?_
          refine z_callVi (pc := 91) (st := [.int ((((5 : Int32)) * x3) + ((2 : Int32))), .ref (ad 11)]) [.int ((1 : Int32))] hE kk_RX12_185 (c_X12_number ((1 : Int32))) lM_0 rfl rfl rfl (Nat.le_of_ble_eq_true rfl) (by decide) dX12_readsBalloon_91 (fun x21 => ?_)
          exact z_sub [1, 0] rfl (hj10 x21)
        · refine z_iconst (pc := 85) hE dX12_readsBalloon_85 qM_iconst_m1 ?_
          refine z_goto (pc := 86) hE 94 rfl dX12_readsBalloon_86 ?_
          exact z_sub [1, 0] rfl (hj10 ((-1 : Int32)))
      · refine z_iconst (pc := 52) hE dX12_readsBalloon_52 qM_iconst_0 ?_
        exact z_zreturn (pc := 53) hE hr dX12_readsBalloon_53
  · refine z_iconst (pc := 14) hE dX12_readsBalloon_14 qM_iconst_0 ?_
    exact z_zreturn (pc := 15) hE hr dX12_readsBalloon_15
set_option maxRecDepth 100000 in
set_option maxHeartbeats 4000000 in
theorem c_X12_balloons {l : Launch} {ad : Nat → Nat} {ca : FieldType → ClassId} {D : va_G} {sa sv : Nat → Nat}  : zC l yX12_balloons cX12_balloons 7 (some .int) 7 layM ad ca D (xtM ad sa sv) [.ref (ad 0)] zvi (p_X12_balloons) := by
  refine z_enter (by decide) (Nat.le_of_ble_eq_true rfl) (fun E hE hl0 hcD hr => ?_)
  have hE : zok layM ad (xtM ad sa sv) E cX12_balloons 7 RX12 7 := hE
  show Z layM ad E 7 (zFin layM ad E zvi) 0 [(0, .ref (ad 0))] [] (p_X12_balloons)
  unfold p_X12_balloons
  refine z_aload_n (pc := 0) hE 0 0 rfl rfl dX12_balloons_0 ?_
  refine z_iconst (pc := 1) hE dX12_balloons_1 qM_iconst_0 ?_
  refine z_puti (pc := 2) hE fk_RX12_117 lM_0 rfl dX12_balloons_2 ?_
  refine z_aload_n (pc := 5) hE 0 0 rfl rfl dX12_balloons_5 ?_
  refine z_bipush (pc := 6) hE dX12_balloons_6 qM_bipush_47 ?_
  refine z_callVi (pc := 8) (st := []) [.int ((47 : Int32))] hE kk_RX12_194 (c_X12_begins ((47 : Int32))) lM_0 rfl rfl rfl (Nat.le_of_ble_eq_true rfl) (by decide) dX12_balloons_8 (fun x1 => ?_)
  refine z_istore_n (L' := [(1, .int x1), (0, .ref (ad 0))]) (pc := 11) hE 1 rfl (by decide) rfl dX12_balloons_11 ?_
  refine z_aload_n (pc := 12) hE 1 0 rfl rfl dX12_balloons_12 ?_
  refine z_iconst (pc := 13) hE dX12_balloons_13 qM_iconst_0 ?_
  refine z_puti (pc := 14) hE fk_RX12_182 lM_0 rfl dX12_balloons_14 ?_
  refine z_iconst (pc := 17) hE dX12_balloons_17 qM_iconst_1 ?_
  refine z_istore_n (L' := [(2, .int ((1 : Int32))), (1, .int x1), (0, .ref (ad 0))]) (pc := 18) hE 2 rfl (by decide) rfl dX12_balloons_18 ?_
  refine z_iload_n (pc := 19) hE 1 1 rfl rfl dX12_balloons_19 ?_
  refine z_join (Y := Int32) (pcJ := 28) (Lj := fun y2 => [(0, .ref (ad 0)), (1, .int x1), (2, .int ((1 : Int32)))]) (sj := fun y2 => [.int y2]) (fun y2 => ?_) (fun j3 hj3 => ?_)
  · refine z_istore_n (L' := [(3, .int y2), (0, .ref (ad 0)), (1, .int x1), (2, .int ((1 : Int32)))]) (pc := 28) hE 3 rfl (by decide) rfl dX12_balloons_28 ?_
    refine z_sub (L' := [(0, .ref (ad 0)), (1, .int x1), (2, .int ((1 : Int32))), (3, .int y2)]) [1, 2, 3, 0] rfl ?_
    refine z_loop (V := (Int32 × Int32)) (X := Int32) (hd := 29) (ex := 60) (Lh := fun v4 => [(0, .ref (ad 0)), (1, .int x1), (2, .int v4.1), (3, .int v4.2)]) (Lx := fun e7 => [(0, .ref (ad 0)), (1, .int x1), (2, .int e7)]) (fun rc6 k5 hrc6 hk5 v4 => ?_) zNF ((1 : Int32), y2) _ (fun e7 => ?_)
    · unfold p_X12_balloons_b29
      refine z_iload_n (pc := 29) hE 3 3 rfl rfl dX12_balloons_29 ?_
      refine z_if_eq (pc := 30) hE 60 rfl dX12_balloons_30 ?_ ?_
      · exact z_sub [0, 1, 2] rfl (hk5 v4.1)
      · refine z_aload_n (pc := 33) hE 0 0 rfl rfl dX12_balloons_33 ?_
        refine z_callVi (pc := 34) (st := []) [] hE kk_RX12_219 (c_X12_readsBalloon) lM_0 rfl rfl rfl (Nat.le_of_ble_eq_true rfl) (by decide) dX12_balloons_34 (fun x8 => ?_)
        refine z_istore_n (L' := [(2, .int x8), (0, .ref (ad 0)), (1, .int x1), (3, .int v4.2)]) (pc := 37) hE 2 rfl (by decide) rfl dX12_balloons_37 ?_
        refine z_iload_n (pc := 38) hE 0 2 rfl rfl dX12_balloons_38 ?_
        refine z_join (Y := Int32) (pcJ := 56) (Lj := fun y9 => [(0, .ref (ad 0)), (1, .int x1), (2, .int x8)]) (sj := fun y9 => [.int y9]) (fun y9 => ?_) (fun j10 hj10 => ?_)
        · refine z_istore_n (L' := [(3, .int y9), (0, .ref (ad 0)), (1, .int x1), (2, .int x8)]) (pc := 56) hE 3 rfl (by decide) rfl dX12_balloons_56 ?_
          refine z_goto (pc := 57) hE 29 rfl dX12_balloons_57 ?_
          exact z_sub [1, 2, 3, 0] rfl (hrc6 (x8, y9))
        refine z_join (Y := Unit) (pcJ := 55) (Lj := fun y11 => [(0, .ref (ad 0)), (1, .int x1), (2, .int x8)]) (sj := fun y11 => []) (fun y11 => ?_) (fun j12 hj12 => ?_)
        · refine z_iconst (pc := 55) hE dX12_balloons_55 qM_iconst_0 ?_
          exact z_sub [0, 1, 2] rfl (hj10 ((0 : Int32)))
        refine z_if_eq (pc := 39) hE 55 rfl dX12_balloons_39 ?_ ?_
        · exact z_sub [1, 2, 0] rfl (hj12 ())
        · refine z_aload_n (pc := 42) hE 1 0 rfl rfl dX12_balloons_42 ?_
          refine z_bipush (pc := 43) hE dX12_balloons_43 qM_bipush_59 ?_
          refine z_callVi (pc := 45) (st := []) [.int ((59 : Int32))] hE kk_RX12_200 (c_X12_takes ((59 : Int32))) lM_0 rfl rfl rfl (Nat.le_of_ble_eq_true rfl) (by decide) dX12_balloons_45 (fun x13 => ?_)
          refine z_if_eq (pc := 48) hE 55 rfl dX12_balloons_48 ?_ ?_
          · exact z_sub [1, 2, 0] rfl (hj12 ())
          · refine z_iconst (pc := 51) hE dX12_balloons_51 qM_iconst_1 ?_
            refine z_goto (pc := 52) hE 56 rfl dX12_balloons_52 ?_
            exact z_sub [1, 2, 0] rfl (hj10 ((1 : Int32)))
    · refine z_aload_n (pc := 60) hE 0 0 rfl rfl dX12_balloons_60 ?_
      refine z_iload_n (pc := 61) hE 1 1 rfl rfl dX12_balloons_61 ?_
      refine z_bipush (pc := 62) hE dX12_balloons_62 qM_bipush_47 ?_
      refine z_iload_n (pc := 64) hE 2 2 rfl rfl dX12_balloons_64 ?_
      refine z_callVi (pc := 65) (st := []) [.int x1, .int ((47 : Int32)), .int e7] hE kk_RX12_204 (c_X12_faultOf x1 ((47 : Int32)) e7) lM_0 rfl rfl rfl (Nat.le_of_ble_eq_true rfl) (by decide) dX12_balloons_65 (fun x14 => ?_)
      refine z_istore (L' := [(4, .int x14), (0, .ref (ad 0)), (1, .int x1), (2, .int e7)]) (pc := 68) hE (by decide) rfl dX12_balloons_68 ?_
      refine z_iload (pc := 70) hE 0 rfl dX12_balloons_70 ?_
      refine z_if_ge (pc := 72) hE 78 rfl dX12_balloons_72 ?_ ?_
      · refine z_iconst (pc := 78) hE dX12_balloons_78 qM_iconst_0 ?_
        refine z_istore (L' := [(5, .int ((0 : Int32))), (4, .int x14), (0, .ref (ad 0)), (1, .int x1), (2, .int e7)]) (pc := 79) hE (by decide) rfl dX12_balloons_79 ?_
        refine z_sub (L' := [(0, .ref (ad 0)), (5, .int ((0 : Int32)))]) [2, 0] rfl ?_
        refine z_loop (V := Int32) (X := Unit) (hd := 81) (ex := 241) (Lh := fun v15 => [(0, .ref (ad 0)), (5, .int v15)]) (Lx := fun e18 => [(0, .ref (ad 0))]) (fun rc17 k16 hrc17 hk16 v15 => ?_) zNF ((0 : Int32)) _ (fun e18 => ?_)
        · unfold p_X12_balloons_b81
          refine z_iload (pc := 81) hE 1 rfl dX12_balloons_81 ?_
          refine z_aload_n (pc := 83) hE 0 0 rfl rfl dX12_balloons_83 ?_
          refine z_geti (pc := 84) hE fk_RX12_182 lM_0 rfl dX12_balloons_84 (fun x19 => ?_)
          refine z_icmp_ge (pc := 87) hE 241 rfl dX12_balloons_87 ?_ ?_
          · exact z_sub [0] rfl (hk16 ())
          · refine z_aload_n (pc := 90) hE 0 0 rfl rfl dX12_balloons_90 ?_
            refine z_geti (pc := 91) hE fk_RX12_135 lM_0 rfl dX12_balloons_91 (fun x20 => ?_)
            refine z_istore (L' := [(6, .int x20), (0, .ref (ad 0)), (5, .int v15)]) (pc := 94) hE (by decide) rfl dX12_balloons_94 ?_
            refine z_aload_n (pc := 96) hE 1 0 rfl rfl dX12_balloons_96 ?_
            refine z_getr (pc := 97) hE fk_RX12_32 lM_0 rfl dX12_balloons_97 ?_
            refine z_bipush (pc := 100) hE dX12_balloons_100 qM_bipush_7 ?_
            refine z_iload (pc := 102) hE 0 rfl dX12_balloons_102 ?_
            refine z_imul (pc := 104) hE dX12_balloons_104 ?_
            refine z_iconst (pc := 105) hE dX12_balloons_105 qM_iconst_0 ?_
            refine z_iadd (pc := 106) hE dX12_balloons_106 ?_
            refine z_aload_n (pc := 107) hE 1 0 rfl rfl dX12_balloons_107 ?_
            refine z_getr (pc := 108) hE fk_RX12_41 lM_0 rfl dX12_balloons_108 ?_
            refine z_iconst (pc := 111) hE dX12_balloons_111 qM_iconst_5 ?_
            refine z_iload (pc := 112) hE 2 rfl dX12_balloons_112 ?_
            refine z_imul (pc := 114) hE dX12_balloons_114 ?_
            refine z_iald (pc := 115) hE lM_11 dX12_balloons_115 (fun x21 => ?_)
            refine z_iast (pc := 116) hE lM_8 dX12_balloons_116 ?_
            refine z_aload_n (pc := 117) hE 1 0 rfl rfl dX12_balloons_117 ?_
            refine z_getr (pc := 118) hE fk_RX12_32 lM_0 rfl dX12_balloons_118 ?_
            refine z_bipush (pc := 121) hE dX12_balloons_121 qM_bipush_7 ?_
            refine z_iload (pc := 123) hE 0 rfl dX12_balloons_123 ?_
            refine z_imul (pc := 125) hE dX12_balloons_125 ?_
            refine z_iconst (pc := 126) hE dX12_balloons_126 qM_iconst_1 ?_
            refine z_iadd (pc := 127) hE dX12_balloons_127 ?_
            refine z_aload_n (pc := 128) hE 1 0 rfl rfl dX12_balloons_128 ?_
            refine z_getr (pc := 129) hE fk_RX12_41 lM_0 rfl dX12_balloons_129 ?_
            refine z_iconst (pc := 132) hE dX12_balloons_132 qM_iconst_5 ?_
            refine z_iload (pc := 133) hE 2 rfl dX12_balloons_133 ?_
            refine z_imul (pc := 135) hE dX12_balloons_135 ?_
            refine z_iconst (pc := 136) hE dX12_balloons_136 qM_iconst_1 ?_
            refine z_iadd (pc := 137) hE dX12_balloons_137 ?_
            refine z_iald (pc := 138) hE lM_11 dX12_balloons_138 (fun x22 => ?_)
            refine z_iast (pc := 139) hE lM_8 dX12_balloons_139 ?_
            refine z_aload_n (pc := 140) hE 1 0 rfl rfl dX12_balloons_140 ?_
            refine z_getr (pc := 141) hE fk_RX12_32 lM_0 rfl dX12_balloons_141 ?_
            refine z_bipush (pc := 144) hE dX12_balloons_144 qM_bipush_7 ?_
            refine z_iload (pc := 146) hE 0 rfl dX12_balloons_146 ?_
            refine z_imul (pc := 148) hE dX12_balloons_148 ?_
            refine z_iconst (pc := 149) hE dX12_balloons_149 qM_iconst_2 ?_
            refine z_iadd (pc := 150) hE dX12_balloons_150 ?_
            refine z_aload_n (pc := 151) hE 1 0 rfl rfl dX12_balloons_151 ?_
            refine z_getr (pc := 152) hE fk_RX12_41 lM_0 rfl dX12_balloons_152 ?_
            refine z_iconst (pc := 155) hE dX12_balloons_155 qM_iconst_5 ?_
            refine z_iload (pc := 156) hE 2 rfl dX12_balloons_156 ?_
            refine z_imul (pc := 158) hE dX12_balloons_158 ?_
            refine z_iconst (pc := 159) hE dX12_balloons_159 qM_iconst_2 ?_
            refine z_iadd (pc := 160) hE dX12_balloons_160 ?_
            refine z_iald (pc := 161) hE lM_11 dX12_balloons_161 (fun x23 => ?_)
            refine z_iast (pc := 162) hE lM_8 dX12_balloons_162 ?_
            refine z_aload_n (pc := 163) hE 1 0 rfl rfl dX12_balloons_163 ?_
            refine z_getr (pc := 164) hE fk_RX12_20 lM_0 rfl dX12_balloons_164 ?_
            refine z_iload (pc := 167) hE 0 rfl dX12_balloons_167 ?_
            refine z_aload_n (pc := 169) hE 1 0 rfl rfl dX12_balloons_169 ?_
            refine z_getr (pc := 170) hE fk_RX12_41 lM_0 rfl dX12_balloons_170 ?_
            refine z_iconst (pc := 173) hE dX12_balloons_173 qM_iconst_5 ?_
            refine z_iload (pc := 174) hE 2 rfl dX12_balloons_174 ?_
            refine z_imul (pc := 176) hE dX12_balloons_176 ?_
            refine z_iconst (pc := 177) hE dX12_balloons_177 qM_iconst_3 ?_
            refine z_iadd (pc := 178) hE dX12_balloons_178 ?_
            refine z_iald (pc := 179) hE lM_11 dX12_balloons_179 (fun x24 => ?_)
            refine z_iast (pc := 180) hE lM_4 dX12_balloons_180 ?_
            refine z_aload_n (pc := 181) hE 1 0 rfl rfl dX12_balloons_181 ?_
            refine z_getr (pc := 182) hE fk_RX12_23 lM_0 rfl dX12_balloons_182 ?_
            refine z_iload (pc := 185) hE 0 rfl dX12_balloons_185 ?_
            refine z_aload_n (pc := 187) hE 1 0 rfl rfl dX12_balloons_187 ?_
            refine z_getr (pc := 188) hE fk_RX12_41 lM_0 rfl dX12_balloons_188 ?_
            refine z_iconst (pc := 191) hE dX12_balloons_191 qM_iconst_5 ?_
            refine z_iload (pc := 192) hE 2 rfl dX12_balloons_192 ?_
            refine z_imul (pc := 194) hE dX12_balloons_194 ?_
            refine z_iconst (pc := 195) hE dX12_balloons_195 qM_iconst_4 ?_
            refine z_iadd (pc := 196) hE dX12_balloons_196 ?_
            refine z_iald (pc := 197) hE lM_11 dX12_balloons_197 (fun x25 => ?_)
            refine z_iast (pc := 198) hE lM_5 dX12_balloons_198 ?_
            refine z_aload_n (pc := 199) hE 1 0 rfl rfl dX12_balloons_199 ?_
            refine z_getr (pc := 200) hE fk_RX12_32 lM_0 rfl dX12_balloons_200 ?_
            refine z_bipush (pc := 203) hE dX12_balloons_203 qM_bipush_7 ?_
            refine z_iload (pc := 205) hE 0 rfl dX12_balloons_205 ?_
            refine z_imul (pc := 207) hE dX12_balloons_207 ?_
            refine z_iconst (pc := 208) hE dX12_balloons_208 qM_iconst_3 ?_
            refine z_iadd (pc := 209) hE dX12_balloons_209 ?_
            refine z_iconst (pc := 210) hE dX12_balloons_210 qM_iconst_0 ?_
            refine z_iast (pc := 211) hE lM_8 dX12_balloons_211 ?_
            refine z_aload_n (pc := 212) hE 1 0 rfl rfl dX12_balloons_212 ?_
            refine z_getr (pc := 213) hE fk_RX12_32 lM_0 rfl dX12_balloons_213 ?_
            refine z_bipush (pc := 216) hE dX12_balloons_216 qM_bipush_7 ?_
            refine z_iload (pc := 218) hE 0 rfl dX12_balloons_218 ?_
            refine z_imul (pc := 220) hE dX12_balloons_220 ?_
            refine z_iconst (pc := 221) hE dX12_balloons_221 qM_iconst_4 ?_
            refine z_iadd (pc := 222) hE dX12_balloons_222 ?_
            refine z_iconst (pc := 223) hE dX12_balloons_223 qM_iconst_m1 ?_
            refine z_iast (pc := 224) hE lM_8 dX12_balloons_224 ?_
            refine z_aload_n (pc := 225) hE 1 0 rfl rfl dX12_balloons_225 ?_
            refine z_dup (pc := 226) hE dX12_balloons_226 rfl ?_
            refine z_geti (pc := 227) hE fk_RX12_135 lM_0 rfl dX12_balloons_227 (fun x26 => ?_)
            refine z_iconst (pc := 230) hE dX12_balloons_230 qM_iconst_1 ?_
            refine z_iadd (pc := 231) hE dX12_balloons_231 ?_
            refine z_puti (pc := 232) hE fk_RX12_135 lM_0 rfl dX12_balloons_232 ?_
            refine z_iinc (L' := [(5, .int (v15 + (1 : Int32))), (6, .int x20), (0, .ref (ad 0))]) (pc := 235) hE 2 rfl (zinc qM_iconst_1) (by decide) rfl dX12_balloons_235 ?_
            refine z_goto (pc := 238) hE 81 rfl dX12_balloons_238 ?_
            exact z_sub [2, 0] rfl (hrc17 (v15 + (1 : Int32)))
        · refine z_aload_n (pc := 241) hE 0 0 rfl rfl dX12_balloons_241 ?_
          refine z_geti (pc := 242) hE fk_RX12_182 lM_0 rfl dX12_balloons_242 (fun x27 => ?_)
          refine z_join (Y := Unit) (pcJ := 263) (Lj := fun y28 => [(0, .ref (ad 0))]) (sj := fun y28 => []) (fun y28 => ?_) (fun j29 hj29 => ?_)
          · refine z_aload_n (pc := 263) hE 0 0 rfl rfl dX12_balloons_263 ?_
            refine z_geti (pc := 264) hE fk_RX12_182 lM_0 rfl dX12_balloons_264 (fun x30 => ?_)
            exact z_ireturn (pc := 267) hE hr dX12_balloons_267
          refine z_if_le (pc := 245) hE 263 rfl dX12_balloons_245 ?_ ?_
          · exact z_sub [0] rfl (hj29 ())
          · refine z_aload_n (pc := 248) hE 0 0 rfl rfl dX12_balloons_248 ?_
            refine z_iconst (pc := 249) hE dX12_balloons_249 qM_iconst_0 ?_
            refine z_puti (pc := 250) hE fk_RX12_211 lM_0 rfl dX12_balloons_250 ?_
            refine z_aload_n (pc := 253) hE 0 0 rfl rfl dX12_balloons_253 ?_
            refine z_dup (pc := 254) hE dX12_balloons_254 rfl ?_
            refine z_geti (pc := 255) hE fk_RX12_214 lM_0 rfl dX12_balloons_255 (fun x31 => ?_)
            refine z_iconst (pc := 258) hE dX12_balloons_258 qM_iconst_1 ?_
            refine z_iadd (pc := 259) hE dX12_balloons_259 ?_
            refine z_puti (pc := 260) hE fk_RX12_214 lM_0 rfl dX12_balloons_260 ?_
            exact z_sub [0] rfl (hj29 ())
      · refine z_iload (pc := 75) hE 0 rfl dX12_balloons_75 ?_
        exact z_ireturn (pc := 77) hE hr dX12_balloons_77
  refine z_if_le (pc := 20) hE 27 rfl dX12_balloons_20 ?_ ?_
  · refine z_iconst (pc := 27) hE dX12_balloons_27 qM_iconst_0 ?_
    exact z_sub [2, 1, 0] rfl (hj3 ((0 : Int32)))
  · refine z_iconst (pc := 23) hE dX12_balloons_23 qM_iconst_1 ?_
    refine z_goto (pc := 24) hE 28 rfl dX12_balloons_24 ?_
    exact z_sub [2, 1, 0] rfl (hj3 ((1 : Int32)))
set_option maxRecDepth 100000 in
set_option maxHeartbeats 4000000 in
theorem c_X12_readsWind {l : Launch} {ad : Nat → Nat} {ca : FieldType → ClassId} {D : va_G} {sa sv : Nat → Nat} (a1 : Int32) : zC l yX12_readsWind cX12_readsWind 2 (some .boolean) 6 layM ad ca D (xtM ad sa sv) [.ref (ad 0), .int a1] zvi (p_X12_readsWind a1) := by
  refine z_enter (by decide) (Nat.le_of_ble_eq_true rfl) (fun E hE hl0 hcD hr => ?_)
  have hE : zok layM ad (xtM ad sa sv) E cX12_readsWind 2 RX12 6 := hE
  show Z layM ad E 2 (zFin layM ad E zvi) 0 [(0, .ref (ad 0)), (1, .int a1)] [] (p_X12_readsWind a1)
  unfold p_X12_readsWind
  refine z_aload_n (pc := 0) hE 0 0 rfl rfl dX12_readsWind_0 ?_
  refine z_getr (pc := 1) hE fk_RX12_41 lM_0 rfl dX12_readsWind_1 ?_
  refine z_iconst (pc := 4) hE dX12_readsWind_4 qM_iconst_2 ?_
  refine z_iload_n (pc := 5) hE 1 1 rfl rfl dX12_readsWind_5 ?_
  refine z_imul (pc := 6) hE dX12_readsWind_6 ?_
  refine z_iconst (pc := 7) hE dX12_readsWind_7 qM_iconst_m1 ?_
  refine z_iast (pc := 8) hE lM_11 dX12_readsWind_8 ?_
  refine z_aload_n (pc := 9) hE 0 0 rfl rfl dX12_readsWind_9 ?_
  refine z_getr (pc := 10) hE fk_RX12_41 lM_0 rfl dX12_readsWind_10 ?_
  refine z_iconst (pc := 13) hE dX12_readsWind_13 qM_iconst_2 ?_
  refine z_iload_n (pc := 14) hE 1 1 rfl rfl dX12_readsWind_14 ?_
  refine z_imul (pc := 15) hE dX12_readsWind_15 ?_
  refine z_iconst (pc := 16) hE dX12_readsWind_16 qM_iconst_1 ?_
  refine z_iadd (pc := 17) hE dX12_readsWind_17 ?_
  refine z_iconst (pc := 18) hE dX12_readsWind_18 qM_iconst_0 ?_
  refine z_iast (pc := 19) hE lM_11 dX12_readsWind_19 ?_
  refine z_aload_n (pc := 20) hE 0 0 rfl rfl dX12_readsWind_20 ?_
  refine z_bipush (pc := 21) hE dX12_readsWind_21 qM_bipush_45 ?_
  refine z_callVi (pc := 23) (st := []) [.int ((45 : Int32))] hE kk_RX12_200 (c_X12_takes ((45 : Int32))) lM_0 rfl rfl rfl (Nat.le_of_ble_eq_true rfl) (by decide) dX12_readsWind_23 (fun x1 => ?_)
  refine z_if_eq (pc := 26) hE 31 rfl dX12_readsWind_26 ?_ ?_
  · refine z_aload_n (pc := 31) hE 0 0 rfl rfl dX12_readsWind_31 ?_
    refine z_getr (pc := 32) hE fk_RX12_41 lM_0 rfl dX12_readsWind_32 ?_
    refine z_iconst (pc := 35) hE dX12_readsWind_35 qM_iconst_2 ?_
    refine z_iload_n (pc := 36) hE 1 1 rfl rfl dX12_readsWind_36 ?_
    refine z_imul (pc := 37) hE dX12_readsWind_37 ?_
    refine z_aload_n (pc := 38) hE 0 0 rfl rfl dX12_readsWind_38 ?_
    refine z_ldcs (pc := 39) hE (sR_189) dX12_readsWind_39 ?_
    refine z_callVi (pc := 41) (st := [.int (((2 : Int32)) * a1), .ref (ad 11)]) [.ref (sa 2)] hE kk_RX12_191 (c_X12_takesOf 2 (by decide)) lM_0 rfl rfl rfl (Nat.le_of_ble_eq_true rfl) (by decide) dX12_readsWind_41 (fun x2 => ?_)
    refine z_iast (pc := 44) hE lM_11 dX12_readsWind_44 ?_
    refine z_aload_n (pc := 45) hE 0 0 rfl rfl dX12_readsWind_45 ?_
    refine z_getr (pc := 46) hE fk_RX12_41 lM_0 rfl dX12_readsWind_46 ?_
    refine z_iconst (pc := 49) hE dX12_readsWind_49 qM_iconst_2 ?_
    refine z_iload_n (pc := 50) hE 1 1 rfl rfl dX12_readsWind_50 ?_
    refine z_imul (pc := 51) hE dX12_readsWind_51 ?_
    refine z_iald (pc := 52) hE lM_11 dX12_readsWind_52 (fun x3 => ?_)
    refine z_if_ge (pc := 53) hE 58 rfl dX12_readsWind_53 ?_ ?_
    · refine z_aload_n (pc := 58) hE 0 0 rfl rfl dX12_readsWind_58 ?_
      refine z_getr (pc := 59) hE fk_RX12_41 lM_0 rfl dX12_readsWind_59 ?_
      refine z_iconst (pc := 62) hE dX12_readsWind_62 qM_iconst_2 ?_
      refine z_iload_n (pc := 63) hE 1 1 rfl rfl dX12_readsWind_63 ?_
      refine z_imul (pc := 64) hE dX12_readsWind_64 ?_
      refine z_iconst (pc := 65) hE dX12_readsWind_65 qM_iconst_1 ?_
      refine z_iadd (pc := 66) hE dX12_readsWind_66 ?_
      refine z_iconst (pc := 67) hE dX12_readsWind_67 qM_iconst_1 ?_
      refine z_aload_n (pc := 68) hE 0 0 rfl rfl dX12_readsWind_68 ?_
      refine z_ldcs (pc := 69) hE (sR_222) dX12_readsWind_69 ?_
      refine z_callVi (pc := 71) (st := [.int ((1 : Int32)), .int ((((2 : Int32)) * a1) + ((1 : Int32))), .ref (ad 11)]) [.ref (sa 3)] hE kk_RX12_191 (c_X12_takesOf 3 (by decide)) lM_0 rfl rfl rfl (Nat.le_of_ble_eq_true rfl) (by decide) dX12_readsWind_71 (fun x4 => ?_)
      refine z_iadd (pc := 74) hE dX12_readsWind_74 ?_
      refine z_iast (pc := 75) hE lM_11 dX12_readsWind_75 ?_
      refine z_aload_n (pc := 76) hE 0 0 rfl rfl dX12_readsWind_76 ?_
      refine z_getr (pc := 77) hE fk_RX12_41 lM_0 rfl dX12_readsWind_77 ?_
      refine z_iconst (pc := 80) hE dX12_readsWind_80 qM_iconst_2 ?_
      refine z_iload_n (pc := 81) hE 1 1 rfl rfl dX12_readsWind_81 ?_
      refine z_imul (pc := 82) hE dX12_readsWind_82 ?_
      refine z_iconst (pc := 83) hE dX12_readsWind_83 qM_iconst_1 ?_
      refine z_iadd (pc := 84) hE dX12_readsWind_84 ?_
      refine z_iald (pc := 85) hE lM_11 dX12_readsWind_85 (fun x5 => ?_)
      refine z_if_le (pc := 86) hE 93 rfl dX12_readsWind_86 ?_ ?_
      · refine z_iconst (pc := 93) hE dX12_readsWind_93 qM_iconst_0 ?_
        exact z_zreturn (pc := 94) hE hr dX12_readsWind_94
      · refine z_iconst (pc := 89) hE dX12_readsWind_89 qM_iconst_1 ?_
        refine z_goto (pc := 90) hE 94 rfl dX12_readsWind_90 ?_
        exact z_zreturn (pc := 94) hE hr dX12_readsWind_94
    · refine z_iconst (pc := 56) hE dX12_readsWind_56 qM_iconst_0 ?_
      exact z_zreturn (pc := 57) hE hr dX12_readsWind_57
  · refine z_iconst (pc := 29) hE dX12_readsWind_29 qM_iconst_1 ?_
    exact z_zreturn (pc := 30) hE hr dX12_readsWind_30
set_option maxRecDepth 100000 in
set_option maxHeartbeats 4000000 in
theorem c_X12_winds {l : Launch} {ad : Nat → Nat} {ca : FieldType → ClassId} {D : va_G} {sa sv : Nat → Nat}  : zC l yX12_winds cX12_winds 6 (some .int) 7 layM ad ca D (xtM ad sa sv) [.ref (ad 0)] zvi (p_X12_winds) := by
  refine z_enter (by decide) (Nat.le_of_ble_eq_true rfl) (fun E hE hl0 hcD hr => ?_)
  have hE : zok layM ad (xtM ad sa sv) E cX12_winds 6 RX12 7 := hE
  show Z layM ad E 6 (zFin layM ad E zvi) 0 [(0, .ref (ad 0))] [] (p_X12_winds)
  unfold p_X12_winds
  refine z_aload_n (pc := 0) hE 0 0 rfl rfl dX12_winds_0 ?_
  refine z_iconst (pc := 1) hE dX12_winds_1 qM_iconst_0 ?_
  refine z_puti (pc := 2) hE fk_RX12_117 lM_0 rfl dX12_winds_2 ?_
  refine z_aload_n (pc := 5) hE 0 0 rfl rfl dX12_winds_5 ?_
  refine z_bipush (pc := 6) hE dX12_winds_6 qM_bipush_29 ?_
  refine z_callVi (pc := 8) (st := []) [.int ((29 : Int32))] hE kk_RX12_194 (c_X12_begins ((29 : Int32))) lM_0 rfl rfl rfl (Nat.le_of_ble_eq_true rfl) (by decide) dX12_winds_8 (fun x1 => ?_)
  refine z_istore_n (L' := [(1, .int x1), (0, .ref (ad 0))]) (pc := 11) hE 1 rfl (by decide) rfl dX12_winds_11 ?_
  refine z_iconst (pc := 12) hE dX12_winds_12 qM_iconst_1 ?_
  refine z_istore_n (L' := [(2, .int ((1 : Int32))), (1, .int x1), (0, .ref (ad 0))]) (pc := 13) hE 2 rfl (by decide) rfl dX12_winds_13 ?_
  refine z_iconst (pc := 14) hE dX12_winds_14 qM_iconst_0 ?_
  refine z_istore_n (L' := [(3, .int ((0 : Int32))), (2, .int ((1 : Int32))), (1, .int x1), (0, .ref (ad 0))]) (pc := 15) hE 3 rfl (by decide) rfl dX12_winds_15 ?_
  refine z_sub (L' := [(0, .ref (ad 0)), (1, .int x1), (2, .int ((1 : Int32))), (3, .int ((0 : Int32)))]) [3, 2, 1, 0] rfl ?_
  refine z_loop (V := (Int32 × Int32)) (X := Int32) (hd := 16) (ex := 59) (Lh := fun v2 => [(0, .ref (ad 0)), (1, .int x1), (2, .int v2.1), (3, .int v2.2)]) (Lx := fun e5 => [(0, .ref (ad 0)), (1, .int x1), (2, .int e5)]) (fun rc4 k3 hrc4 hk3 v2 => ?_) zNF ((1 : Int32), (0 : Int32)) _ (fun e5 => ?_)
  · unfold p_X12_winds_b16
    refine z_iload_n (pc := 16) hE 3 3 rfl rfl dX12_winds_16 ?_
    refine z_bipush (pc := 17) hE dX12_winds_17 qM_bipush_10 ?_
    refine z_icmp_ge (pc := 19) hE 59 rfl dX12_winds_19 ?_ ?_
    · exact z_sub [0, 1, 2] rfl (hk3 v2.1)
    · refine z_iload_n (pc := 22) hE 2 2 rfl rfl dX12_winds_22 ?_
      refine z_if_eq (pc := 23) hE 59 rfl dX12_winds_23 ?_ ?_
      · exact z_sub [0, 1, 2] rfl (hk3 v2.1)
      · refine z_iload_n (pc := 26) hE 3 3 rfl rfl dX12_winds_26 ?_
        refine z_join (Y := Int32) (pcJ := 52) (Lj := fun y6 => [(0, .ref (ad 0)), (1, .int x1), (3, .int v2.2)]) (sj := fun y6 => [.int y6]) (fun y6 => ?_) (fun j7 hj7 => ?_)
        · refine z_istore_n (L' := [(2, .int y6), (0, .ref (ad 0)), (1, .int x1), (3, .int v2.2)]) (pc := 52) hE 2 rfl (by decide) rfl dX12_winds_52 ?_
          refine z_iinc (L' := [(3, .int (v2.2 + (1 : Int32))), (2, .int y6), (0, .ref (ad 0)), (1, .int x1)]) (pc := 53) hE 3 rfl (zinc qM_iconst_1) (by decide) rfl dX12_winds_53 ?_
          refine z_goto (pc := 56) hE 16 rfl dX12_winds_56 ?_
          exact z_sub [2, 3, 1, 0] rfl (hrc4 (y6, v2.2 + (1 : Int32)))
        refine z_join (Y := Unit) (pcJ := 51) (Lj := fun y8 => [(0, .ref (ad 0)), (1, .int x1), (3, .int v2.2)]) (sj := fun y8 => []) (fun y8 => ?_) (fun j9 hj9 => ?_)
        · refine z_iconst (pc := 51) hE dX12_winds_51 qM_iconst_0 ?_
          exact z_sub [0, 1, 2] rfl (hj7 ((0 : Int32)))
        refine z_join (Y := Unit) (pcJ := 39) (Lj := fun y10 => [(0, .ref (ad 0)), (1, .int x1), (3, .int v2.2)]) (sj := fun y10 => []) (fun y10 => ?_) (fun j11 hj11 => ?_)
        · refine z_aload_n (pc := 39) hE 0 0 rfl rfl dX12_winds_39 ?_
          refine z_iload_n (pc := 40) hE 2 3 rfl rfl dX12_winds_40 ?_
          refine z_callVi (pc := 41) (st := []) [.int v2.2] hE kk_RX12_224 (c_X12_readsWind v2.2) lM_0 rfl rfl rfl (Nat.le_of_ble_eq_true rfl) (by decide) dX12_winds_41 (fun x12 => ?_)
          refine z_if_eq (pc := 44) hE 51 rfl dX12_winds_44 ?_ ?_
          · exact z_sub [0, 1, 2] rfl (hj9 ())
          · refine z_iconst (pc := 47) hE dX12_winds_47 qM_iconst_1 ?_
            refine z_goto (pc := 48) hE 52 rfl dX12_winds_48 ?_
            exact z_sub [0, 1, 2] rfl (hj7 ((1 : Int32)))
        refine z_if_eq (pc := 27) hE 39 rfl dX12_winds_27 ?_ ?_
        · exact z_sub [0, 1, 3] rfl (hj11 ())
        · refine z_aload_n (pc := 30) hE 0 0 rfl rfl dX12_winds_30 ?_
          refine z_bipush (pc := 31) hE dX12_winds_31 qM_bipush_47 ?_
          refine z_callVi (pc := 33) (st := []) [.int ((47 : Int32))] hE kk_RX12_200 (c_X12_takes ((47 : Int32))) lM_0 rfl rfl rfl (Nat.le_of_ble_eq_true rfl) (by decide) dX12_winds_33 (fun x13 => ?_)
          refine z_if_eq (pc := 36) hE 51 rfl dX12_winds_36 ?_ ?_
          · exact z_sub [0, 1, 3] rfl (hj9 ())
          · exact z_sub [0, 1, 3] rfl (hj11 ())
  · refine z_aload_n (pc := 59) hE 0 0 rfl rfl dX12_winds_59 ?_
    refine z_iload_n (pc := 60) hE 1 1 rfl rfl dX12_winds_60 ?_
    refine z_bipush (pc := 61) hE dX12_winds_61 qM_bipush_29 ?_
    refine z_iload_n (pc := 63) hE 2 2 rfl rfl dX12_winds_63 ?_
    refine z_callVi (pc := 64) (st := []) [.int x1, .int ((29 : Int32)), .int e5] hE kk_RX12_204 (c_X12_faultOf x1 ((29 : Int32)) e5) lM_0 rfl rfl rfl (Nat.le_of_ble_eq_true rfl) (by decide) dX12_winds_64 (fun x14 => ?_)
    refine z_istore_n (L' := [(3, .int x14), (0, .ref (ad 0)), (1, .int x1), (2, .int e5)]) (pc := 67) hE 3 rfl (by decide) rfl dX12_winds_67 ?_
    refine z_iload_n (pc := 68) hE 0 3 rfl rfl dX12_winds_68 ?_
    refine z_if_ge (pc := 69) hE 74 rfl dX12_winds_69 ?_ ?_
    · refine z_iconst (pc := 74) hE dX12_winds_74 qM_iconst_0 ?_
      refine z_istore (L' := [(4, .int ((0 : Int32))), (3, .int x14), (0, .ref (ad 0)), (1, .int x1), (2, .int e5)]) (pc := 75) hE (by decide) rfl dX12_winds_75 ?_
      refine z_iconst (pc := 77) hE dX12_winds_77 qM_iconst_0 ?_
      refine z_istore (L' := [(5, .int ((0 : Int32))), (4, .int ((0 : Int32))), (3, .int x14), (0, .ref (ad 0)), (1, .int x1), (2, .int e5)]) (pc := 78) hE (by decide) rfl dX12_winds_78 ?_
      refine z_sub (L' := [(0, .ref (ad 0)), (4, .int ((0 : Int32))), (5, .int ((0 : Int32)))]) [3, 1, 0] rfl ?_
      refine z_loop (V := (Int32 × Int32)) (X := Int32) (hd := 80) (ex := 150) (Lh := fun v15 => [(0, .ref (ad 0)), (4, .int v15.1), (5, .int v15.2)]) (Lx := fun e18 => [(4, .int e18)]) (fun rc17 k16 hrc17 hk16 v15 => ?_) zNF ((0 : Int32), (0 : Int32)) _ (fun e18 => ?_)
      · unfold p_X12_winds_b80
        refine z_iload (pc := 80) hE 2 rfl dX12_winds_80 ?_
        refine z_bipush (pc := 82) hE dX12_winds_82 qM_bipush_10 ?_
        refine z_icmp_ge (pc := 84) hE 150 rfl dX12_winds_84 ?_ ?_
        · exact z_sub [1] rfl (hk16 v15.1)
        · refine z_aload_n (pc := 87) hE 0 0 rfl rfl dX12_winds_87 ?_
          refine z_getr (pc := 88) hE fk_RX12_26 lM_0 rfl dX12_winds_88 ?_
          refine z_iload (pc := 91) hE 2 rfl dX12_winds_91 ?_
          refine z_aload_n (pc := 93) hE 0 0 rfl rfl dX12_winds_93 ?_
          refine z_getr (pc := 94) hE fk_RX12_41 lM_0 rfl dX12_winds_94 ?_
          refine z_iconst (pc := 97) hE dX12_winds_97 qM_iconst_2 ?_
          refine z_iload (pc := 98) hE 2 rfl dX12_winds_98 ?_
          refine z_imul (pc := 100) hE dX12_winds_100 ?_
          refine z_iald (pc := 101) hE lM_11 dX12_winds_101 (fun x19 => ?_)
          refine z_iast (pc := 102) hE lM_6 dX12_winds_102 ?_
          refine z_aload_n (pc := 103) hE 0 0 rfl rfl dX12_winds_103 ?_
          refine z_getr (pc := 104) hE fk_RX12_29 lM_0 rfl dX12_winds_104 ?_
          refine z_iload (pc := 107) hE 2 rfl dX12_winds_107 ?_
          refine z_aload_n (pc := 109) hE 0 0 rfl rfl dX12_winds_109 ?_
          refine z_getr (pc := 110) hE fk_RX12_41 lM_0 rfl dX12_winds_110 ?_
          refine z_iconst (pc := 113) hE dX12_winds_113 qM_iconst_2 ?_
          refine z_iload (pc := 114) hE 2 rfl dX12_winds_114 ?_
          refine z_imul (pc := 116) hE dX12_winds_116 ?_
          refine z_iconst (pc := 117) hE dX12_winds_117 qM_iconst_1 ?_
          refine z_iadd (pc := 118) hE dX12_winds_118 ?_
          refine z_iald (pc := 119) hE lM_11 dX12_winds_119 (fun x20 => ?_)
          refine z_iast (pc := 120) hE lM_7 dX12_winds_120 ?_
          refine z_iload (pc := 121) hE 1 rfl dX12_winds_121 ?_
          refine z_aload_n (pc := 123) hE 0 0 rfl rfl dX12_winds_123 ?_
          refine z_getr (pc := 124) hE fk_RX12_26 lM_0 rfl dX12_winds_124 ?_
          refine z_iload (pc := 127) hE 2 rfl dX12_winds_127 ?_
          refine z_iald (pc := 129) hE lM_6 dX12_winds_129 (fun x21 => ?_)
          refine z_join (Y := Int32) (pcJ := 138) (Lj := fun y22 => [(0, .ref (ad 0)), (5, .int v15.2)]) (sj := fun y22 => [.int y22, .int v15.1]) (fun y22 => ?_) (fun j23 hj23 => ?_)
          · refine z_callSi (pc := 138) (st := [.int v15.1]) [.int y22] hE kk_RX12_156 (c_X12_flag y22) rfl rfl (Nat.le_of_ble_eq_true rfl) (by decide) dX12_winds_138 (fun x24 => ?_)
            refine z_iadd (pc := 141) hE dX12_winds_141 ?_
            refine z_istore (L' := [(4, .int (v15.1 + x24)), (0, .ref (ad 0)), (5, .int v15.2)]) (pc := 142) hE (by decide) rfl dX12_winds_142 ?_
            refine z_iinc (L' := [(5, .int (v15.2 + (1 : Int32))), (4, .int (v15.1 + x24)), (0, .ref (ad 0))]) (pc := 144) hE 2 rfl (zinc qM_iconst_1) (by decide) rfl dX12_winds_144 ?_
            refine z_goto (pc := 147) hE 80 rfl dX12_winds_147 ?_
            exact z_sub [2, 1, 0] rfl (hrc17 (v15.1 + x24, v15.2 + (1 : Int32)))
          refine z_if_lt (pc := 130) hE 137 rfl dX12_winds_130 ?_ ?_
          · refine z_iconst (pc := 137) hE dX12_winds_137 qM_iconst_0 ?_
            exact z_sub [0, 2] rfl (hj23 ((0 : Int32)))
          · refine z_iconst (pc := 133) hE dX12_winds_133 qM_iconst_1 ?_
            refine z_goto (pc := 134) hE 138 rfl dX12_winds_134 ?_
            exact z_sub [0, 2] rfl (hj23 ((1 : Int32)))
      · refine z_iload (pc := 150) hE 0 rfl dX12_winds_150 ?_
        exact z_ireturn (pc := 152) hE hr dX12_winds_152
    · refine z_iload_n (pc := 72) hE 0 3 rfl rfl dX12_winds_72 ?_
      exact z_ireturn (pc := 73) hE hr dX12_winds_73
set_option maxRecDepth 100000 in
set_option maxHeartbeats 4000000 in
theorem c_X12_codes {l : Launch} {ad : Nat → Nat} {ca : FieldType → ClassId} {D : va_G} {sa sv : Nat → Nat} (a1 : Int32) : zC l yX12_codes cX12_codes 2 none 0 layM ad ca D (xtM ad sa sv) [.ref (ad 0), .int a1] zvn (p_X12_codes a1) := by
  refine z_enter (by decide) (Nat.le_of_ble_eq_true rfl) (fun E hE hl0 hcD hr => ?_)
  have hE : zok layM ad (xtM ad sa sv) E cX12_codes 2 RX12 0 := hE
  show Z layM ad E 2 (zFin layM ad E zvn) 0 [(0, .ref (ad 0)), (1, .int a1)] [] (p_X12_codes a1)
  unfold p_X12_codes
  refine z_aload_n (pc := 0) hE 0 0 rfl rfl dX12_codes_0 ?_
  refine z_getr (pc := 1) hE fk_RX12_47 lM_0 rfl dX12_codes_1 ?_
  refine z_aload_n (pc := 4) hE 0 0 rfl rfl dX12_codes_4 ?_
  refine z_geti (pc := 5) hE fk_RX12_227 lM_0 rfl dX12_codes_5 (fun x1 => ?_)
  refine z_iload_n (pc := 8) hE 1 1 rfl rfl dX12_codes_8 ?_
  refine z_iast (pc := 9) hE lM_13 dX12_codes_9 ?_
  refine z_aload_n (pc := 10) hE 0 0 rfl rfl dX12_codes_10 ?_
  refine z_dup (pc := 11) hE dX12_codes_11 rfl ?_
  refine z_geti (pc := 12) hE fk_RX12_227 lM_0 rfl dX12_codes_12 (fun x2 => ?_)
  refine z_iconst (pc := 15) hE dX12_codes_15 qM_iconst_1 ?_
  refine z_iadd (pc := 16) hE dX12_codes_16 ?_
  refine z_puti (pc := 17) hE fk_RX12_227 lM_0 rfl dX12_codes_17 ?_
  exact z_return (pc := 20) hE hr dX12_codes_20
set_option maxRecDepth 100000 in
set_option maxHeartbeats 4000000 in
theorem c_X12_readsThing_s (G : (Unit → zM Int32) × (Int32 → zM Int32)) (d : Nat) (hd : 7 ≤ d) (hG : (∀ (l : Launch) (ad : Nat → Nat) (ca : FieldType → ClassId) (D : va_G) (sa sv : Nat → Nat) , zC l yX12_readsThing cX12_readsThing 2 (some .boolean) (d - 1) layM ad ca D (xtM ad sa sv) [.ref (ad 0)] zvi (G.1 ())) ∧ (∀ (l : Launch) (ad : Nat → Nat) (ca : FieldType → ClassId) (D : va_G) (sa sv : Nat → Nat) (a1 : Int32), zC l yX12_readsRank cX12_readsRank 4 (some .boolean) (d - 1) layM ad ca D (xtM ad sa sv) [.ref (ad 0), .int a1] zvi (G.2 a1))) {l : Launch} {ad : Nat → Nat} {ca : FieldType → ClassId} {D : va_G} {sa sv : Nat → Nat}  : zC l yX12_readsThing cX12_readsThing 2 (some .boolean) d layM ad ca D (xtM ad sa sv) [.ref (ad 0)] zvi (p_X12_readsThing_s G) := by
  refine z_enter (by decide) (Nat.le_of_ble_eq_true rfl) (fun E hE hl0 hcD hr => ?_)
  have hE : zok layM ad (xtM ad sa sv) E cX12_readsThing 2 RX12 d := hE
  show Z layM ad E 2 (zFin layM ad E zvi) 0 [(0, .ref (ad 0))] [] (p_X12_readsThing_s G)
  unfold p_X12_readsThing_s
  refine z_aload_n (pc := 0) hE 0 0 rfl rfl dX12_readsThing_0 ?_
  refine z_bipush (pc := 1) hE dX12_readsThing_1 qM_bipush_45 ?_
  refine z_callVi (pc := 3) (st := []) [.int ((45 : Int32))] hE kk_RX12_200 (c_X12_takes ((45 : Int32))) lM_0 rfl rfl rfl (Nat.le_of_ble_eq_true rfl) (by omega) dX12_readsThing_3 (fun x1 => ?_)
  refine z_if_eq (pc := 6) hE 23 rfl dX12_readsThing_6 ?_ ?_
  · refine z_aload_n (pc := 23) hE 0 0 rfl rfl dX12_readsThing_23 ?_
    refine z_callVi (pc := 24) (st := []) [] hE kk_RX12_178 (c_X12_isDigit) lM_0 rfl rfl rfl (Nat.le_of_ble_eq_true rfl) (by omega) dX12_readsThing_24 (fun x2 => ?_)
    refine z_if_eq (pc := 27) hE 41 rfl dX12_readsThing_27 ?_ ?_
    · refine z_aload_n (pc := 41) hE 0 0 rfl rfl dX12_readsThing_41 ?_
      refine z_ldcs (pc := 42) hE (sR_237) dX12_readsThing_42 ?_
      refine z_callVi (pc := 44) (st := []) [.ref (sa 6)] hE kk_RX12_191 (c_X12_takesOf 6 (by decide)) lM_0 rfl rfl rfl (Nat.le_of_ble_eq_true rfl) (by omega) dX12_readsThing_44 (fun x3 => ?_)
      refine z_istore_n (L' := [(1, .int x3), (0, .ref (ad 0))]) (pc := 47) hE 1 rfl (by decide) rfl dX12_readsThing_47 ?_
      refine z_iload_n (pc := 48) hE 0 1 rfl rfl dX12_readsThing_48 ?_
      refine z_if_lt (pc := 49) hE 63 rfl dX12_readsThing_49 ?_ ?_
      · refine z_aload_n (pc := 63) hE 1 0 rfl rfl dX12_readsThing_63 ?_
        refine z_geti (pc := 64) hE fk_RX12_144 lM_0 rfl dX12_readsThing_64 (fun x4 => ?_)
        refine z_iconst (pc := 67) hE dX12_readsThing_67 qM_iconst_4 ?_
        refine z_icmp_eq (pc := 68) hE 80 rfl dX12_readsThing_68 ?_ ?_
        · refine z_iconst (pc := 80) hE dX12_readsThing_80 qM_iconst_0 ?_
          exact z_zreturn (pc := 81) hE hr dX12_readsThing_81
        · refine z_aload_n (pc := 71) hE 1 0 rfl rfl dX12_readsThing_71 ?_
          refine z_bipush (pc := 72) hE dX12_readsThing_72 qM_bipush_40 ?_
          refine z_callVi (pc := 74) (st := []) [.int ((40 : Int32))] hE kk_RX12_200 (c_X12_takes ((40 : Int32))) lM_0 rfl rfl rfl (Nat.le_of_ble_eq_true rfl) (by omega) dX12_readsThing_74 (fun x5 => ?_)
          refine z_if_ne (pc := 77) hE 82 rfl dX12_readsThing_77 ?_ ?_
          · refine z_aload_n (pc := 82) hE 1 0 rfl rfl dX12_readsThing_82 ?_
            refine z_dup (pc := 83) hE dX12_readsThing_83 rfl ?_
            refine z_geti (pc := 84) hE fk_RX12_144 lM_0 rfl dX12_readsThing_84 (fun x6 => ?_)
            refine z_iconst (pc := 87) hE dX12_readsThing_87 qM_iconst_1 ?_
            refine z_iadd (pc := 88) hE dX12_readsThing_88 ?_
            refine z_puti (pc := 89) hE fk_RX12_144 lM_0 rfl dX12_readsThing_89 ?_
            refine z_aload_n (pc := 92) hE 1 0 rfl rfl dX12_readsThing_92 ?_
            refine z_iconst (pc := 93) hE dX12_readsThing_93 qM_iconst_0 ?_
            refine z_callVi (pc := 94) (st := []) [.int ((0 : Int32))] hE kk_RX12_239 (hG.2 _ _ _ _ _ _ ((0 : Int32))) lM_0 rfl rfl rfl (Nat.le_of_ble_eq_true rfl) (by omega) dX12_readsThing_94 (fun x7 => ?_)
            refine z_if_eq (pc := 97) hE 109 rfl dX12_readsThing_97 ?_ ?_
            · refine z_iconst (pc := 109) hE dX12_readsThing_109 qM_iconst_0 ?_
              exact z_zreturn (pc := 110) hE hr dX12_readsThing_110
            · refine z_aload_n (pc := 100) hE 1 0 rfl rfl dX12_readsThing_100 ?_
              refine z_bipush (pc := 101) hE dX12_readsThing_101 qM_bipush_41 ?_
              refine z_callVi (pc := 103) (st := []) [.int ((41 : Int32))] hE kk_RX12_200 (c_X12_takes ((41 : Int32))) lM_0 rfl rfl rfl (Nat.le_of_ble_eq_true rfl) (by omega) dX12_readsThing_103 (fun x8 => ?_)
              refine z_if_ne (pc := 106) hE 111 rfl dX12_readsThing_106 ?_ ?_
              · refine z_aload_n (pc := 111) hE 1 0 rfl rfl dX12_readsThing_111 ?_
                refine z_dup (pc := 112) hE dX12_readsThing_112 rfl ?_
                refine z_geti (pc := 113) hE fk_RX12_144 lM_0 rfl dX12_readsThing_113 (fun x9 => ?_)
                refine z_iconst (pc := 116) hE dX12_readsThing_116 qM_iconst_1 ?_
                refine z_isub (pc := 117) hE dX12_readsThing_117 ?_
                refine z_puti (pc := 118) hE fk_RX12_144 lM_0 rfl dX12_readsThing_118 ?_
                refine z_iconst (pc := 121) hE dX12_readsThing_121 qM_iconst_1 ?_
                exact z_zreturn (pc := 122) hE hr dX12_readsThing_122
              · refine z_iconst (pc := 109) hE dX12_readsThing_109 qM_iconst_0 ?_
                exact z_zreturn (pc := 110) hE hr dX12_readsThing_110
          · refine z_iconst (pc := 80) hE dX12_readsThing_80 qM_iconst_0 ?_
            exact z_zreturn (pc := 81) hE hr dX12_readsThing_81
      · refine z_aload_n (pc := 52) hE 1 0 rfl rfl dX12_readsThing_52 ?_
        refine z_sipush (pc := 53) hE dX12_readsThing_53 qM_sipush_1000 ?_
        refine z_iload_n (pc := 56) hE 0 1 rfl rfl dX12_readsThing_56 ?_
        refine z_iadd (pc := 57) hE dX12_readsThing_57 ?_
        refine z_callVv (pc := 58) (st := []) [.int (((1000 : Int32)) + x3)] hE kk_RX12_233 (c_X12_codes (((1000 : Int32)) + x3)) lM_0 rfl rfl rfl (Nat.le_of_ble_eq_true rfl) (by omega) dX12_readsThing_58 (fun x10 => ?_)
        refine z_iconst (pc := 61) hE dX12_readsThing_61 qM_iconst_1 ?_
        exact z_zreturn (pc := 62) hE hr dX12_readsThing_62
    · refine z_aload_n (pc := 30) hE 0 0 rfl rfl dX12_readsThing_30 ?_
      refine z_aload_n (pc := 31) hE 0 0 rfl rfl dX12_readsThing_31 ?_
      refine z_iconst (pc := 32) hE dX12_readsThing_32 qM_iconst_3 ?_
      refine z_callVi (pc := 33) (st := [.ref (ad 0)]) [.int ((3 : Int32))] hE kk_RX12_185 (c_X12_number ((3 : Int32))) lM_0 rfl rfl rfl (Nat.le_of_ble_eq_true rfl) (by omega) dX12_readsThing_33 (fun x11 => ?_)
      refine z_callVv (pc := 36) (st := []) [.int x11] hE kk_RX12_233 (c_X12_codes x11) lM_0 rfl rfl rfl (Nat.le_of_ble_eq_true rfl) (by omega) dX12_readsThing_36 (fun x12 => ?_)
      refine z_iconst (pc := 39) hE dX12_readsThing_39 qM_iconst_1 ?_
      exact z_zreturn (pc := 40) hE hr dX12_readsThing_40
  · refine z_aload_n (pc := 9) hE 0 0 rfl rfl dX12_readsThing_9 ?_
    refine z_callVi (pc := 10) (st := []) [] hE kk_RX12_230 (hG.1 _ _ _ _ _ _) lM_0 rfl rfl rfl (Nat.le_of_ble_eq_true rfl) (by omega) dX12_readsThing_10 (fun x13 => ?_)
    refine z_istore_n (L' := [(1, .int x13), (0, .ref (ad 0))]) (pc := 13) hE 1 rfl (by decide) rfl dX12_readsThing_13 ?_
    refine z_aload_n (pc := 14) hE 1 0 rfl rfl dX12_readsThing_14 ?_
    refine z_sipush (pc := 15) hE dX12_readsThing_15 qM_sipush_3000 ?_
    refine z_callVv (pc := 18) (st := []) [.int ((3000 : Int32))] hE kk_RX12_233 (c_X12_codes ((3000 : Int32))) lM_0 rfl rfl rfl (Nat.le_of_ble_eq_true rfl) (by omega) dX12_readsThing_18 (fun x14 => ?_)
    refine z_iload_n (pc := 21) hE 0 1 rfl rfl dX12_readsThing_21 ?_
    exact z_zreturn (pc := 22) hE hr dX12_readsThing_22
set_option maxRecDepth 100000 in
set_option maxHeartbeats 4000000 in
theorem c_X12_readsRank_s (G : (Unit → zM Int32) × (Int32 → zM Int32)) (d : Nat) (hd : 7 ≤ d) (hG : (∀ (l : Launch) (ad : Nat → Nat) (ca : FieldType → ClassId) (D : va_G) (sa sv : Nat → Nat) , zC l yX12_readsThing cX12_readsThing 2 (some .boolean) (d - 1) layM ad ca D (xtM ad sa sv) [.ref (ad 0)] zvi (G.1 ())) ∧ (∀ (l : Launch) (ad : Nat → Nat) (ca : FieldType → ClassId) (D : va_G) (sa sv : Nat → Nat) (a1 : Int32), zC l yX12_readsRank cX12_readsRank 4 (some .boolean) (d - 1) layM ad ca D (xtM ad sa sv) [.ref (ad 0), .int a1] zvi (G.2 a1))) {l : Launch} {ad : Nat → Nat} {ca : FieldType → ClassId} {D : va_G} {sa sv : Nat → Nat} (a1 : Int32) : zC l yX12_readsRank cX12_readsRank 4 (some .boolean) d layM ad ca D (xtM ad sa sv) [.ref (ad 0), .int a1] zvi (p_X12_readsRank_s G a1) := by
  refine z_enter (by decide) (Nat.le_of_ble_eq_true rfl) (fun E hE hl0 hcD hr => ?_)
  have hE : zok layM ad (xtM ad sa sv) E cX12_readsRank 4 RX12 d := hE
  show Z layM ad E 4 (zFin layM ad E zvi) 0 [(0, .ref (ad 0)), (1, .int a1)] [] (p_X12_readsRank_s G a1)
  unfold p_X12_readsRank_s
  refine z_iload_n (pc := 0) hE 1 1 rfl rfl dX12_readsRank_0 ?_
  refine z_iconst (pc := 1) hE dX12_readsRank_1 qM_iconst_3 ?_
  refine z_icmp_ne (pc := 2) hE 10 rfl dX12_readsRank_2 ?_ ?_
  · refine z_aload_n (pc := 10) hE 0 0 rfl rfl dX12_readsRank_10 ?_
    refine z_iload_n (pc := 11) hE 1 1 rfl rfl dX12_readsRank_11 ?_
    refine z_iconst (pc := 12) hE dX12_readsRank_12 qM_iconst_1 ?_
    refine z_iadd (pc := 13) hE dX12_readsRank_13 ?_
    refine z_callVi (pc := 14) (st := []) [.int (a1 + ((1 : Int32)))] hE kk_RX12_239 (hG.2 _ _ _ _ _ _ (a1 + ((1 : Int32)))) lM_0 rfl rfl rfl (Nat.le_of_ble_eq_true rfl) (by omega) dX12_readsRank_14 (fun x1 => ?_)
    refine z_if_ne (pc := 17) hE 22 rfl dX12_readsRank_17 ?_ ?_
    · refine z_iconst (pc := 22) hE dX12_readsRank_22 qM_iconst_1 ?_
      refine z_istore_n (L' := [(2, .int ((1 : Int32))), (0, .ref (ad 0)), (1, .int a1)]) (pc := 23) hE 2 rfl (by decide) rfl dX12_readsRank_23 ?_
      refine z_sub (L' := [(0, .ref (ad 0)), (1, .int a1), (2, .int ((1 : Int32)))]) [1, 2, 0] rfl ?_
      refine z_loop (V := Int32) (X := Unit) (hd := 24) (ex := 113) (Lh := fun v2 => [(0, .ref (ad 0)), (1, .int a1), (2, .int v2)]) (Lx := fun e5 => []) (fun rc4 k3 hrc4 hk3 v2 => ?_) zNF ((1 : Int32)) _ (fun e5 => ?_)
      · unfold p_X12_readsRank_b24
        refine z_iload_n (pc := 24) hE 2 2 rfl rfl dX12_readsRank_24 ?_
        refine z_if_eq (pc := 25) hE 113 rfl dX12_readsRank_25 ?_ ?_
        · exact z_sub [] rfl (hk3 ())
        · refine z_aload_n (pc := 28) hE 0 0 rfl rfl dX12_readsRank_28 ?_
          refine z_iload_n (pc := 29) hE 1 1 rfl rfl dX12_readsRank_29 ?_
          refine z_join (Y := Nat) (pcJ := 50) (Lj := fun y6 => [(0, .ref (ad 0)), (1, .int a1)]) (sj := fun y6 => [.ref (sa y6), .ref (ad 0)]) (fun y6 => ?_) (fun j7 hj7 => ?_)
          · refine z_lt8 (fun hy6 => ?_)
            refine z_callVi (pc := 50) (st := []) [.ref (sa y6)] hE kk_RX12_191 (c_X12_takesOf y6 hy6) lM_0 rfl rfl rfl (Nat.le_of_ble_eq_true rfl) (by omega) dX12_readsRank_50 (fun x8 => ?_)
            refine z_istore_n (L' := [(3, .int x8), (0, .ref (ad 0)), (1, .int a1)]) (pc := 53) hE 3 rfl (by decide) rfl dX12_readsRank_53 ?_
            refine z_iload_n (pc := 54) hE 0 3 rfl rfl dX12_readsRank_54 ?_
            refine z_if_ge (pc := 55) hE 60 rfl dX12_readsRank_55 ?_ ?_
            · refine z_aload_n (pc := 60) hE 1 0 rfl rfl dX12_readsRank_60 ?_
              refine z_iload_n (pc := 61) hE 2 1 rfl rfl dX12_readsRank_61 ?_
              refine z_iconst (pc := 62) hE dX12_readsRank_62 qM_iconst_1 ?_
              refine z_iadd (pc := 63) hE dX12_readsRank_63 ?_
              refine z_callVi (pc := 64) (st := []) [.int (a1 + ((1 : Int32)))] hE kk_RX12_239 (hG.2 _ _ _ _ _ _ (a1 + ((1 : Int32)))) lM_0 rfl rfl rfl (Nat.le_of_ble_eq_true rfl) (by omega) dX12_readsRank_64 (fun x9 => ?_)
              refine z_if_ne (pc := 67) hE 72 rfl dX12_readsRank_67 ?_ ?_
              · refine z_aload_n (pc := 72) hE 1 0 rfl rfl dX12_readsRank_72 ?_
                refine z_sipush (pc := 73) hE dX12_readsRank_73 qM_sipush_2000 ?_
                refine z_iload_n (pc := 76) hE 0 3 rfl rfl dX12_readsRank_76 ?_
                refine z_iadd (pc := 77) hE dX12_readsRank_77 ?_
                refine z_iload_n (pc := 78) hE 2 1 rfl rfl dX12_readsRank_78 ?_
                refine z_join (Y := Int32) (pcJ := 96) (Lj := fun y10 => [(0, .ref (ad 0)), (1, .int a1)]) (sj := fun y10 => [.int y10, .int (((2000 : Int32)) + x8), .ref (ad 0)]) (fun y10 => ?_) (fun j11 hj11 => ?_)
                · refine z_iadd (pc := 96) hE dX12_readsRank_96 ?_
                  refine z_callVv (pc := 97) (st := []) [.int ((((2000 : Int32)) + x8) + y10)] hE kk_RX12_233 (c_X12_codes ((((2000 : Int32)) + x8) + y10)) lM_0 rfl rfl rfl (Nat.le_of_ble_eq_true rfl) (by omega) dX12_readsRank_97 (fun x12 => ?_)
                  refine z_iload_n (pc := 100) hE 1 1 rfl rfl dX12_readsRank_100 ?_
                  refine z_join (Y := Int32) (pcJ := 109) (Lj := fun y13 => [(0, .ref (ad 0)), (1, .int a1)]) (sj := fun y13 => [.int y13]) (fun y13 => ?_) (fun j14 hj14 => ?_)
                  · refine z_istore_n (L' := [(2, .int y13), (0, .ref (ad 0)), (1, .int a1)]) (pc := 109) hE 2 rfl (by decide) rfl dX12_readsRank_109 ?_
                    refine z_goto (pc := 110) hE 24 rfl dX12_readsRank_110 ?_
                    exact z_sub [1, 2, 0] rfl (hrc4 y13)
                  refine z_if_le (pc := 101) hE 108 rfl dX12_readsRank_101 ?_ ?_
                  · refine z_iconst (pc := 108) hE dX12_readsRank_108 qM_iconst_0 ?_
                    exact z_sub [0, 1] rfl (hj14 ((0 : Int32)))
                  · refine z_iconst (pc := 104) hE dX12_readsRank_104 qM_iconst_1 ?_
                    refine z_goto (pc := 105) hE 109 rfl dX12_readsRank_105 ?_
                    exact z_sub [0, 1] rfl (hj14 ((1 : Int32)))
                refine z_if_ne (pc := 79) hE 86 rfl dX12_readsRank_79 ?_ ?_
                · refine z_iload_n (pc := 86) hE 2 1 rfl rfl dX12_readsRank_86 ?_
                  refine z_iconst (pc := 87) hE dX12_readsRank_87 qM_iconst_1 ?_
                  refine z_icmp_ne (pc := 88) hE 95 rfl dX12_readsRank_88 ?_ ?_
                  · refine z_iconst (pc := 95) hE dX12_readsRank_95 qM_iconst_5 ?_
                    exact z_sub [1, 2] rfl (hj11 ((5 : Int32)))
                  · refine z_iconst (pc := 91) hE dX12_readsRank_91 qM_iconst_3 ?_
                    refine z_goto (pc := 92) hE 96 rfl dX12_readsRank_92 ?_
                    exact z_sub [1, 2] rfl (hj11 ((3 : Int32)))
                · refine z_iconst (pc := 82) hE dX12_readsRank_82 qM_iconst_0 ?_
                  refine z_goto (pc := 83) hE 96 rfl dX12_readsRank_83 ?_
                  exact z_sub [1, 2] rfl (hj11 ((0 : Int32)))
              · refine z_iconst (pc := 70) hE dX12_readsRank_70 qM_iconst_0 ?_
                exact z_zreturn (pc := 71) hE hr dX12_readsRank_71
            · refine z_iconst (pc := 58) hE dX12_readsRank_58 qM_iconst_1 ?_
              exact z_zreturn (pc := 59) hE hr dX12_readsRank_59
          refine z_if_ne (pc := 30) hE 38 rfl dX12_readsRank_30 ?_ ?_
          · refine z_iload_n (pc := 38) hE 1 1 rfl rfl dX12_readsRank_38 ?_
            refine z_iconst (pc := 39) hE dX12_readsRank_39 qM_iconst_1 ?_
            refine z_icmp_ne (pc := 40) hE 48 rfl dX12_readsRank_40 ?_ ?_
            · refine z_ldcs (pc := 48) hE (sR_246) dX12_readsRank_48 ?_
              exact z_sub [0, 1] rfl (hj7 0)
            · refine z_ldcs (pc := 43) hE (sR_244) dX12_readsRank_43 ?_
              refine z_goto (pc := 45) hE 50 rfl dX12_readsRank_45 ?_
              exact z_sub [0, 1] rfl (hj7 1)
          · refine z_ldcs (pc := 33) hE (sR_242) dX12_readsRank_33 ?_
            refine z_goto (pc := 35) hE 50 rfl dX12_readsRank_35 ?_
            exact z_sub [0, 1] rfl (hj7 5)
      · refine z_iconst (pc := 113) hE dX12_readsRank_113 qM_iconst_1 ?_
        exact z_zreturn (pc := 114) hE hr dX12_readsRank_114
    · refine z_iconst (pc := 20) hE dX12_readsRank_20 qM_iconst_0 ?_
      exact z_zreturn (pc := 21) hE hr dX12_readsRank_21
  · refine z_aload_n (pc := 5) hE 0 0 rfl rfl dX12_readsRank_5 ?_
    refine z_callVi (pc := 6) (st := []) [] hE kk_RX12_230 (hG.1 _ _ _ _ _ _) lM_0 rfl rfl rfl (Nat.le_of_ble_eq_true rfl) (by omega) dX12_readsRank_6 (fun x15 => ?_)
    exact z_zreturn (pc := 9) hE hr dX12_readsRank_9
theorem c_X12_readsThing_g : ∀ (n d : Nat), 6 + n ≤ d → (∀ (l : Launch) (ad : Nat → Nat) (ca : FieldType → ClassId) (D : va_G) (sa sv : Nat → Nat) , zC l yX12_readsThing cX12_readsThing 2 (some .boolean) d layM ad ca D (xtM ad sa sv) [.ref (ad 0)] zvi ((p_X12_readsThing_g n).1 ())) ∧ (∀ (l : Launch) (ad : Nat → Nat) (ca : FieldType → ClassId) (D : va_G) (sa sv : Nat → Nat) (a1 : Int32), zC l yX12_readsRank cX12_readsRank 4 (some .boolean) d layM ad ca D (xtM ad sa sv) [.ref (ad 0), .int a1] zvi ((p_X12_readsThing_g n).2 a1))
  | 0, d, h => ⟨fun _ _ _ _ _ _  S r S2 h => (by cases h), fun _ _ _ _ _ _ _ S r S2 h => (by cases h)⟩
  | n + 1, d, h => by
    have hG := c_X12_readsThing_g n (d - 1) (by omega)
    exact ⟨fun l ad ca D sa sv  => c_X12_readsThing_s _ d (by omega) hG , fun l ad ca D sa sv a1 => c_X12_readsRank_s _ d (by omega) hG a1⟩
theorem c_X12_readsThing {l : Launch} {ad : Nat → Nat} {ca : FieldType → ClassId} {D : va_G} {sa sv : Nat → Nat}  : zC l yX12_readsThing cX12_readsThing 2 (some .boolean) 106 layM ad ca D (xtM ad sa sv) [.ref (ad 0)] zvi (p_X12_readsThing) := (c_X12_readsThing_g zDP 106 (Nat.le_of_eq (by rw [zDP_eq]))).1 _ _ _ _ _ _ 
theorem c_X12_readsRank {l : Launch} {ad : Nat → Nat} {ca : FieldType → ClassId} {D : va_G} {sa sv : Nat → Nat} (a1 : Int32) : zC l yX12_readsRank cX12_readsRank 4 (some .boolean) 106 layM ad ca D (xtM ad sa sv) [.ref (ad 0), .int a1] zvi (p_X12_readsRank a1) := (c_X12_readsThing_g zDP 106 (Nat.le_of_eq (by rw [zDP_eq]))).2 _ _ _ _ _ _ a1
set_option maxRecDepth 100000 in
set_option maxHeartbeats 4000000 in
theorem c_X12_rule {l : Launch} {ad : Nat → Nat} {ca : FieldType → ClassId} {D : va_G} {sa sv : Nat → Nat}  : zC l yX12_rule cX12_rule 5 (some .int) 107 layM ad ca D (xtM ad sa sv) [.ref (ad 0)] zvi (p_X12_rule) := by
  refine z_enter (by decide) (Nat.le_of_ble_eq_true rfl) (fun E hE hl0 hcD hr => ?_)
  have hE : zok layM ad (xtM ad sa sv) E cX12_rule 5 RX12 107 := hE
  show Z layM ad E 5 (zFin layM ad E zvi) 0 [(0, .ref (ad 0))] [] (p_X12_rule)
  unfold p_X12_rule
  refine z_aload_n (pc := 0) hE 0 0 rfl rfl dX12_rule_0 ?_
  refine z_iconst (pc := 1) hE dX12_rule_1 qM_iconst_0 ?_
  refine z_puti (pc := 2) hE fk_RX12_117 lM_0 rfl dX12_rule_2 ?_
  refine z_aload_n (pc := 5) hE 0 0 rfl rfl dX12_rule_5 ?_
  refine z_bipush (pc := 6) hE dX12_rule_6 qM_bipush_40 ?_
  refine z_callVi (pc := 8) (st := []) [.int ((40 : Int32))] hE kk_RX12_194 (c_X12_begins ((40 : Int32))) lM_0 rfl rfl rfl (Nat.le_of_ble_eq_true rfl) (by decide) dX12_rule_8 (fun x1 => ?_)
  refine z_istore_n (L' := [(1, .int x1), (0, .ref (ad 0))]) (pc := 11) hE 1 rfl (by decide) rfl dX12_rule_11 ?_
  refine z_aload_n (pc := 12) hE 1 0 rfl rfl dX12_rule_12 ?_
  refine z_iconst (pc := 13) hE dX12_rule_13 qM_iconst_0 ?_
  refine z_puti (pc := 14) hE fk_RX12_227 lM_0 rfl dX12_rule_14 ?_
  refine z_iload_n (pc := 17) hE 0 1 rfl rfl dX12_rule_17 ?_
  refine z_join (Y := Int32) (pcJ := 34) (Lj := fun y2 => [(0, .ref (ad 0)), (1, .int x1)]) (sj := fun y2 => [.int y2]) (fun y2 => ?_) (fun j3 hj3 => ?_)
  · refine z_istore_n (L' := [(2, .int y2), (0, .ref (ad 0)), (1, .int x1)]) (pc := 34) hE 2 rfl (by decide) rfl dX12_rule_34 ?_
    refine z_aload_n (pc := 35) hE 1 0 rfl rfl dX12_rule_35 ?_
    refine z_iload_n (pc := 36) hE 2 1 rfl rfl dX12_rule_36 ?_
    refine z_bipush (pc := 37) hE dX12_rule_37 qM_bipush_40 ?_
    refine z_iload_n (pc := 39) hE 0 2 rfl rfl dX12_rule_39 ?_
    refine z_callVi (pc := 40) (st := []) [.int x1, .int ((40 : Int32)), .int y2] hE kk_RX12_204 (c_X12_faultOf x1 ((40 : Int32)) y2) lM_0 rfl rfl rfl (Nat.le_of_ble_eq_true rfl) (by decide) dX12_rule_40 (fun x4 => ?_)
    refine z_istore_n (L' := [(3, .int x4), (2, .int y2), (0, .ref (ad 0)), (1, .int x1)]) (pc := 43) hE 3 rfl (by decide) rfl dX12_rule_43 ?_
    refine z_iload_n (pc := 44) hE 0 3 rfl rfl dX12_rule_44 ?_
    refine z_if_ge (pc := 45) hE 50 rfl dX12_rule_45 ?_ ?_
    · refine z_aload_n (pc := 50) hE 2 0 rfl rfl dX12_rule_50 ?_
      refine z_aload_n (pc := 51) hE 2 0 rfl rfl dX12_rule_51 ?_
      refine z_geti (pc := 52) hE fk_RX12_227 lM_0 rfl dX12_rule_52 (fun x5 => ?_)
      refine z_puti (pc := 55) hE fk_RX12_248 lM_0 rfl dX12_rule_55 ?_
      refine z_iconst (pc := 58) hE dX12_rule_58 qM_iconst_0 ?_
      refine z_istore (L' := [(4, .int ((0 : Int32))), (3, .int x4), (2, .int y2), (0, .ref (ad 0)), (1, .int x1)]) (pc := 59) hE (by decide) rfl dX12_rule_59 ?_
      refine z_sub (L' := [(0, .ref (ad 0)), (4, .int ((0 : Int32)))]) [3, 0] rfl ?_
      refine z_loop (V := Int32) (X := Unit) (hd := 61) (ex := 90) (Lh := fun v6 => [(0, .ref (ad 0)), (4, .int v6)]) (Lx := fun e9 => []) (fun rc8 k7 hrc8 hk7 v6 => ?_) zNF ((0 : Int32)) _ (fun e9 => ?_)
      · unfold p_X12_rule_b61
        refine z_iload (pc := 61) hE 1 rfl dX12_rule_61 ?_
        refine z_aload_n (pc := 63) hE 0 0 rfl rfl dX12_rule_63 ?_
        refine z_geti (pc := 64) hE fk_RX12_227 lM_0 rfl dX12_rule_64 (fun x10 => ?_)
        refine z_icmp_ge (pc := 67) hE 90 rfl dX12_rule_67 ?_ ?_
        · exact z_sub [] rfl (hk7 ())
        · refine z_aload_n (pc := 70) hE 0 0 rfl rfl dX12_rule_70 ?_
          refine z_getr (pc := 71) hE fk_RX12_44 lM_0 rfl dX12_rule_71 ?_
          refine z_iload (pc := 74) hE 1 rfl dX12_rule_74 ?_
          refine z_aload_n (pc := 76) hE 0 0 rfl rfl dX12_rule_76 ?_
          refine z_getr (pc := 77) hE fk_RX12_47 lM_0 rfl dX12_rule_77 ?_
          refine z_iload (pc := 80) hE 1 rfl dX12_rule_80 ?_
          refine z_iald (pc := 82) hE lM_13 dX12_rule_82 (fun x11 => ?_)
          refine z_iast (pc := 83) hE lM_12 dX12_rule_83 ?_
          refine z_iinc (L' := [(4, .int (v6 + (1 : Int32))), (0, .ref (ad 0))]) (pc := 84) hE 1 rfl (zinc qM_iconst_1) (by decide) rfl dX12_rule_84 ?_
          refine z_goto (pc := 87) hE 61 rfl dX12_rule_87 ?_
          exact z_sub [1, 0] rfl (hrc8 (v6 + (1 : Int32)))
      · refine z_iconst (pc := 90) hE dX12_rule_90 qM_iconst_0 ?_
        exact z_ireturn (pc := 91) hE hr dX12_rule_91
    · refine z_iload_n (pc := 48) hE 0 3 rfl rfl dX12_rule_48 ?_
      exact z_ireturn (pc := 49) hE hr dX12_rule_49
  refine z_join (Y := Unit) (pcJ := 29) (Lj := fun y12 => [(0, .ref (ad 0)), (1, .int x1)]) (sj := fun y12 => []) (fun y12 => ?_) (fun j13 hj13 => ?_)
  · refine z_iconst (pc := 29) hE dX12_rule_29 qM_iconst_1 ?_
    refine z_goto (pc := 30) hE 34 rfl dX12_rule_30 ?_
    exact z_sub [0, 1] rfl (hj3 ((1 : Int32)))
  refine z_if_eq (pc := 18) hE 29 rfl dX12_rule_18 ?_ ?_
  · exact z_sub [1, 0] rfl (hj13 ())
  · refine z_aload_n (pc := 21) hE 1 0 rfl rfl dX12_rule_21 ?_
    refine z_iconst (pc := 22) hE dX12_rule_22 qM_iconst_0 ?_
    refine z_callVi (pc := 23) (st := []) [.int ((0 : Int32))] hE kk_RX12_239 (c_X12_readsRank ((0 : Int32))) lM_0 rfl rfl rfl (Nat.le_of_ble_eq_true rfl) (by decide) dX12_rule_23 (fun x14 => ?_)
    refine z_if_eq (pc := 26) hE 33 rfl dX12_rule_26 ?_ ?_
    · refine z_iconst (pc := 33) hE dX12_rule_33 qM_iconst_0 ?_
      exact z_sub [1, 0] rfl (hj3 ((0 : Int32)))
    · exact z_sub [1, 0] rfl (hj13 ())
set_option maxRecDepth 100000 in
set_option maxHeartbeats 4000000 in
theorem c_X12_worked {l : Launch} {ad : Nat → Nat} {ca : FieldType → ClassId} {D : va_G} {sa sv : Nat → Nat} (a1 : Int32) (a2 : Int32) (a3 : Int32) : zC l yX12_worked cX12_worked 3 (some .int) 1 layM ad ca D (xtM ad sa sv) [.int a1, .int a2, .int a3] zvi (p_X12_worked a1 a2 a3) := by
  refine z_enter (by decide) (Nat.le_of_ble_eq_true rfl) (fun E hE hl0 hcD hr => ?_)
  have hE : zok layM ad (xtM ad sa sv) E cX12_worked 3 RX12 1 := hE
  show Z layM ad E 3 (zFin layM ad E zvi) 0 [(0, .int a1), (1, .int a2), (2, .int a3)] [] (p_X12_worked a1 a2 a3)
  unfold p_X12_worked
  refine z_iload_n (pc := 0) hE 0 0 rfl rfl dX12_worked_0 ?_
  refine z_case a1 (0 : Int32) (fun hc1 => ?_) (fun hc1 => ?_)
  · refine z_tableIn (pc := 1) hE 39 40 dX12_worked_1 (by rw [hc1]; decide) (by rw [hc1]; decide) (by rw [hc1]; rfl) rfl ?_
    refine z_iload_n (pc := 40) hE 1 1 rfl rfl dX12_worked_40 ?_
    refine z_iload_n (pc := 41) hE 2 2 rfl rfl dX12_worked_41 ?_
    refine z_join (Y := Int32) (pcJ := 50) (Lj := fun y2 => []) (sj := fun y2 => [.int y2]) (fun y2 => ?_) (fun j3 hj3 => ?_)
    · refine z_callSi (pc := 50) (st := []) [.int y2] hE kk_RX12_156 (c_X12_flag y2) rfl rfl (Nat.le_of_ble_eq_true rfl) (by decide) dX12_worked_50 (fun x4 => ?_)
      exact z_ireturn (pc := 53) hE hr dX12_worked_53
    refine z_icmp_ge (pc := 42) hE 49 rfl dX12_worked_42 ?_ ?_
    · refine z_iconst (pc := 49) hE dX12_worked_49 qM_iconst_0 ?_
      exact z_sub [] rfl (hj3 ((0 : Int32)))
    · refine z_iconst (pc := 45) hE dX12_worked_45 qM_iconst_1 ?_
      refine z_goto (pc := 46) hE 50 rfl dX12_worked_46 ?_
      exact z_sub [] rfl (hj3 ((1 : Int32)))
  refine z_case a1 (1 : Int32) (fun hc5 => ?_) (fun hc5 => ?_)
  · refine z_tableIn (pc := 1) hE 53 54 dX12_worked_1 (by rw [hc5]; decide) (by rw [hc5]; decide) (by rw [hc5]; rfl) rfl ?_
    refine z_iload_n (pc := 54) hE 1 1 rfl rfl dX12_worked_54 ?_
    refine z_iload_n (pc := 55) hE 2 2 rfl rfl dX12_worked_55 ?_
    refine z_join (Y := Int32) (pcJ := 64) (Lj := fun y6 => []) (sj := fun y6 => [.int y6]) (fun y6 => ?_) (fun j7 hj7 => ?_)
    · refine z_callSi (pc := 64) (st := []) [.int y6] hE kk_RX12_156 (c_X12_flag y6) rfl rfl (Nat.le_of_ble_eq_true rfl) (by decide) dX12_worked_64 (fun x8 => ?_)
      exact z_ireturn (pc := 67) hE hr dX12_worked_67
    refine z_icmp_le (pc := 56) hE 63 rfl dX12_worked_56 ?_ ?_
    · refine z_iconst (pc := 63) hE dX12_worked_63 qM_iconst_0 ?_
      exact z_sub [] rfl (hj7 ((0 : Int32)))
    · refine z_iconst (pc := 59) hE dX12_worked_59 qM_iconst_1 ?_
      refine z_goto (pc := 60) hE 64 rfl dX12_worked_60 ?_
      exact z_sub [] rfl (hj7 ((1 : Int32)))
  refine z_case a1 (2 : Int32) (fun hc9 => ?_) (fun hc9 => ?_)
  · refine z_tableIn (pc := 1) hE 67 68 dX12_worked_1 (by rw [hc9]; decide) (by rw [hc9]; decide) (by rw [hc9]; rfl) rfl ?_
    refine z_iload_n (pc := 68) hE 1 1 rfl rfl dX12_worked_68 ?_
    refine z_iload_n (pc := 69) hE 2 2 rfl rfl dX12_worked_69 ?_
    refine z_join (Y := Int32) (pcJ := 78) (Lj := fun y10 => []) (sj := fun y10 => [.int y10]) (fun y10 => ?_) (fun j11 hj11 => ?_)
    · refine z_callSi (pc := 78) (st := []) [.int y10] hE kk_RX12_156 (c_X12_flag y10) rfl rfl (Nat.le_of_ble_eq_true rfl) (by decide) dX12_worked_78 (fun x12 => ?_)
      exact z_ireturn (pc := 81) hE hr dX12_worked_81
    refine z_icmp_ne (pc := 70) hE 77 rfl dX12_worked_70 ?_ ?_
    · refine z_iconst (pc := 77) hE dX12_worked_77 qM_iconst_0 ?_
      exact z_sub [] rfl (hj11 ((0 : Int32)))
    · refine z_iconst (pc := 73) hE dX12_worked_73 qM_iconst_1 ?_
      refine z_goto (pc := 74) hE 78 rfl dX12_worked_74 ?_
      exact z_sub [] rfl (hj11 ((1 : Int32)))
  refine z_case a1 (3 : Int32) (fun hc13 => ?_) (fun hc13 => ?_)
  · refine z_tableIn (pc := 1) hE 81 82 dX12_worked_1 (by rw [hc13]; decide) (by rw [hc13]; decide) (by rw [hc13]; rfl) rfl ?_
    refine z_iload_n (pc := 82) hE 1 1 rfl rfl dX12_worked_82 ?_
    refine z_iload_n (pc := 83) hE 2 2 rfl rfl dX12_worked_83 ?_
    refine z_iadd (pc := 84) hE dX12_worked_84 ?_
    exact z_ireturn (pc := 85) hE hr dX12_worked_85
  refine z_case a1 (4 : Int32) (fun hc14 => ?_) (fun hc14 => ?_)
  · refine z_tableIn (pc := 1) hE 85 86 dX12_worked_1 (by rw [hc14]; decide) (by rw [hc14]; decide) (by rw [hc14]; rfl) rfl ?_
    refine z_iload_n (pc := 86) hE 1 1 rfl rfl dX12_worked_86 ?_
    refine z_iload_n (pc := 87) hE 2 2 rfl rfl dX12_worked_87 ?_
    refine z_isub (pc := 88) hE dX12_worked_88 ?_
    exact z_ireturn (pc := 89) hE hr dX12_worked_89
  refine z_case a1 (5 : Int32) (fun hc15 => ?_) (fun hc15 => ?_)
  · refine z_tableIn (pc := 1) hE 89 90 dX12_worked_1 (by rw [hc15]; decide) (by rw [hc15]; decide) (by rw [hc15]; rfl) rfl ?_
    refine z_iload_n (pc := 90) hE 1 1 rfl rfl dX12_worked_90 ?_
    refine z_iload_n (pc := 91) hE 2 2 rfl rfl dX12_worked_91 ?_
    refine z_imul (pc := 92) hE dX12_worked_92 ?_
    exact z_ireturn (pc := 93) hE hr dX12_worked_93
  have ihc1 := zne (0) hc1 (by decide)
  have ihc5 := zne (1) hc5 (by decide)
  have ihc9 := zne (2) hc9 (by decide)
  have ihc13 := zne (3) hc13 (by decide)
  have ihc14 := zne (4) hc14 (by decide)
  have ihc15 := zne (5) hc15 (by decide)
  refine z_tableOut (pc := 1) hE 94 dX12_worked_1 (by omega) rfl ?_
  refine z_iload_n (pc := 94) hE 2 2 rfl rfl dX12_worked_94 ?_
  refine z_if_ne (pc := 95) hE 102 rfl dX12_worked_95 ?_ ?_
  · refine z_iload_n (pc := 102) hE 1 1 rfl rfl dX12_worked_102 ?_
    refine z_iload_n (pc := 103) hE 2 2 rfl rfl dX12_worked_103 ?_
    refine z_idiv (pc := 104) hE dX12_worked_104 ?_
    exact z_ireturn (pc := 105) hE hr dX12_worked_105
  · refine z_iconst (pc := 98) hE dX12_worked_98 qM_iconst_0 ?_
    refine z_goto (pc := 99) hE 105 rfl dX12_worked_99 ?_
    exact z_ireturn (pc := 105) hE hr dX12_worked_105
set_option maxRecDepth 100000 in
set_option maxHeartbeats 4000000 in
theorem c_X12_ruled {l : Launch} {ad : Nat → Nat} {ca : FieldType → ClassId} {D : va_G} {sa sv : Nat → Nat}  : zC l yX12_ruled cX12_ruled 4 (some .int) 2 layM ad ca D (xtM ad sa sv) [.ref (ad 0)] zvi (p_X12_ruled) := by
  refine z_enter (by decide) (Nat.le_of_ble_eq_true rfl) (fun E hE hl0 hcD hr => ?_)
  have hE : zok layM ad (xtM ad sa sv) E cX12_ruled 4 RX12 2 := hE
  show Z layM ad E 4 (zFin layM ad E zvi) 0 [(0, .ref (ad 0))] [] (p_X12_ruled)
  unfold p_X12_ruled
  refine z_iconst (pc := 0) hE dX12_ruled_0 qM_iconst_0 ?_
  refine z_istore_n (L' := [(1, .int ((0 : Int32))), (0, .ref (ad 0))]) (pc := 1) hE 1 rfl (by decide) rfl dX12_ruled_1 ?_
  refine z_iconst (pc := 2) hE dX12_ruled_2 qM_iconst_0 ?_
  refine z_istore_n (L' := [(2, .int ((0 : Int32))), (1, .int ((0 : Int32))), (0, .ref (ad 0))]) (pc := 3) hE 2 rfl (by decide) rfl dX12_ruled_3 ?_
  refine z_sub (L' := [(0, .ref (ad 0)), (1, .int ((0 : Int32))), (2, .int ((0 : Int32)))]) [2, 1, 0] rfl ?_
  refine z_loop (V := (Int32 × Int32)) (X := Unit) (hd := 4) (ex := 125) (Lh := fun v1 => [(0, .ref (ad 0)), (1, .int v1.1), (2, .int v1.2)]) (Lx := fun e4 => [(0, .ref (ad 0))]) (fun rc3 k2 hrc3 hk2 v1 => ?_) zNF ((0 : Int32), (0 : Int32)) _ (fun e4 => ?_)
  · unfold p_X12_ruled_b4
    refine z_iload_n (pc := 4) hE 2 2 rfl rfl dX12_ruled_4 ?_
    refine z_aload_n (pc := 5) hE 0 0 rfl rfl dX12_ruled_5 ?_
    refine z_geti (pc := 6) hE fk_RX12_248 lM_0 rfl dX12_ruled_6 (fun x5 => ?_)
    refine z_icmp_ge (pc := 9) hE 125 rfl dX12_ruled_9 ?_ ?_
    · exact z_sub [0] rfl (hk2 ())
    · refine z_aload_n (pc := 12) hE 0 0 rfl rfl dX12_ruled_12 ?_
      refine z_getr (pc := 13) hE fk_RX12_44 lM_0 rfl dX12_ruled_13 ?_
      refine z_iload_n (pc := 16) hE 2 2 rfl rfl dX12_ruled_16 ?_
      refine z_iald (pc := 17) hE lM_12 dX12_ruled_17 (fun x6 => ?_)
      refine z_istore_n (L' := [(3, .int x6), (0, .ref (ad 0)), (1, .int v1.1), (2, .int v1.2)]) (pc := 18) hE 3 rfl (by decide) rfl dX12_ruled_18 ?_
      refine z_iload_n (pc := 19) hE 0 3 rfl rfl dX12_ruled_19 ?_
      refine z_sipush (pc := 20) hE dX12_ruled_20 qM_sipush_3000 ?_
      refine z_join (Y := Int32) (pcJ := 119) (Lj := fun y7 => [(0, .ref (ad 0)), (1, .int y7), (2, .int v1.2)]) (sj := fun y7 => []) (fun y7 => ?_) (fun j8 hj8 => ?_)
      · refine z_iinc (L' := [(2, .int (v1.2 + (1 : Int32))), (0, .ref (ad 0)), (1, .int y7)]) (pc := 119) hE 2 rfl (zinc qM_iconst_1) (by decide) rfl dX12_ruled_119 ?_
        refine z_goto (pc := 122) hE 4 rfl dX12_ruled_122 ?_
        exact z_sub [1, 2, 0] rfl (hrc3 (y7, v1.2 + (1 : Int32)))
      refine z_icmp_ne (pc := 23) hE 46 rfl dX12_ruled_23 ?_ ?_
      · refine z_iload_n (pc := 46) hE 0 3 rfl rfl dX12_ruled_46 ?_
        refine z_sipush (pc := 47) hE dX12_ruled_47 qM_sipush_2000 ?_
        refine z_icmp_lt (pc := 50) hE 89 rfl dX12_ruled_50 ?_ ?_
        · refine z_aload_n (pc := 89) hE 1 0 rfl rfl dX12_ruled_89 ?_
          refine z_getr (pc := 90) hE fk_RX12_50 lM_0 rfl dX12_ruled_90 ?_
          refine z_iload_n (pc := 93) hE 2 1 rfl rfl dX12_ruled_93 ?_
          refine z_iload_n (pc := 94) hE 0 3 rfl rfl dX12_ruled_94 ?_
          refine z_sipush (pc := 95) hE dX12_ruled_95 qM_sipush_1000 ?_
          refine z_join (Y := Int32) (pcJ := 115) (Lj := fun y9 => [(0, .ref (ad 0)), (1, .int v1.1), (2, .int v1.2)]) (sj := fun y9 => [.int y9, .int v1.1, .ref (ad 14)]) (fun y9 => ?_) (fun j10 hj10 => ?_)
          · refine z_iast (pc := 115) hE lM_14 dX12_ruled_115 ?_
            refine z_iinc (L' := [(1, .int (v1.1 + (1 : Int32))), (0, .ref (ad 0)), (2, .int v1.2)]) (pc := 116) hE 1 rfl (zinc qM_iconst_1) (by decide) rfl dX12_ruled_116 ?_
            exact z_sub [1, 0, 2] rfl (hj8 (v1.1 + (1 : Int32)))
          refine z_icmp_lt (pc := 98) hE 114 rfl dX12_ruled_98 ?_ ?_
          · refine z_iload_n (pc := 114) hE 0 3 rfl rfl dX12_ruled_114 ?_
            exact z_sub [1, 2, 3] rfl (hj10 x6)
          · refine z_aload_n (pc := 101) hE 1 0 rfl rfl dX12_ruled_101 ?_
            refine z_getr (pc := 102) hE fk_RX12_53 lM_0 rfl dX12_ruled_102 ?_
            refine z_iload_n (pc := 105) hE 0 3 rfl rfl dX12_ruled_105 ?_
            refine z_sipush (pc := 106) hE dX12_ruled_106 qM_sipush_1000 ?_
            refine z_isub (pc := 109) hE dX12_ruled_109 ?_
            refine z_iald (pc := 110) hE lM_15 dX12_ruled_110 (fun x11 => ?_)
            refine z_goto (pc := 111) hE 115 rfl dX12_ruled_111 ?_
            exact z_sub [1, 2, 3] rfl (hj10 x11)
        · refine z_iinc (L' := [(1, .int (v1.1 + (-1 : Int32))), (3, .int x6), (0, .ref (ad 0)), (2, .int v1.2)]) (pc := 53) hE 2 rfl (zinc qM_iconst_m1) (by decide) rfl dX12_ruled_53 ?_
          refine z_aload_n (pc := 56) hE 2 0 rfl rfl dX12_ruled_56 ?_
          refine z_getr (pc := 57) hE fk_RX12_50 lM_0 rfl dX12_ruled_57 ?_
          refine z_iload_n (pc := 60) hE 0 1 rfl rfl dX12_ruled_60 ?_
          refine z_iconst (pc := 61) hE dX12_ruled_61 qM_iconst_1 ?_
          refine z_isub (pc := 62) hE dX12_ruled_62 ?_
          refine z_iload_n (pc := 63) hE 1 3 rfl rfl dX12_ruled_63 ?_
          refine z_sipush (pc := 64) hE dX12_ruled_64 qM_sipush_2000 ?_
          refine z_isub (pc := 67) hE dX12_ruled_67 ?_
          refine z_aload_n (pc := 68) hE 2 0 rfl rfl dX12_ruled_68 ?_
          refine z_getr (pc := 69) hE fk_RX12_50 lM_0 rfl dX12_ruled_69 ?_
          refine z_iload_n (pc := 72) hE 0 1 rfl rfl dX12_ruled_72 ?_
          refine z_iconst (pc := 73) hE dX12_ruled_73 qM_iconst_1 ?_
          refine z_isub (pc := 74) hE dX12_ruled_74 ?_
          refine z_iald (pc := 75) hE lM_14 dX12_ruled_75 (fun x12 => ?_)
          refine z_aload_n (pc := 76) hE 2 0 rfl rfl dX12_ruled_76 ?_
          refine z_getr (pc := 77) hE fk_RX12_50 lM_0 rfl dX12_ruled_77 ?_
          refine z_iload_n (pc := 80) hE 0 1 rfl rfl dX12_ruled_80 ?_
          refine z_iald (pc := 81) hE lM_14 dX12_ruled_81 (fun x13 => ?_)
          refine z_callSi (pc := 82) (st := [.int ((v1.1 + (-1 : Int32)) - ((1 : Int32))), .ref (ad 14)]) [.int (x6 - ((2000 : Int32))), .int x12, .int x13] hE kk_RX12_251 (c_X12_worked (x6 - ((2000 : Int32))) x12 x13) rfl rfl (Nat.le_of_ble_eq_true rfl) (by decide) dX12_ruled_82 (fun x14 => ?_)
          refine z_iast (pc := 85) hE lM_14 dX12_ruled_85 ?_
          refine z_goto (pc := 86) hE 119 rfl dX12_ruled_86 ?_
          exact z_sub [2, 0, 3] rfl (hj8 (v1.1 + (-1 : Int32)))
      · refine z_aload_n (pc := 26) hE 1 0 rfl rfl dX12_ruled_26 ?_
        refine z_getr (pc := 27) hE fk_RX12_50 lM_0 rfl dX12_ruled_27 ?_
        refine z_iload_n (pc := 30) hE 2 1 rfl rfl dX12_ruled_30 ?_
        refine z_iconst (pc := 31) hE dX12_ruled_31 qM_iconst_1 ?_
        refine z_isub (pc := 32) hE dX12_ruled_32 ?_
        refine z_aload_n (pc := 33) hE 1 0 rfl rfl dX12_ruled_33 ?_
        refine z_getr (pc := 34) hE fk_RX12_50 lM_0 rfl dX12_ruled_34 ?_
        refine z_iload_n (pc := 37) hE 2 1 rfl rfl dX12_ruled_37 ?_
        refine z_iconst (pc := 38) hE dX12_ruled_38 qM_iconst_1 ?_
        refine z_isub (pc := 39) hE dX12_ruled_39 ?_
        refine z_iald (pc := 40) hE lM_14 dX12_ruled_40 (fun x15 => ?_)
        refine z_ineg (pc := 41) hE dX12_ruled_41 ?_
        refine z_iast (pc := 42) hE lM_14 dX12_ruled_42 ?_
        refine z_goto (pc := 43) hE 119 rfl dX12_ruled_43 ?_
        exact z_sub [1, 2, 3] rfl (hj8 v1.1)
  · refine z_aload_n (pc := 125) hE 0 0 rfl rfl dX12_ruled_125 ?_
    refine z_geti (pc := 126) hE fk_RX12_248 lM_0 rfl dX12_ruled_126 (fun x16 => ?_)
    refine z_if_ne (pc := 129) hE 166 rfl dX12_ruled_129 ?_ ?_
    · refine z_aload_n (pc := 166) hE 0 0 rfl rfl dX12_ruled_166 ?_
      refine z_getr (pc := 167) hE fk_RX12_50 lM_0 rfl dX12_ruled_167 ?_
      refine z_iconst (pc := 170) hE dX12_ruled_170 qM_iconst_0 ?_
      refine z_iald (pc := 171) hE lM_14 dX12_ruled_171 (fun x17 => ?_)
      exact z_ireturn (pc := 172) hE hr dX12_ruled_172
    · refine z_aload_n (pc := 132) hE 0 0 rfl rfl dX12_ruled_132 ?_
      refine z_getr (pc := 133) hE fk_RX12_53 lM_0 rfl dX12_ruled_133 ?_
      refine z_iconst (pc := 136) hE dX12_ruled_136 qM_iconst_0 ?_
      refine z_iald (pc := 137) hE lM_15 dX12_ruled_137 (fun x18 => ?_)
      refine z_iconst (pc := 138) hE dX12_ruled_138 qM_iconst_5 ?_
      refine z_aload_n (pc := 139) hE 0 0 rfl rfl dX12_ruled_139 ?_
      refine z_getr (pc := 140) hE fk_RX12_53 lM_0 rfl dX12_ruled_140 ?_
      refine z_iconst (pc := 143) hE dX12_ruled_143 qM_iconst_1 ?_
      refine z_iald (pc := 144) hE lM_15 dX12_ruled_144 (fun x19 => ?_)
      refine z_imul (pc := 145) hE dX12_ruled_145 ?_
      refine z_isub (pc := 146) hE dX12_ruled_146 ?_
      refine z_iconst (pc := 147) hE dX12_ruled_147 qM_iconst_4 ?_
      refine z_aload_n (pc := 148) hE 0 0 rfl rfl dX12_ruled_148 ?_
      refine z_getr (pc := 149) hE fk_RX12_53 lM_0 rfl dX12_ruled_149 ?_
      refine z_iconst (pc := 152) hE dX12_ruled_152 qM_iconst_2 ?_
      refine z_iald (pc := 153) hE lM_15 dX12_ruled_153 (fun x20 => ?_)
      refine z_imul (pc := 154) hE dX12_ruled_154 ?_
      refine z_isub (pc := 155) hE dX12_ruled_155 ?_
      refine z_aload_n (pc := 156) hE 0 0 rfl rfl dX12_ruled_156 ?_
      refine z_getr (pc := 157) hE fk_RX12_53 lM_0 rfl dX12_ruled_157 ?_
      refine z_iconst (pc := 160) hE dX12_ruled_160 qM_iconst_5 ?_
      refine z_iald (pc := 161) hE lM_15 dX12_ruled_161 (fun x21 => ?_)
      refine z_isub (pc := 162) hE dX12_ruled_162 ?_
      refine z_goto (pc := 163) hE 172 rfl dX12_ruled_163 ?_
      exact z_ireturn (pc := 172) hE hr dX12_ruled_172
set_option maxRecDepth 100000 in
set_option maxHeartbeats 4000000 in
theorem c_X12_liftOf {l : Launch} {ad : Nat → Nat} {ca : FieldType → ClassId} {D : va_G} {sa sv : Nat → Nat} (r : Nat) (hr0 : layM[r]? = some (.inr (.int, 43))) (a2 : Int32) : zC l yX12_liftOf cX12_liftOf 3 (some .int) 3 layM ad ca D (xtM ad sa sv) [.ref (ad 0), .ref (ad r), .int a2] zvi (p_X12_liftOf r a2) := by
  refine z_enter (by decide) (Nat.le_of_ble_eq_true rfl) (fun E hE hl0 hcD hr => ?_)
  have hE : zok layM ad (xtM ad sa sv) E cX12_liftOf 3 RX12 3 := hE
  show Z layM ad E 3 (zFin layM ad E zvi) 0 [(0, .ref (ad 0)), (1, .ref (ad r)), (2, .int a2)] [] (p_X12_liftOf r a2)
  unfold p_X12_liftOf
  refine z_aload_n (pc := 0) hE 0 0 rfl rfl dX12_liftOf_0 ?_
  refine z_getr (pc := 1) hE fk_RX12_53 lM_0 rfl dX12_liftOf_1 ?_
  refine z_iconst (pc := 4) hE dX12_liftOf_4 qM_iconst_0 ?_
  refine z_aload_n (pc := 5) hE 1 1 rfl rfl dX12_liftOf_5 ?_
  refine z_bipush (pc := 6) hE dX12_liftOf_6 qM_bipush_7 ?_
  refine z_iload_n (pc := 8) hE 2 2 rfl rfl dX12_liftOf_8 ?_
  refine z_imul (pc := 9) hE dX12_liftOf_9 ?_
  refine z_iconst (pc := 10) hE dX12_liftOf_10 qM_iconst_0 ?_
  refine z_iadd (pc := 11) hE dX12_liftOf_11 ?_
  refine z_iald (pc := 12) hE hr0 dX12_liftOf_12 (fun x1 => ?_)
  refine z_iast (pc := 13) hE lM_15 dX12_liftOf_13 ?_
  refine z_aload_n (pc := 14) hE 0 0 rfl rfl dX12_liftOf_14 ?_
  refine z_getr (pc := 15) hE fk_RX12_53 lM_0 rfl dX12_liftOf_15 ?_
  refine z_iconst (pc := 18) hE dX12_liftOf_18 qM_iconst_1 ?_
  refine z_aload_n (pc := 19) hE 1 1 rfl rfl dX12_liftOf_19 ?_
  refine z_bipush (pc := 20) hE dX12_liftOf_20 qM_bipush_7 ?_
  refine z_iload_n (pc := 22) hE 2 2 rfl rfl dX12_liftOf_22 ?_
  refine z_imul (pc := 23) hE dX12_liftOf_23 ?_
  refine z_iconst (pc := 24) hE dX12_liftOf_24 qM_iconst_1 ?_
  refine z_iadd (pc := 25) hE dX12_liftOf_25 ?_
  refine z_iald (pc := 26) hE hr0 dX12_liftOf_26 (fun x2 => ?_)
  refine z_iast (pc := 27) hE lM_15 dX12_liftOf_27 ?_
  refine z_aload_n (pc := 28) hE 0 0 rfl rfl dX12_liftOf_28 ?_
  refine z_getr (pc := 29) hE fk_RX12_53 lM_0 rfl dX12_liftOf_29 ?_
  refine z_iconst (pc := 32) hE dX12_liftOf_32 qM_iconst_2 ?_
  refine z_aload_n (pc := 33) hE 1 1 rfl rfl dX12_liftOf_33 ?_
  refine z_bipush (pc := 34) hE dX12_liftOf_34 qM_bipush_7 ?_
  refine z_iload_n (pc := 36) hE 2 2 rfl rfl dX12_liftOf_36 ?_
  refine z_imul (pc := 37) hE dX12_liftOf_37 ?_
  refine z_iconst (pc := 38) hE dX12_liftOf_38 qM_iconst_2 ?_
  refine z_iadd (pc := 39) hE dX12_liftOf_39 ?_
  refine z_iald (pc := 40) hE hr0 dX12_liftOf_40 (fun x3 => ?_)
  refine z_iast (pc := 41) hE lM_15 dX12_liftOf_41 ?_
  refine z_aload_n (pc := 42) hE 0 0 rfl rfl dX12_liftOf_42 ?_
  refine z_getr (pc := 43) hE fk_RX12_53 lM_0 rfl dX12_liftOf_43 ?_
  refine z_iconst (pc := 46) hE dX12_liftOf_46 qM_iconst_3 ?_
  refine z_aload_n (pc := 47) hE 0 0 rfl rfl dX12_liftOf_47 ?_
  refine z_getr (pc := 48) hE fk_RX12_23 lM_0 rfl dX12_liftOf_48 ?_
  refine z_iload_n (pc := 51) hE 2 2 rfl rfl dX12_liftOf_51 ?_
  refine z_iald (pc := 52) hE lM_5 dX12_liftOf_52 (fun x4 => ?_)
  refine z_iast (pc := 53) hE lM_15 dX12_liftOf_53 ?_
  refine z_aload_n (pc := 54) hE 0 0 rfl rfl dX12_liftOf_54 ?_
  refine z_getr (pc := 55) hE fk_RX12_53 lM_0 rfl dX12_liftOf_55 ?_
  refine z_iconst (pc := 58) hE dX12_liftOf_58 qM_iconst_4 ?_
  refine z_aload_n (pc := 59) hE 0 0 rfl rfl dX12_liftOf_59 ?_
  refine z_getr (pc := 60) hE fk_RX12_20 lM_0 rfl dX12_liftOf_60 ?_
  refine z_iload_n (pc := 63) hE 2 2 rfl rfl dX12_liftOf_63 ?_
  refine z_iald (pc := 64) hE lM_4 dX12_liftOf_64 (fun x5 => ?_)
  refine z_iast (pc := 65) hE lM_15 dX12_liftOf_65 ?_
  refine z_aload_n (pc := 66) hE 0 0 rfl rfl dX12_liftOf_66 ?_
  refine z_getr (pc := 67) hE fk_RX12_53 lM_0 rfl dX12_liftOf_67 ?_
  refine z_iconst (pc := 70) hE dX12_liftOf_70 qM_iconst_5 ?_
  refine z_aload_n (pc := 71) hE 0 0 rfl rfl dX12_liftOf_71 ?_
  refine z_geti (pc := 72) hE fk_RX12_255 lM_0 rfl dX12_liftOf_72 (fun x6 => ?_)
  refine z_iast (pc := 75) hE lM_15 dX12_liftOf_75 ?_
  refine z_aload_n (pc := 76) hE 0 0 rfl rfl dX12_liftOf_76 ?_
  refine z_getr (pc := 77) hE fk_RX12_53 lM_0 rfl dX12_liftOf_77 ?_
  refine z_bipush (pc := 80) hE dX12_liftOf_80 qM_bipush_6 ?_
  refine z_aload_n (pc := 82) hE 1 1 rfl rfl dX12_liftOf_82 ?_
  refine z_bipush (pc := 83) hE dX12_liftOf_83 qM_bipush_42 ?_
  refine z_iald (pc := 85) hE hr0 dX12_liftOf_85 (fun x7 => ?_)
  refine z_bipush (pc := 86) hE dX12_liftOf_86 qM_bipush_24 ?_
  refine z_irem (pc := 88) hE dX12_liftOf_88 ?_
  refine z_iast (pc := 89) hE lM_15 dX12_liftOf_89 ?_
  refine z_aload_n (pc := 90) hE 0 0 rfl rfl dX12_liftOf_90 ?_
  refine z_getr (pc := 91) hE fk_RX12_53 lM_0 rfl dX12_liftOf_91 ?_
  refine z_bipush (pc := 94) hE dX12_liftOf_94 qM_bipush_7 ?_
  refine z_iload_n (pc := 96) hE 2 2 rfl rfl dX12_liftOf_96 ?_
  refine z_iast (pc := 97) hE lM_15 dX12_liftOf_97 ?_
  refine z_aload_n (pc := 98) hE 0 0 rfl rfl dX12_liftOf_98 ?_
  refine z_callVi (pc := 99) (st := []) [] hE kk_RX12_258 (c_X12_ruled) lM_0 rfl rfl rfl (Nat.le_of_ble_eq_true rfl) (by decide) dX12_liftOf_99 (fun x8 => ?_)
  exact z_ireturn (pc := 102) hE hr dX12_liftOf_102
set_option maxRecDepth 100000 in
set_option maxHeartbeats 4000000 in
theorem c_X12_highOf {l : Launch} {ad : Nat → Nat} {ca : FieldType → ClassId} {D : va_G} {sa sv : Nat → Nat} (r : Nat) (hr0 : layM[r]? = some (.inr (.int, 43))) (a2 : Int32) : zC l yX12_highOf cX12_highOf 3 (some .int) 4 layM ad ca D (xtM ad sa sv) [.ref (ad 0), .ref (ad r), .int a2] zvi (p_X12_highOf r a2) := by
  refine z_enter (by decide) (Nat.le_of_ble_eq_true rfl) (fun E hE hl0 hcD hr => ?_)
  have hE : zok layM ad (xtM ad sa sv) E cX12_highOf 3 RX12 4 := hE
  show Z layM ad E 3 (zFin layM ad E zvi) 0 [(0, .ref (ad 0)), (1, .ref (ad r)), (2, .int a2)] [] (p_X12_highOf r a2)
  unfold p_X12_highOf
  refine z_iconst (pc := 0) hE dX12_highOf_0 qM_iconst_0 ?_
  refine z_bipush (pc := 1) hE dX12_highOf_1 qM_bipush_9 ?_
  refine z_aload_n (pc := 3) hE 0 0 rfl rfl dX12_highOf_3 ?_
  refine z_aload_n (pc := 4) hE 1 1 rfl rfl dX12_highOf_4 ?_
  refine z_iload_n (pc := 5) hE 2 2 rfl rfl dX12_highOf_5 ?_
  refine z_callVi (pc := 6) (st := [.int ((9 : Int32)), .int ((0 : Int32))]) [.ref (ad r), .int a2] hE kk_RX12_261 (c_X12_liftOf r hr0 a2) lM_0 rfl rfl rfl (Nat.le_of_ble_eq_true rfl) (by decide) dX12_highOf_6 (fun x1 => ?_)
  refine z_bipush (pc := 9) hE dX12_highOf_9 qM_bipush_10 ?_
  refine z_idiv (pc := 11) hE dX12_highOf_11 ?_
  refine z_min (pc := 12) hE kk_RX12_147 (Nat.le_of_ble_eq_true rfl) (by decide) dX12_highOf_12 ?_
  refine z_max (pc := 15) hE kk_RX12_265 (Nat.le_of_ble_eq_true rfl) (by decide) dX12_highOf_15 ?_
  exact z_ireturn (pc := 18) hE hr dX12_highOf_18
set_option maxRecDepth 100000 in
set_option maxHeartbeats 4000000 in
theorem c_X12_heavy {l : Launch} {ad : Nat → Nat} {ca : FieldType → ClassId} {D : va_G} {sa sv : Nat → Nat} (a1 : Int32) : zC l yX12_heavy cX12_heavy 2 (some .int) 0 layM ad ca D (xtM ad sa sv) [.ref (ad 0), .int a1] zvi (p_X12_heavy a1) := by
  refine z_enter (by decide) (Nat.le_of_ble_eq_true rfl) (fun E hE hl0 hcD hr => ?_)
  have hE : zok layM ad (xtM ad sa sv) E cX12_heavy 2 RX12 0 := hE
  show Z layM ad E 2 (zFin layM ad E zvi) 0 [(0, .ref (ad 0)), (1, .int a1)] [] (p_X12_heavy a1)
  unfold p_X12_heavy
  refine z_iconst (pc := 0) hE dX12_heavy_0 qM_iconst_5 ?_
  refine z_aload_n (pc := 1) hE 0 0 rfl rfl dX12_heavy_1 ?_
  refine z_getr (pc := 2) hE fk_RX12_32 lM_0 rfl dX12_heavy_2 ?_
  refine z_bipush (pc := 5) hE dX12_heavy_5 qM_bipush_7 ?_
  refine z_iload_n (pc := 7) hE 1 1 rfl rfl dX12_heavy_7 ?_
  refine z_imul (pc := 8) hE dX12_heavy_8 ?_
  refine z_iconst (pc := 9) hE dX12_heavy_9 qM_iconst_1 ?_
  refine z_iadd (pc := 10) hE dX12_heavy_10 ?_
  refine z_iald (pc := 11) hE lM_8 dX12_heavy_11 (fun x1 => ?_)
  refine z_imul (pc := 12) hE dX12_heavy_12 ?_
  refine z_iconst (pc := 13) hE dX12_heavy_13 qM_iconst_4 ?_
  refine z_aload_n (pc := 14) hE 0 0 rfl rfl dX12_heavy_14 ?_
  refine z_getr (pc := 15) hE fk_RX12_32 lM_0 rfl dX12_heavy_15 ?_
  refine z_bipush (pc := 18) hE dX12_heavy_18 qM_bipush_7 ?_
  refine z_iload_n (pc := 20) hE 1 1 rfl rfl dX12_heavy_20 ?_
  refine z_imul (pc := 21) hE dX12_heavy_21 ?_
  refine z_iconst (pc := 22) hE dX12_heavy_22 qM_iconst_2 ?_
  refine z_iadd (pc := 23) hE dX12_heavy_23 ?_
  refine z_iald (pc := 24) hE lM_8 dX12_heavy_24 (fun x2 => ?_)
  refine z_imul (pc := 25) hE dX12_heavy_25 ?_
  refine z_iadd (pc := 26) hE dX12_heavy_26 ?_
  exact z_ireturn (pc := 27) hE hr dX12_heavy_27
set_option maxRecDepth 100000 in
set_option maxHeartbeats 4000000 in
theorem c_X12_mooredAt {l : Launch} {ad : Nat → Nat} {ca : FieldType → ClassId} {D : va_G} {sa sv : Nat → Nat} (a1 : Int32) : zC l yX12_mooredAt cX12_mooredAt 4 (some .int) 1 layM ad ca D (xtM ad sa sv) [.ref (ad 0), .int a1] zvi (p_X12_mooredAt a1) := by
  refine z_enter (by decide) (Nat.le_of_ble_eq_true rfl) (fun E hE hl0 hcD hr => ?_)
  have hE : zok layM ad (xtM ad sa sv) E cX12_mooredAt 4 RX12 1 := hE
  show Z layM ad E 4 (zFin layM ad E zvi) 0 [(0, .ref (ad 0)), (1, .int a1)] [] (p_X12_mooredAt a1)
  unfold p_X12_mooredAt
  refine z_iconst (pc := 0) hE dX12_mooredAt_0 qM_iconst_m1 ?_
  refine z_istore_n (L' := [(2, .int ((-1 : Int32))), (0, .ref (ad 0)), (1, .int a1)]) (pc := 1) hE 2 rfl (by decide) rfl dX12_mooredAt_1 ?_
  refine z_iconst (pc := 2) hE dX12_mooredAt_2 qM_iconst_0 ?_
  refine z_istore_n (L' := [(3, .int ((0 : Int32))), (2, .int ((-1 : Int32))), (0, .ref (ad 0)), (1, .int a1)]) (pc := 3) hE 3 rfl (by decide) rfl dX12_mooredAt_3 ?_
  refine z_sub (L' := [(0, .ref (ad 0)), (1, .int a1), (2, .int ((-1 : Int32))), (3, .int ((0 : Int32)))]) [2, 3, 1, 0] rfl ?_
  refine z_loop (V := (Int32 × Int32)) (X := Int32) (hd := 4) (ex := 48) (Lh := fun v1 => [(0, .ref (ad 0)), (1, .int a1), (2, .int v1.1), (3, .int v1.2)]) (Lx := fun e4 => [(2, .int e4)]) (fun rc3 k2 hrc3 hk2 v1 => ?_) zNF ((-1 : Int32), (0 : Int32)) _ (fun e4 => ?_)
  · unfold p_X12_mooredAt_b4
    refine z_iload_n (pc := 4) hE 3 3 rfl rfl dX12_mooredAt_4 ?_
    refine z_aload_n (pc := 5) hE 0 0 rfl rfl dX12_mooredAt_5 ?_
    refine z_geti (pc := 6) hE fk_RX12_135 lM_0 rfl dX12_mooredAt_6 (fun x5 => ?_)
    refine z_icmp_ge (pc := 9) hE 48 rfl dX12_mooredAt_9 ?_ ?_
    · exact z_sub [2] rfl (hk2 v1.1)
    · refine z_aload_n (pc := 12) hE 0 0 rfl rfl dX12_mooredAt_12 ?_
      refine z_iload_n (pc := 13) hE 3 3 rfl rfl dX12_mooredAt_13 ?_
      refine z_callVi (pc := 14) (st := []) [.int v1.2] hE kk_RX12_268 (c_X12_how v1.2) lM_0 rfl rfl rfl (Nat.le_of_ble_eq_true rfl) (by decide) dX12_mooredAt_14 (fun x6 => ?_)
      refine z_iconst (pc := 17) hE dX12_mooredAt_17 qM_iconst_2 ?_
      refine z_join (Y := Int32) (pcJ := 41) (Lj := fun y7 => [(0, .ref (ad 0)), (1, .int a1), (3, .int v1.2)]) (sj := fun y7 => [.int y7]) (fun y7 => ?_) (fun j8 hj8 => ?_)
      · refine z_istore_n (L' := [(2, .int y7), (0, .ref (ad 0)), (1, .int a1), (3, .int v1.2)]) (pc := 41) hE 2 rfl (by decide) rfl dX12_mooredAt_41 ?_
        refine z_iinc (L' := [(3, .int (v1.2 + (1 : Int32))), (2, .int y7), (0, .ref (ad 0)), (1, .int a1)]) (pc := 42) hE 3 rfl (zinc qM_iconst_1) (by decide) rfl dX12_mooredAt_42 ?_
        refine z_goto (pc := 45) hE 4 rfl dX12_mooredAt_45 ?_
        exact z_sub [2, 3, 1, 0] rfl (hrc3 (y7, v1.2 + (1 : Int32)))
      refine z_join (Y := Unit) (pcJ := 40) (Lj := fun y9 => [(0, .ref (ad 0)), (1, .int a1), (2, .int v1.1), (3, .int v1.2)]) (sj := fun y9 => []) (fun y9 => ?_) (fun j10 hj10 => ?_)
      · refine z_iload_n (pc := 40) hE 2 2 rfl rfl dX12_mooredAt_40 ?_
        exact z_sub [0, 1, 3] rfl (hj8 v1.1)
      refine z_icmp_ne (pc := 18) hE 40 rfl dX12_mooredAt_18 ?_ ?_
      · exact z_sub [0, 1, 2, 3] rfl (hj10 ())
      · refine z_aload_n (pc := 21) hE 0 0 rfl rfl dX12_mooredAt_21 ?_
        refine z_getr (pc := 22) hE fk_RX12_32 lM_0 rfl dX12_mooredAt_22 ?_
        refine z_bipush (pc := 25) hE dX12_mooredAt_25 qM_bipush_7 ?_
        refine z_iload_n (pc := 27) hE 3 3 rfl rfl dX12_mooredAt_27 ?_
        refine z_imul (pc := 28) hE dX12_mooredAt_28 ?_
        refine z_iconst (pc := 29) hE dX12_mooredAt_29 qM_iconst_4 ?_
        refine z_iadd (pc := 30) hE dX12_mooredAt_30 ?_
        refine z_iald (pc := 31) hE lM_8 dX12_mooredAt_31 (fun x11 => ?_)
        refine z_iload_n (pc := 32) hE 1 1 rfl rfl dX12_mooredAt_32 ?_
        refine z_icmp_ne (pc := 33) hE 40 rfl dX12_mooredAt_33 ?_ ?_
        · exact z_sub [0, 1, 2, 3] rfl (hj10 ())
        · refine z_iload_n (pc := 36) hE 3 3 rfl rfl dX12_mooredAt_36 ?_
          refine z_goto (pc := 37) hE 41 rfl dX12_mooredAt_37 ?_
          exact z_sub [0, 1, 3] rfl (hj8 v1.2)
  · refine z_iload_n (pc := 48) hE 0 2 rfl rfl dX12_mooredAt_48 ?_
    exact z_ireturn (pc := 49) hE hr dX12_mooredAt_49
set_option maxRecDepth 100000 in
set_option maxHeartbeats 4000000 in
theorem c_X12_cellOf {l : Launch} {ad : Nat → Nat} {ca : FieldType → ClassId} {D : va_G} {sa sv : Nat → Nat} (r : Nat) (hr0 : layM[r]? = some (.inr (.int, 43))) (a2 : Int32) : zC l yX12_cellOf cX12_cellOf 2 (some .int) 0 layM ad ca D (xtM ad sa sv) [.ref (ad r), .int a2] zvi (p_X12_cellOf r a2) := by
  refine z_enter (by decide) (Nat.le_of_ble_eq_true rfl) (fun E hE hl0 hcD hr => ?_)
  have hE : zok layM ad (xtM ad sa sv) E cX12_cellOf 2 RX12 0 := hE
  show Z layM ad E 2 (zFin layM ad E zvi) 0 [(0, .ref (ad r)), (1, .int a2)] [] (p_X12_cellOf r a2)
  unfold p_X12_cellOf
  refine z_aload_n (pc := 0) hE 0 0 rfl rfl dX12_cellOf_0 ?_
  refine z_bipush (pc := 1) hE dX12_cellOf_1 qM_bipush_7 ?_
  refine z_iload_n (pc := 3) hE 1 1 rfl rfl dX12_cellOf_3 ?_
  refine z_imul (pc := 4) hE dX12_cellOf_4 ?_
  refine z_iconst (pc := 5) hE dX12_cellOf_5 qM_iconst_3 ?_
  refine z_iadd (pc := 6) hE dX12_cellOf_6 ?_
  refine z_iald (pc := 7) hE hr0 dX12_cellOf_7 (fun x1 => ?_)
  refine z_iconst (pc := 8) hE dX12_cellOf_8 qM_iconst_1 ?_
  refine z_icmp_ne (pc := 9) hE 42 rfl dX12_cellOf_9 ?_ ?_
  · refine z_iconst (pc := 42) hE dX12_cellOf_42 qM_iconst_m1 ?_
    exact z_ireturn (pc := 43) hE hr dX12_cellOf_43
  · refine z_bipush (pc := 12) hE dX12_cellOf_12 qM_bipush_19 ?_
    refine z_aload_n (pc := 14) hE 0 0 rfl rfl dX12_cellOf_14 ?_
    refine z_bipush (pc := 15) hE dX12_cellOf_15 qM_bipush_7 ?_
    refine z_iload_n (pc := 17) hE 1 1 rfl rfl dX12_cellOf_17 ?_
    refine z_imul (pc := 18) hE dX12_cellOf_18 ?_
    refine z_bipush (pc := 19) hE dX12_cellOf_19 qM_bipush_6 ?_
    refine z_iadd (pc := 21) hE dX12_cellOf_21 ?_
    refine z_iald (pc := 22) hE hr0 dX12_cellOf_22 (fun x2 => ?_)
    refine z_bipush (pc := 23) hE dX12_cellOf_23 qM_bipush_9 ?_
    refine z_iadd (pc := 25) hE dX12_cellOf_25 ?_
    refine z_imul (pc := 26) hE dX12_cellOf_26 ?_
    refine z_aload_n (pc := 27) hE 0 0 rfl rfl dX12_cellOf_27 ?_
    refine z_bipush (pc := 28) hE dX12_cellOf_28 qM_bipush_7 ?_
    refine z_iload_n (pc := 30) hE 1 1 rfl rfl dX12_cellOf_30 ?_
    refine z_imul (pc := 31) hE dX12_cellOf_31 ?_
    refine z_iconst (pc := 32) hE dX12_cellOf_32 qM_iconst_5 ?_
    refine z_iadd (pc := 33) hE dX12_cellOf_33 ?_
    refine z_iald (pc := 34) hE hr0 dX12_cellOf_34 (fun x3 => ?_)
    refine z_iadd (pc := 35) hE dX12_cellOf_35 ?_
    refine z_bipush (pc := 36) hE dX12_cellOf_36 qM_bipush_9 ?_
    refine z_iadd (pc := 38) hE dX12_cellOf_38 ?_
    refine z_goto (pc := 39) hE 43 rfl dX12_cellOf_39 ?_
    exact z_ireturn (pc := 43) hE hr dX12_cellOf_43
set_option maxRecDepth 100000 in
set_option maxHeartbeats 4000000 in
theorem c_X12_ringOf {l : Launch} {ad : Nat → Nat} {ca : FieldType → ClassId} {D : va_G} {sa sv : Nat → Nat} (r : Nat) (hr0 : layM[r]? = some (.inr (.int, 43))) (a2 : Int32) : zC l yX12_ringOf cX12_ringOf 2 (some .int) 0 layM ad ca D (xtM ad sa sv) [.ref (ad r), .int a2] zvi (p_X12_ringOf r a2) := by
  refine z_enter (by decide) (Nat.le_of_ble_eq_true rfl) (fun E hE hl0 hcD hr => ?_)
  have hE : zok layM ad (xtM ad sa sv) E cX12_ringOf 2 RX12 0 := hE
  show Z layM ad E 2 (zFin layM ad E zvi) 0 [(0, .ref (ad r)), (1, .int a2)] [] (p_X12_ringOf r a2)
  unfold p_X12_ringOf
  refine z_aload_n (pc := 0) hE 0 0 rfl rfl dX12_ringOf_0 ?_
  refine z_bipush (pc := 1) hE dX12_ringOf_1 qM_bipush_7 ?_
  refine z_iload_n (pc := 3) hE 1 1 rfl rfl dX12_ringOf_3 ?_
  refine z_imul (pc := 4) hE dX12_ringOf_4 ?_
  refine z_iconst (pc := 5) hE dX12_ringOf_5 qM_iconst_3 ?_
  refine z_iadd (pc := 6) hE dX12_ringOf_6 ?_
  refine z_iald (pc := 7) hE hr0 dX12_ringOf_7 (fun x1 => ?_)
  refine z_iconst (pc := 8) hE dX12_ringOf_8 qM_iconst_2 ?_
  refine z_icmp_ne (pc := 9) hE 23 rfl dX12_ringOf_9 ?_ ?_
  · refine z_iconst (pc := 23) hE dX12_ringOf_23 qM_iconst_m1 ?_
    exact z_ireturn (pc := 24) hE hr dX12_ringOf_24
  · refine z_aload_n (pc := 12) hE 0 0 rfl rfl dX12_ringOf_12 ?_
    refine z_bipush (pc := 13) hE dX12_ringOf_13 qM_bipush_7 ?_
    refine z_iload_n (pc := 15) hE 1 1 rfl rfl dX12_ringOf_15 ?_
    refine z_imul (pc := 16) hE dX12_ringOf_16 ?_
    refine z_iconst (pc := 17) hE dX12_ringOf_17 qM_iconst_4 ?_
    refine z_iadd (pc := 18) hE dX12_ringOf_18 ?_
    refine z_iald (pc := 19) hE hr0 dX12_ringOf_19 (fun x2 => ?_)
    refine z_goto (pc := 20) hE 24 rfl dX12_ringOf_20 ?_
    exact z_ireturn (pc := 24) hE hr dX12_ringOf_24
set_option maxRecDepth 100000 in
set_option maxHeartbeats 4000000 in
theorem c_X12_ring {l : Launch} {ad : Nat → Nat} {ca : FieldType → ClassId} {D : va_G} {sa sv : Nat → Nat} (a1 : Int32) (a2 : Int32) : zC l yX12_ring cX12_ring 3 (some .int) 2 layM ad ca D (xtM ad sa sv) [.ref (ad 0), .int a1, .int a2] zvi (p_X12_ring a1 a2) := by
  refine z_enter (by decide) (Nat.le_of_ble_eq_true rfl) (fun E hE hl0 hcD hr => ?_)
  have hE : zok layM ad (xtM ad sa sv) E cX12_ring 3 RX12 2 := hE
  show Z layM ad E 3 (zFin layM ad E zvi) 0 [(0, .ref (ad 0)), (1, .int a1), (2, .int a2)] [] (p_X12_ring a1 a2)
  unfold p_X12_ring
  refine z_aload_n (pc := 0) hE 0 0 rfl rfl dX12_ring_0 ?_
  refine z_iconst (pc := 1) hE dX12_ring_1 qM_iconst_0 ?_
  refine z_puti (pc := 2) hE fk_RX12_117 lM_0 rfl dX12_ring_2 ?_
  refine z_aload_n (pc := 5) hE 0 0 rfl rfl dX12_ring_5 ?_
  refine z_iload_n (pc := 6) hE 1 1 rfl rfl dX12_ring_6 ?_
  refine z_callVi (pc := 7) (st := []) [.int a1] hE kk_RX12_271 (c_X12_isRing a1) lM_0 rfl rfl rfl (Nat.le_of_ble_eq_true rfl) (by decide) dX12_ring_7 (fun x1 => ?_)
  refine z_join (Y := Unit) (pcJ := 25) (Lj := fun y2 => [(0, .ref (ad 0))]) (sj := fun y2 => []) (fun y2 => ?_) (fun j3 hj3 => ?_)
  · refine z_aload_n (pc := 25) hE 0 0 rfl rfl dX12_ring_25 ?_
    refine z_callVi (pc := 26) (st := []) [] hE kk_RX12_276 (c_X12_refuse) lM_0 rfl rfl rfl (Nat.le_of_ble_eq_true rfl) (by decide) dX12_ring_26 (fun x4 => ?_)
    exact z_ireturn (pc := 29) hE hr dX12_ring_29
  refine z_if_eq (pc := 10) hE 25 rfl dX12_ring_10 ?_ ?_
  · exact z_sub [0] rfl (hj3 ())
  · refine z_iload_n (pc := 13) hE 2 2 rfl rfl dX12_ring_13 ?_
    refine z_i2l (pc := 14) hE dX12_ring_14 ?_
    refine z_lconst (v := (0 : Int64)) (pc := 15) hE dX12_ring_15 (by decide) ?_
    refine z_ldc2 (pc := 16) hE wM_2 dX12_ring_16 ?_
    refine z_callSi (pc := 19) (st := []) [.long a2.toInt64, .long ((0 : Int64)), .long ((4 : Int64))] hE kk_RX12_131 (c_X12_in a2.toInt64 ((0 : Int64)) ((4 : Int64))) rfl rfl (Nat.le_of_ble_eq_true rfl) (by decide) dX12_ring_19 (fun x5 => ?_)
    refine z_if_ne (pc := 22) hE 30 rfl dX12_ring_22 ?_ ?_
    · refine z_iload_n (pc := 30) hE 2 2 rfl rfl dX12_ring_30 ?_
      refine z_case a2 (0 : Int32) (fun hc6 => ?_) (fun hc6 => ?_)
      · refine z_tableIn (pc := 31) hE 29 60 dX12_ring_31 (by rw [hc6]; decide) (by rw [hc6]; decide) (by rw [hc6]; rfl) rfl ?_
        refine z_aload_n (pc := 60) hE 0 0 rfl rfl dX12_ring_60 ?_
        refine z_getr (pc := 61) hE fk_RX12_13 lM_0 rfl dX12_ring_61 ?_
        refine z_iload_n (pc := 64) hE 1 1 rfl rfl dX12_ring_64 ?_
        refine z_iald (pc := 65) hE lM_2 dX12_ring_65 (fun x7 => ?_)
        exact z_ireturn (pc := 66) hE hr dX12_ring_66
      refine z_case a2 (1 : Int32) (fun hc8 => ?_) (fun hc8 => ?_)
      · refine z_tableIn (pc := 31) hE 36 67 dX12_ring_31 (by rw [hc8]; decide) (by rw [hc8]; decide) (by rw [hc8]; rfl) rfl ?_
        refine z_aload_n (pc := 67) hE 0 0 rfl rfl dX12_ring_67 ?_
        refine z_getr (pc := 68) hE fk_RX12_17 lM_0 rfl dX12_ring_68 ?_
        refine z_iload_n (pc := 71) hE 1 1 rfl rfl dX12_ring_71 ?_
        refine z_iald (pc := 72) hE lM_3 dX12_ring_72 (fun x9 => ?_)
        exact z_ireturn (pc := 73) hE hr dX12_ring_73
      refine z_case a2 (2 : Int32) (fun hc10 => ?_) (fun hc10 => ?_)
      · refine z_tableIn (pc := 31) hE 43 74 dX12_ring_31 (by rw [hc10]; decide) (by rw [hc10]; decide) (by rw [hc10]; rfl) rfl ?_
        refine z_aload_n (pc := 74) hE 0 0 rfl rfl dX12_ring_74 ?_
        refine z_iload_n (pc := 75) hE 1 1 rfl rfl dX12_ring_75 ?_
        refine z_callVi (pc := 76) (st := []) [.int a1] hE kk_RX12_279 (c_X12_mooredAt a1) lM_0 rfl rfl rfl (Nat.le_of_ble_eq_true rfl) (by decide) dX12_ring_76 (fun x11 => ?_)
        exact z_ireturn (pc := 79) hE hr dX12_ring_79
      refine z_case a2 (3 : Int32) (fun hc12 => ?_) (fun hc12 => ?_)
      · refine z_tableIn (pc := 31) hE 49 80 dX12_ring_31 (by rw [hc12]; decide) (by rw [hc12]; decide) (by rw [hc12]; rfl) rfl ?_
        refine z_aload_n (pc := 80) hE 0 0 rfl rfl dX12_ring_80 ?_
        refine z_getr (pc := 81) hE fk_RX12_26 lM_0 rfl dX12_ring_81 ?_
        refine z_aload_n (pc := 84) hE 0 0 rfl rfl dX12_ring_84 ?_
        refine z_getr (pc := 85) hE fk_RX12_13 lM_0 rfl dX12_ring_85 ?_
        refine z_iload_n (pc := 88) hE 1 1 rfl rfl dX12_ring_88 ?_
        refine z_iald (pc := 89) hE lM_2 dX12_ring_89 (fun x13 => ?_)
        refine z_iald (pc := 90) hE lM_6 dX12_ring_90 (fun x14 => ?_)
        exact z_ireturn (pc := 91) hE hr dX12_ring_91
      have ihc6 := zne (0) hc6 (by decide)
      have ihc8 := zne (1) hc8 (by decide)
      have ihc10 := zne (2) hc10 (by decide)
      have ihc12 := zne (3) hc12 (by decide)
      refine z_tableOut (pc := 31) hE 92 dX12_ring_31 (by omega) rfl ?_
      refine z_aload_n (pc := 92) hE 0 0 rfl rfl dX12_ring_92 ?_
      refine z_getr (pc := 93) hE fk_RX12_29 lM_0 rfl dX12_ring_93 ?_
      refine z_aload_n (pc := 96) hE 0 0 rfl rfl dX12_ring_96 ?_
      refine z_getr (pc := 97) hE fk_RX12_13 lM_0 rfl dX12_ring_97 ?_
      refine z_iload_n (pc := 100) hE 1 1 rfl rfl dX12_ring_100 ?_
      refine z_iald (pc := 101) hE lM_2 dX12_ring_101 (fun x15 => ?_)
      refine z_iald (pc := 102) hE lM_7 dX12_ring_102 (fun x16 => ?_)
      exact z_ireturn (pc := 103) hE hr dX12_ring_103
    · exact z_sub [0] rfl (hj3 ())
set_option maxRecDepth 100000 in
set_option maxHeartbeats 4000000 in
theorem c_X12_balloon {l : Launch} {ad : Nat → Nat} {ca : FieldType → ClassId} {D : va_G} {sa sv : Nat → Nat} (a1 : Int32) (a2 : Int32) : zC l yX12_balloon cX12_balloon 3 (some .int) 5 layM ad ca D (xtM ad sa sv) [.ref (ad 0), .int a1, .int a2] zvi (p_X12_balloon a1 a2) := by
  refine z_enter (by decide) (Nat.le_of_ble_eq_true rfl) (fun E hE hl0 hcD hr => ?_)
  have hE : zok layM ad (xtM ad sa sv) E cX12_balloon 3 RX12 5 := hE
  show Z layM ad E 3 (zFin layM ad E zvi) 0 [(0, .ref (ad 0)), (1, .int a1), (2, .int a2)] [] (p_X12_balloon a1 a2)
  unfold p_X12_balloon
  refine z_aload_n (pc := 0) hE 0 0 rfl rfl dX12_balloon_0 ?_
  refine z_iconst (pc := 1) hE dX12_balloon_1 qM_iconst_0 ?_
  refine z_puti (pc := 2) hE fk_RX12_117 lM_0 rfl dX12_balloon_2 ?_
  refine z_aload_n (pc := 5) hE 0 0 rfl rfl dX12_balloon_5 ?_
  refine z_iload_n (pc := 6) hE 1 1 rfl rfl dX12_balloon_6 ?_
  refine z_callVi (pc := 7) (st := []) [.int a1] hE kk_RX12_282 (c_X12_isBalloon a1) lM_0 rfl rfl rfl (Nat.le_of_ble_eq_true rfl) (by decide) dX12_balloon_7 (fun x1 => ?_)
  refine z_join (Y := Unit) (pcJ := 25) (Lj := fun y2 => [(0, .ref (ad 0))]) (sj := fun y2 => []) (fun y2 => ?_) (fun j3 hj3 => ?_)
  · refine z_aload_n (pc := 25) hE 0 0 rfl rfl dX12_balloon_25 ?_
    refine z_callVi (pc := 26) (st := []) [] hE kk_RX12_276 (c_X12_refuse) lM_0 rfl rfl rfl (Nat.le_of_ble_eq_true rfl) (by decide) dX12_balloon_26 (fun x4 => ?_)
    exact z_ireturn (pc := 29) hE hr dX12_balloon_29
  refine z_if_eq (pc := 10) hE 25 rfl dX12_balloon_10 ?_ ?_
  · exact z_sub [0] rfl (hj3 ())
  · refine z_iload_n (pc := 13) hE 2 2 rfl rfl dX12_balloon_13 ?_
    refine z_i2l (pc := 14) hE dX12_balloon_14 ?_
    refine z_lconst (v := (0 : Int64)) (pc := 15) hE dX12_balloon_15 (by decide) ?_
    refine z_ldc2 (pc := 16) hE wM_3 dX12_balloon_16 ?_
    refine z_callSi (pc := 19) (st := []) [.long a2.toInt64, .long ((0 : Int64)), .long ((9 : Int64))] hE kk_RX12_131 (c_X12_in a2.toInt64 ((0 : Int64)) ((9 : Int64))) rfl rfl (Nat.le_of_ble_eq_true rfl) (by decide) dX12_balloon_19 (fun x5 => ?_)
    refine z_if_ne (pc := 22) hE 30 rfl dX12_balloon_22 ?_ ?_
    · refine z_iload_n (pc := 30) hE 2 2 rfl rfl dX12_balloon_30 ?_
      refine z_case a2 (3 : Int32) (fun hc6 => ?_) (fun hc6 => ?_)
      · refine z_tableIn (pc := 31) hE 41 72 dX12_balloon_31 (by rw [hc6]; decide) (by rw [hc6]; decide) (by rw [hc6]; rfl) rfl ?_
        refine z_aload_n (pc := 72) hE 0 0 rfl rfl dX12_balloon_72 ?_
        refine z_getr (pc := 73) hE fk_RX12_20 lM_0 rfl dX12_balloon_73 ?_
        refine z_iload_n (pc := 76) hE 1 1 rfl rfl dX12_balloon_76 ?_
        refine z_iald (pc := 77) hE lM_4 dX12_balloon_77 (fun x7 => ?_)
        exact z_ireturn (pc := 78) hE hr dX12_balloon_78
      refine z_case a2 (4 : Int32) (fun hc8 => ?_) (fun hc8 => ?_)
      · refine z_tableIn (pc := 31) hE 48 79 dX12_balloon_31 (by rw [hc8]; decide) (by rw [hc8]; decide) (by rw [hc8]; rfl) rfl ?_
        refine z_aload_n (pc := 79) hE 0 0 rfl rfl dX12_balloon_79 ?_
        refine z_getr (pc := 80) hE fk_RX12_23 lM_0 rfl dX12_balloon_80 ?_
        refine z_iload_n (pc := 83) hE 1 1 rfl rfl dX12_balloon_83 ?_
        refine z_iald (pc := 84) hE lM_5 dX12_balloon_84 (fun x9 => ?_)
        exact z_ireturn (pc := 85) hE hr dX12_balloon_85
      refine z_case a2 (5 : Int32) (fun hc10 => ?_) (fun hc10 => ?_)
      · refine z_tableIn (pc := 31) hE 55 86 dX12_balloon_31 (by rw [hc10]; decide) (by rw [hc10]; decide) (by rw [hc10]; rfl) rfl ?_
        refine z_aload_n (pc := 86) hE 0 0 rfl rfl dX12_balloon_86 ?_
        refine z_iload_n (pc := 87) hE 1 1 rfl rfl dX12_balloon_87 ?_
        refine z_callVi (pc := 88) (st := []) [.int a1] hE kk_RX12_287 (c_X12_heavy a1) lM_0 rfl rfl rfl (Nat.le_of_ble_eq_true rfl) (by decide) dX12_balloon_88 (fun x11 => ?_)
        exact z_ireturn (pc := 91) hE hr dX12_balloon_91
      refine z_case a2 (6 : Int32) (fun hc12 => ?_) (fun hc12 => ?_)
      · refine z_tableIn (pc := 31) hE 61 92 dX12_balloon_31 (by rw [hc12]; decide) (by rw [hc12]; decide) (by rw [hc12]; rfl) rfl ?_
        refine z_aload_n (pc := 92) hE 0 0 rfl rfl dX12_balloon_92 ?_
        refine z_aload_n (pc := 93) hE 0 0 rfl rfl dX12_balloon_93 ?_
        refine z_getr (pc := 94) hE fk_RX12_32 lM_0 rfl dX12_balloon_94 ?_
        refine z_iload_n (pc := 97) hE 1 1 rfl rfl dX12_balloon_97 ?_
        refine z_callVi (pc := 98) (st := []) [.ref (ad 8), .int a1] hE kk_RX12_290 (c_X12_highOf 8 lM_8 a1) lM_0 rfl rfl rfl (Nat.le_of_ble_eq_true rfl) (by decide) dX12_balloon_98 (fun x13 => ?_)
        exact z_ireturn (pc := 101) hE hr dX12_balloon_101
      refine z_case a2 (7 : Int32) (fun hc14 => ?_) (fun hc14 => ?_)
      · refine z_tableIn (pc := 31) hE 71 102 dX12_balloon_31 (by rw [hc14]; decide) (by rw [hc14]; decide) (by rw [hc14]; rfl) rfl ?_
        refine z_aload_n (pc := 102) hE 0 0 rfl rfl dX12_balloon_102 ?_
        refine z_iload_n (pc := 103) hE 1 1 rfl rfl dX12_balloon_103 ?_
        refine z_callVi (pc := 104) (st := []) [.int a1] hE kk_RX12_268 (c_X12_how a1) lM_0 rfl rfl rfl (Nat.le_of_ble_eq_true rfl) (by decide) dX12_balloon_104 (fun x15 => ?_)
        exact z_ireturn (pc := 107) hE hr dX12_balloon_107
      refine z_case a2 (8 : Int32) (fun hc16 => ?_) (fun hc16 => ?_)
      · refine z_tableIn (pc := 31) hE 77 108 dX12_balloon_31 (by rw [hc16]; decide) (by rw [hc16]; decide) (by rw [hc16]; rfl) rfl ?_
        refine z_aload_n (pc := 108) hE 0 0 rfl rfl dX12_balloon_108 ?_
        refine z_getr (pc := 109) hE fk_RX12_32 lM_0 rfl dX12_balloon_109 ?_
        refine z_iload_n (pc := 112) hE 1 1 rfl rfl dX12_balloon_112 ?_
        refine z_callSi (pc := 113) (st := []) [.ref (ad 8), .int a1] hE kk_RX12_293 (c_X12_ringOf 8 lM_8 a1) rfl rfl (Nat.le_of_ble_eq_true rfl) (by decide) dX12_balloon_113 (fun x17 => ?_)
        exact z_ireturn (pc := 116) hE hr dX12_balloon_116
      refine z_case a2 (9 : Int32) (fun hc18 => ?_) (fun hc18 => ?_)
      · refine z_tableIn (pc := 31) hE 86 117 dX12_balloon_31 (by rw [hc18]; decide) (by rw [hc18]; decide) (by rw [hc18]; rfl) rfl ?_
        refine z_aload_n (pc := 117) hE 0 0 rfl rfl dX12_balloon_117 ?_
        refine z_getr (pc := 118) hE fk_RX12_32 lM_0 rfl dX12_balloon_118 ?_
        refine z_iload_n (pc := 121) hE 1 1 rfl rfl dX12_balloon_121 ?_
        refine z_callSi (pc := 122) (st := []) [.ref (ad 8), .int a1] hE kk_RX12_296 (c_X12_cellOf 8 lM_8 a1) rfl rfl (Nat.le_of_ble_eq_true rfl) (by decide) dX12_balloon_122 (fun x19 => ?_)
        exact z_ireturn (pc := 125) hE hr dX12_balloon_125
      have ihc6 := zne (3) hc6 (by decide)
      have ihc8 := zne (4) hc8 (by decide)
      have ihc10 := zne (5) hc10 (by decide)
      have ihc12 := zne (6) hc12 (by decide)
      have ihc14 := zne (7) hc14 (by decide)
      have ihc16 := zne (8) hc16 (by decide)
      have ihc18 := zne (9) hc18 (by decide)
      refine z_tableOut (pc := 31) hE 126 dX12_balloon_31 (by omega) rfl ?_
      refine z_aload_n (pc := 126) hE 0 0 rfl rfl dX12_balloon_126 ?_
      refine z_getr (pc := 127) hE fk_RX12_32 lM_0 rfl dX12_balloon_127 ?_
      refine z_bipush (pc := 130) hE dX12_balloon_130 qM_bipush_7 ?_
      refine z_iload_n (pc := 132) hE 1 1 rfl rfl dX12_balloon_132 ?_
      refine z_imul (pc := 133) hE dX12_balloon_133 ?_
      refine z_iload_n (pc := 134) hE 2 2 rfl rfl dX12_balloon_134 ?_
      refine z_iadd (pc := 135) hE dX12_balloon_135 ?_
      refine z_iald (pc := 136) hE lM_8 dX12_balloon_136 (fun x20 => ?_)
      exact z_ireturn (pc := 137) hE hr dX12_balloon_137
    · exact z_sub [0] rfl (hj3 ())
set_option maxRecDepth 100000 in
set_option maxHeartbeats 4000000 in
theorem c_X12_lift {l : Launch} {ad : Nat → Nat} {ca : FieldType → ClassId} {D : va_G} {sa sv : Nat → Nat} (a1 : Int32) : zC l yX12_lift cX12_lift 2 (some .int) 4 layM ad ca D (xtM ad sa sv) [.ref (ad 0), .int a1] zvi (p_X12_lift a1) := by
  refine z_enter (by decide) (Nat.le_of_ble_eq_true rfl) (fun E hE hl0 hcD hr => ?_)
  have hE : zok layM ad (xtM ad sa sv) E cX12_lift 2 RX12 4 := hE
  show Z layM ad E 2 (zFin layM ad E zvi) 0 [(0, .ref (ad 0)), (1, .int a1)] [] (p_X12_lift a1)
  unfold p_X12_lift
  refine z_aload_n (pc := 0) hE 0 0 rfl rfl dX12_lift_0 ?_
  refine z_iconst (pc := 1) hE dX12_lift_1 qM_iconst_0 ?_
  refine z_puti (pc := 2) hE fk_RX12_117 lM_0 rfl dX12_lift_2 ?_
  refine z_aload_n (pc := 5) hE 0 0 rfl rfl dX12_lift_5 ?_
  refine z_iload_n (pc := 6) hE 1 1 rfl rfl dX12_lift_6 ?_
  refine z_callVi (pc := 7) (st := []) [.int a1] hE kk_RX12_282 (c_X12_isBalloon a1) lM_0 rfl rfl rfl (Nat.le_of_ble_eq_true rfl) (by decide) dX12_lift_7 (fun x1 => ?_)
  refine z_if_eq (pc := 10) hE 25 rfl dX12_lift_10 ?_ ?_
  · refine z_aload_n (pc := 25) hE 0 0 rfl rfl dX12_lift_25 ?_
    refine z_callVi (pc := 26) (st := []) [] hE kk_RX12_276 (c_X12_refuse) lM_0 rfl rfl rfl (Nat.le_of_ble_eq_true rfl) (by decide) dX12_lift_26 (fun x2 => ?_)
    exact z_ireturn (pc := 29) hE hr dX12_lift_29
  · refine z_aload_n (pc := 13) hE 0 0 rfl rfl dX12_lift_13 ?_
    refine z_aload_n (pc := 14) hE 0 0 rfl rfl dX12_lift_14 ?_
    refine z_getr (pc := 15) hE fk_RX12_32 lM_0 rfl dX12_lift_15 ?_
    refine z_iload_n (pc := 18) hE 1 1 rfl rfl dX12_lift_18 ?_
    refine z_callVi (pc := 19) (st := []) [.ref (ad 8), .int a1] hE kk_RX12_261 (c_X12_liftOf 8 lM_8 a1) lM_0 rfl rfl rfl (Nat.le_of_ble_eq_true rfl) (by decide) dX12_lift_19 (fun x3 => ?_)
    refine z_goto (pc := 22) hE 29 rfl dX12_lift_22 ?_
    exact z_ireturn (pc := 29) hE hr dX12_lift_29
set_option maxRecDepth 100000 in
set_option maxHeartbeats 4000000 in
theorem c_X12_rain {l : Launch} {ad : Nat → Nat} {ca : FieldType → ClassId} {D : va_G} {sa sv : Nat → Nat} (a1 : Int32) : zC l yX12_rain cX12_rain 3 (some .int) 1 layM ad ca D (xtM ad sa sv) [.ref (ad 0), .int a1] zvi (p_X12_rain a1) := by
  refine z_enter (by decide) (Nat.le_of_ble_eq_true rfl) (fun E hE hl0 hcD hr => ?_)
  have hE : zok layM ad (xtM ad sa sv) E cX12_rain 3 RX12 1 := hE
  show Z layM ad E 3 (zFin layM ad E zvi) 0 [(0, .ref (ad 0)), (1, .int a1)] [] (p_X12_rain a1)
  unfold p_X12_rain
  refine z_aload_n (pc := 0) hE 0 0 rfl rfl dX12_rain_0 ?_
  refine z_iconst (pc := 1) hE dX12_rain_1 qM_iconst_0 ?_
  refine z_puti (pc := 2) hE fk_RX12_117 lM_0 rfl dX12_rain_2 ?_
  refine z_iload_n (pc := 5) hE 1 1 rfl rfl dX12_rain_5 ?_
  refine z_i2l (pc := 6) hE dX12_rain_6 ?_
  refine z_lconst (v := (0 : Int64)) (pc := 7) hE dX12_rain_7 (by decide) ?_
  refine z_ldc2 (pc := 8) hE wM_3 dX12_rain_8 ?_
  refine z_callSi (pc := 11) (st := []) [.long a1.toInt64, .long ((0 : Int64)), .long ((9 : Int64))] hE kk_RX12_131 (c_X12_in a1.toInt64 ((0 : Int64)) ((9 : Int64))) rfl rfl (Nat.le_of_ble_eq_true rfl) (by decide) dX12_rain_11 (fun x1 => ?_)
  refine z_if_ne (pc := 14) hE 19 rfl dX12_rain_14 ?_ ?_
  · refine z_aload_n (pc := 19) hE 0 0 rfl rfl dX12_rain_19 ?_
    refine z_geti (pc := 20) hE fk_RX12_255 lM_0 rfl dX12_rain_20 (fun x2 => ?_)
    refine z_istore_n (L' := [(2, .int x2), (0, .ref (ad 0)), (1, .int a1)]) (pc := 23) hE 2 rfl (by decide) rfl dX12_rain_23 ?_
    refine z_aload_n (pc := 24) hE 1 0 rfl rfl dX12_rain_24 ?_
    refine z_iload_n (pc := 25) hE 2 1 rfl rfl dX12_rain_25 ?_
    refine z_puti (pc := 26) hE fk_RX12_255 lM_0 rfl dX12_rain_26 ?_
    refine z_iload_n (pc := 29) hE 0 2 rfl rfl dX12_rain_29 ?_
    exact z_ireturn (pc := 30) hE hr dX12_rain_30
  · refine z_iconst (pc := 17) hE dX12_rain_17 qM_iconst_m1 ?_
    exact z_ireturn (pc := 18) hE hr dX12_rain_18
set_option maxRecDepth 100000 in
set_option maxHeartbeats 4000000 in
theorem c_X12_sheet {l : Launch} {ad : Nat → Nat} {ca : FieldType → ClassId} {D : va_G} {sa sv : Nat → Nat} (a1 : Int32) (a2 : Int32) (a3 : Int32) (a4 : Int32) : zC l yX12_sheet cX12_sheet 9 (some .int) 1 layM ad ca D (xtM ad sa sv) [.ref (ad 0), .int a1, .int a2, .int a3, .int a4] zvi (p_X12_sheet a1 a2 a3 a4) := by
  refine z_enter (by decide) (Nat.le_of_ble_eq_true rfl) (fun E hE hl0 hcD hr => ?_)
  have hE : zok layM ad (xtM ad sa sv) E cX12_sheet 9 RX12 1 := hE
  show Z layM ad E 9 (zFin layM ad E zvi) 0 [(0, .ref (ad 0)), (1, .int a1), (2, .int a2), (3, .int a3), (4, .int a4)] [] (p_X12_sheet a1 a2 a3 a4)
  unfold p_X12_sheet
  refine z_aload_n (pc := 0) hE 0 0 rfl rfl dX12_sheet_0 ?_
  refine z_iconst (pc := 1) hE dX12_sheet_1 qM_iconst_0 ?_
  refine z_puti (pc := 2) hE fk_RX12_117 lM_0 rfl dX12_sheet_2 ?_
  refine z_iload_n (pc := 5) hE 1 1 rfl rfl dX12_sheet_5 ?_
  refine z_i2l (pc := 6) hE dX12_sheet_6 ?_
  refine z_lconst (v := (0 : Int64)) (pc := 7) hE dX12_sheet_7 (by decide) ?_
  refine z_ldc2 (pc := 8) hE wM_4 dX12_sheet_8 ?_
  refine z_callSi (pc := 11) (st := []) [.long a1.toInt64, .long ((0 : Int64)), .long ((3 : Int64))] hE kk_RX12_131 (c_X12_in a1.toInt64 ((0 : Int64)) ((3 : Int64))) rfl rfl (Nat.le_of_ble_eq_true rfl) (by decide) dX12_sheet_11 (fun x1 => ?_)
  refine z_if_eq (pc := 14) hE 23 rfl dX12_sheet_14 ?_ ?_
  · refine z_iconst (pc := 23) hE dX12_sheet_23 qM_iconst_m1 ?_
    exact z_ireturn (pc := 24) hE hr dX12_sheet_24
  · refine z_iload_n (pc := 17) hE 2 2 rfl rfl dX12_sheet_17 ?_
    refine z_bipush (pc := 18) hE dX12_sheet_18 qM_bipush_6 ?_
    refine z_icmp_le (pc := 20) hE 25 rfl dX12_sheet_20 ?_ ?_
    · refine z_iload_n (pc := 25) hE 1 1 rfl rfl dX12_sheet_25 ?_
      refine z_iconst (pc := 26) hE dX12_sheet_26 qM_iconst_3 ?_
      refine z_join (Y := Unit) (pcJ := 37) (Lj := fun y2 => [(0, .ref (ad 0)), (1, .int a1), (2, .int a2), (3, .int a3), (4, .int a4)]) (sj := fun y2 => []) (fun y2 => ?_) (fun j3 hj3 => ?_)
      · refine z_iconst (pc := 37) hE dX12_sheet_37 qM_iconst_0 ?_
        refine z_istore (L' := [(5, .int ((0 : Int32))), (0, .ref (ad 0)), (1, .int a1), (2, .int a2), (3, .int a3), (4, .int a4)]) (pc := 38) hE (by decide) rfl dX12_sheet_38 ?_
        refine z_iload_n (pc := 40) hE 4 3 rfl rfl dX12_sheet_40 ?_
        refine z_istore (L' := [(6, .int a3), (5, .int ((0 : Int32))), (0, .ref (ad 0)), (1, .int a1), (2, .int a2), (3, .int a3), (4, .int a4)]) (pc := 41) hE (by decide) rfl dX12_sheet_41 ?_
        refine z_iconst (pc := 43) hE dX12_sheet_43 qM_iconst_0 ?_
        refine z_istore (L' := [(7, .int ((0 : Int32))), (6, .int a3), (5, .int ((0 : Int32))), (0, .ref (ad 0)), (1, .int a1), (2, .int a2), (3, .int a3), (4, .int a4)]) (pc := 44) hE (by decide) rfl dX12_sheet_44 ?_
        refine z_sub (L' := [(0, .ref (ad 0)), (1, .int a1), (2, .int a2), (4, .int a4), (5, .int ((0 : Int32))), (6, .int a3), (7, .int ((0 : Int32)))]) [3, 4, 5, 7, 2, 1, 0] rfl ?_
        refine z_loop (V := (Int32 × Int32 × Int32)) (X := Int32) (hd := 46) (ex := 148) (Lh := fun v4 => [(0, .ref (ad 0)), (1, .int a1), (2, .int a2), (4, .int a4), (5, .int v4.1), (6, .int v4.2.1), (7, .int v4.2.2)]) (Lx := fun e7 => [(1, .int a1), (5, .int e7)]) (fun rc6 k5 hrc6 hk5 v4 => ?_) zNF ((0 : Int32), a3, (0 : Int32)) _ (fun e7 => ?_)
        · unfold p_X12_sheet_b46
          refine z_iload (pc := 46) hE 6 rfl dX12_sheet_46 ?_
          refine z_aload_n (pc := 48) hE 0 0 rfl rfl dX12_sheet_48 ?_
          refine z_geti (pc := 49) hE fk_RX12_135 lM_0 rfl dX12_sheet_49 (fun x8 => ?_)
          refine z_icmp_ge (pc := 52) hE 148 rfl dX12_sheet_52 ?_ ?_
          · exact z_sub [1, 4] rfl (hk5 v4.1)
          · refine z_iload_n (pc := 55) hE 1 1 rfl rfl dX12_sheet_55 ?_
            refine z_join (Y := Int32) (pcJ := 78) (Lj := fun y9 => [(0, .ref (ad 0)), (1, .int a1), (2, .int a2), (4, .int a4), (5, .int v4.1), (6, .int v4.2.1), (7, .int v4.2.2)]) (sj := fun y9 => [.int y9]) (fun y9 => ?_) (fun j10 hj10 => ?_)
            · refine z_istore (L' := [(8, .int y9), (0, .ref (ad 0)), (1, .int a1), (2, .int a2), (4, .int a4), (5, .int v4.1), (6, .int v4.2.1), (7, .int v4.2.2)]) (pc := 78) hE (by decide) rfl dX12_sheet_78 ?_
              refine z_aload_n (pc := 80) hE 1 0 rfl rfl dX12_sheet_80 ?_
              refine z_getr (pc := 81) hE fk_RX12_32 lM_0 rfl dX12_sheet_81 ?_
              refine z_bipush (pc := 84) hE dX12_sheet_84 qM_bipush_7 ?_
              refine z_iload (pc := 86) hE 7 rfl dX12_sheet_86 ?_
              refine z_imul (pc := 88) hE dX12_sheet_88 ?_
              refine z_iconst (pc := 89) hE dX12_sheet_89 qM_iconst_0 ?_
              refine z_iadd (pc := 90) hE dX12_sheet_90 ?_
              refine z_iload_n (pc := 91) hE 2 1 rfl rfl dX12_sheet_91 ?_
              refine z_iconst (pc := 92) hE dX12_sheet_92 qM_iconst_3 ?_
              refine z_join (Y := Int32) (pcJ := 117) (Lj := fun y11 => [(0, .ref (ad 0)), (1, .int a1), (2, .int a2), (4, .int a4), (5, .int v4.1), (6, .int v4.2.1), (7, .int v4.2.2)]) (sj := fun y11 => [.int y11, .int ((((7 : Int32)) * v4.2.2) + ((0 : Int32))), .ref (ad 8)]) (fun y11 => ?_) (fun j12 hj12 => ?_)
              · refine z_iast (pc := 117) hE lM_8 dX12_sheet_117 ?_
                refine z_iload (pc := 118) hE 4 rfl dX12_sheet_118 ?_
                refine z_aload_n (pc := 120) hE 0 0 rfl rfl dX12_sheet_120 ?_
                refine z_getr (pc := 121) hE fk_RX12_32 lM_0 rfl dX12_sheet_121 ?_
                refine z_bipush (pc := 124) hE dX12_sheet_124 qM_bipush_7 ?_
                refine z_iload (pc := 126) hE 6 rfl dX12_sheet_126 ?_
                refine z_imul (pc := 128) hE dX12_sheet_128 ?_
                refine z_iconst (pc := 129) hE dX12_sheet_129 qM_iconst_0 ?_
                refine z_iadd (pc := 130) hE dX12_sheet_130 ?_
                refine z_iald (pc := 131) hE lM_8 dX12_sheet_131 (fun x13 => ?_)
                refine z_iadd (pc := 132) hE dX12_sheet_132 ?_
                refine z_istore (L' := [(5, .int (v4.1 + x13)), (0, .ref (ad 0)), (1, .int a1), (2, .int a2), (4, .int a4), (6, .int v4.2.1), (7, .int v4.2.2)]) (pc := 133) hE (by decide) rfl dX12_sheet_133 ?_
                refine z_iload (pc := 135) hE 5 rfl dX12_sheet_135 ?_
                refine z_iload (pc := 137) hE 4 rfl dX12_sheet_137 ?_
                refine z_iadd (pc := 139) hE dX12_sheet_139 ?_
                refine z_istore (L' := [(6, .int (v4.2.1 + a4)), (5, .int (v4.1 + x13)), (0, .ref (ad 0)), (1, .int a1), (2, .int a2), (4, .int a4), (7, .int v4.2.2)]) (pc := 140) hE (by decide) rfl dX12_sheet_140 ?_
                refine z_iinc (L' := [(7, .int (v4.2.2 + (1 : Int32))), (6, .int (v4.2.1 + a4)), (5, .int (v4.1 + x13)), (0, .ref (ad 0)), (1, .int a1), (2, .int a2), (4, .int a4)]) (pc := 142) hE 6 rfl (zinc qM_iconst_1) (by decide) rfl dX12_sheet_142 ?_
                refine z_goto (pc := 145) hE 46 rfl dX12_sheet_145 ?_
                exact z_sub [3, 4, 5, 6, 2, 1, 0] rfl (hrc6 (v4.1 + x13, v4.2.1 + a4, v4.2.2 + (1 : Int32)))
              refine z_join (Y := Unit) (pcJ := 102) (Lj := fun y14 => [(0, .ref (ad 0)), (1, .int a1), (2, .int a2), (4, .int a4), (5, .int v4.1), (6, .int v4.2.1), (7, .int v4.2.2)]) (sj := fun y14 => [.int ((((7 : Int32)) * v4.2.2) + ((0 : Int32))), .ref (ad 8)]) (fun y14 => ?_) (fun j15 hj15 => ?_)
              · refine z_iconst (pc := 102) hE dX12_sheet_102 qM_iconst_0 ?_
                refine z_goto (pc := 103) hE 117 rfl dX12_sheet_103 ?_
                exact z_sub [0, 1, 2, 3, 4, 5, 6] rfl (hj12 ((0 : Int32)))
              refine z_icmp_eq (pc := 93) hE 102 rfl dX12_sheet_93 ?_ ?_
              · exact z_sub [1, 2, 3, 4, 5, 6, 7] rfl (hj15 ())
              · refine z_iload (pc := 96) hE 7 rfl dX12_sheet_96 ?_
                refine z_iload_n (pc := 98) hE 3 2 rfl rfl dX12_sheet_98 ?_
                refine z_icmp_lt (pc := 99) hE 106 rfl dX12_sheet_99 ?_ ?_
                · refine z_iconst (pc := 106) hE dX12_sheet_106 qM_iconst_0 ?_
                  refine z_bipush (pc := 107) hE dX12_sheet_107 qM_bipush_99 ?_
                  refine z_iload (pc := 109) hE 0 rfl dX12_sheet_109 ?_
                  refine z_min (pc := 111) hE kk_RX12_147 (Nat.le_of_ble_eq_true rfl) (by decide) dX12_sheet_111 ?_
                  refine z_max (pc := 114) hE kk_RX12_265 (Nat.le_of_ble_eq_true rfl) (by decide) dX12_sheet_114 ?_
                  exact z_sub [1, 2, 3, 4, 5, 6, 7] rfl (hj12 (zmx ((0 : Int32)) (zmn ((99 : Int32)) y9)))
                · exact z_sub [1, 2, 3, 4, 5, 6, 7] rfl (hj15 ())
            refine z_if_ne (pc := 56) hE 65 rfl dX12_sheet_56 ?_ ?_
            · refine z_iload_n (pc := 65) hE 1 1 rfl rfl dX12_sheet_65 ?_
              refine z_iconst (pc := 66) hE dX12_sheet_66 qM_iconst_1 ?_
              refine z_icmp_ne (pc := 67) hE 76 rfl dX12_sheet_67 ?_ ?_
              · refine z_iload (pc := 76) hE 5 rfl dX12_sheet_76 ?_
                exact z_sub [0, 1, 2, 3, 4, 5, 6] rfl (hj10 v4.2.1)
              · refine z_iload (pc := 70) hE 5 rfl dX12_sheet_70 ?_
                refine z_i2s (pc := 72) hE dX12_sheet_72 ?_
                refine z_goto (pc := 73) hE 78 rfl dX12_sheet_73 ?_
                exact z_sub [0, 1, 2, 3, 4, 5, 6] rfl (hj10 v4.2.1.toInt16.toInt32)
            · refine z_iload (pc := 59) hE 5 rfl dX12_sheet_59 ?_
              refine z_i2b (pc := 61) hE dX12_sheet_61 ?_
              refine z_goto (pc := 62) hE 78 rfl dX12_sheet_62 ?_
              exact z_sub [0, 1, 2, 3, 4, 5, 6] rfl (hj10 v4.2.1.toInt8.toInt32)
        · refine z_iload_n (pc := 148) hE 0 1 rfl rfl dX12_sheet_148 ?_
          refine z_iconst (pc := 149) hE dX12_sheet_149 qM_iconst_3 ?_
          refine z_icmp_ne (pc := 150) hE 158 rfl dX12_sheet_150 ?_ ?_
          · refine z_iload (pc := 158) hE 1 rfl dX12_sheet_158 ?_
            exact z_ireturn (pc := 160) hE hr dX12_sheet_160
          · refine z_bipush (pc := 153) hE dX12_sheet_153 qM_bipush_m3 ?_
            refine z_goto (pc := 155) hE 160 rfl dX12_sheet_155 ?_
            exact z_ireturn (pc := 160) hE hr dX12_sheet_160
      refine z_icmp_eq (pc := 27) hE 37 rfl dX12_sheet_27 ?_ ?_
      · exact z_sub [0, 1, 2, 3, 4] rfl (hj3 ())
      · refine z_iload_n (pc := 30) hE 2 2 rfl rfl dX12_sheet_30 ?_
        refine z_if_ge (pc := 31) hE 37 rfl dX12_sheet_31 ?_ ?_
        · exact z_sub [0, 1, 2, 3, 4] rfl (hj3 ())
        · refine z_bipush (pc := 34) hE dX12_sheet_34 qM_bipush_m2 ?_
          exact z_ireturn (pc := 36) hE hr dX12_sheet_36
    · refine z_iconst (pc := 23) hE dX12_sheet_23 qM_iconst_m1 ?_
      exact z_ireturn (pc := 24) hE hr dX12_sheet_24
set_option maxRecDepth 100000 in
set_option maxHeartbeats 4000000 in
theorem c_X12_putsBy {l : Launch} {ad : Nat → Nat} {ca : FieldType → ClassId} {D : va_G} {sa sv : Nat → Nat}  : zC l yX12_putsBy cX12_putsBy 2 none 0 layM ad ca D (xtM ad sa sv) [.ref (ad 0)] zvn (p_X12_putsBy) := by
  refine z_enter (by decide) (Nat.le_of_ble_eq_true rfl) (fun E hE hl0 hcD hr => ?_)
  have hE : zok layM ad (xtM ad sa sv) E cX12_putsBy 2 RX12 0 := hE
  show Z layM ad E 2 (zFin layM ad E zvn) 0 [(0, .ref (ad 0))] [] (p_X12_putsBy)
  unfold p_X12_putsBy
  refine z_iconst (pc := 0) hE dX12_putsBy_0 qM_iconst_0 ?_
  refine z_istore_n (L' := [(1, .int ((0 : Int32))), (0, .ref (ad 0))]) (pc := 1) hE 1 rfl (by decide) rfl dX12_putsBy_1 ?_
  refine z_sub (L' := [(0, .ref (ad 0)), (1, .int ((0 : Int32)))]) [1, 0] rfl ?_
  refine z_loop (V := Int32) (X := Unit) (hd := 2) (ex := 34) (Lh := fun v1 => [(0, .ref (ad 0)), (1, .int v1)]) (Lx := fun e4 => []) (fun rc3 k2 hrc3 hk2 v1 => ?_) zNF ((0 : Int32)) _ (fun e4 => ?_)
  · unfold p_X12_putsBy_b2
    refine z_iload_n (pc := 2) hE 1 1 rfl rfl dX12_putsBy_2 ?_
    refine z_bipush (pc := 3) hE dX12_putsBy_3 qM_bipush_43 ?_
    refine z_icmp_ge (pc := 5) hE 34 rfl dX12_putsBy_5 ?_ ?_
    · exact z_sub [] rfl (hk2 ())
    · refine z_aload_n (pc := 8) hE 0 0 rfl rfl dX12_putsBy_8 ?_
      refine z_getr (pc := 9) hE fk_RX12_56 lM_0 rfl dX12_putsBy_9 ?_
      refine z_bipush (pc := 12) hE dX12_putsBy_12 qM_bipush_43 ?_
      refine z_aload_n (pc := 14) hE 0 0 rfl rfl dX12_putsBy_14 ?_
      refine z_geti (pc := 15) hE fk_RX12_211 lM_0 rfl dX12_putsBy_15 (fun x5 => ?_)
      refine z_imul (pc := 18) hE dX12_putsBy_18 ?_
      refine z_iload_n (pc := 19) hE 1 1 rfl rfl dX12_putsBy_19 ?_
      refine z_iadd (pc := 20) hE dX12_putsBy_20 ?_
      refine z_aload_n (pc := 21) hE 0 0 rfl rfl dX12_putsBy_21 ?_
      refine z_getr (pc := 22) hE fk_RX12_32 lM_0 rfl dX12_putsBy_22 ?_
      refine z_iload_n (pc := 25) hE 1 1 rfl rfl dX12_putsBy_25 ?_
      refine z_iald (pc := 26) hE lM_8 dX12_putsBy_26 (fun x6 => ?_)
      refine z_iast (pc := 27) hE lM_16 dX12_putsBy_27 ?_
      refine z_iinc (L' := [(1, .int (v1 + (1 : Int32))), (0, .ref (ad 0))]) (pc := 28) hE 1 rfl (zinc qM_iconst_1) (by decide) rfl dX12_putsBy_28 ?_
      refine z_goto (pc := 31) hE 2 rfl dX12_putsBy_31 ?_
      exact z_sub [1, 0] rfl (hrc3 (v1 + (1 : Int32)))
  · exact z_return (pc := 34) hE hr dX12_putsBy_34
set_option maxRecDepth 100000 in
set_option maxHeartbeats 4000000 in
theorem c_X12_adds {l : Launch} {ad : Nat → Nat} {ca : FieldType → ClassId} {D : va_G} {sa sv : Nat → Nat} (a1 : Int32) : zC l yX12_adds cX12_adds 3 (some .int) 0 layM ad ca D (xtM ad sa sv) [.ref (ad 0), .int a1] zvi (p_X12_adds a1) := by
  refine z_enter (by decide) (Nat.le_of_ble_eq_true rfl) (fun E hE hl0 hcD hr => ?_)
  have hE : zok layM ad (xtM ad sa sv) E cX12_adds 3 RX12 0 := hE
  show Z layM ad E 3 (zFin layM ad E zvi) 0 [(0, .ref (ad 0)), (1, .int a1)] [] (p_X12_adds a1)
  unfold p_X12_adds
  refine z_aload_n (pc := 0) hE 0 0 rfl rfl dX12_adds_0 ?_
  refine z_dup (pc := 1) hE dX12_adds_1 rfl ?_
  refine z_geti (pc := 2) hE fk_RX12_211 lM_0 rfl dX12_adds_2 (fun x1 => ?_)
  refine z_iconst (pc := 5) hE dX12_adds_5 qM_iconst_1 ?_
  refine z_iadd (pc := 6) hE dX12_adds_6 ?_
  refine z_puti (pc := 7) hE fk_RX12_211 lM_0 rfl dX12_adds_7 ?_
  refine z_aload_n (pc := 10) hE 0 0 rfl rfl dX12_adds_10 ?_
  refine z_geti (pc := 11) hE fk_RX12_211 lM_0 rfl dX12_adds_11 (fun x2 => ?_)
  refine z_bipush (pc := 14) hE dX12_adds_14 qM_bipush_15 ?_
  refine z_icmp_le (pc := 16) hE 59 rfl dX12_adds_16 ?_ ?_
  · refine z_iload_n (pc := 59) hE 1 1 rfl rfl dX12_adds_59 ?_
    exact z_ireturn (pc := 60) hE hr dX12_adds_60
  · refine z_iconst (pc := 19) hE dX12_adds_19 qM_iconst_0 ?_
    refine z_istore_n (L' := [(2, .int ((0 : Int32))), (0, .ref (ad 0)), (1, .int a1)]) (pc := 20) hE 2 rfl (by decide) rfl dX12_adds_20 ?_
    refine z_sub (L' := [(0, .ref (ad 0)), (1, .int a1), (2, .int ((0 : Int32)))]) [1, 2, 0] rfl ?_
    refine z_loop (V := Int32) (X := Unit) (hd := 21) (ex := 49) (Lh := fun v3 => [(0, .ref (ad 0)), (1, .int a1), (2, .int v3)]) (Lx := fun e6 => [(0, .ref (ad 0)), (1, .int a1)]) (fun rc5 k4 hrc5 hk4 v3 => ?_) zNF ((0 : Int32)) _ (fun e6 => ?_)
    · unfold p_X12_adds_b21
      refine z_iload_n (pc := 21) hE 2 2 rfl rfl dX12_adds_21 ?_
      refine z_sipush (pc := 22) hE dX12_adds_22 qM_sipush_645 ?_
      refine z_icmp_ge (pc := 25) hE 49 rfl dX12_adds_25 ?_ ?_
      · exact z_sub [0, 1] rfl (hk4 ())
      · refine z_aload_n (pc := 28) hE 0 0 rfl rfl dX12_adds_28 ?_
        refine z_getr (pc := 29) hE fk_RX12_56 lM_0 rfl dX12_adds_29 ?_
        refine z_iload_n (pc := 32) hE 2 2 rfl rfl dX12_adds_32 ?_
        refine z_aload_n (pc := 33) hE 0 0 rfl rfl dX12_adds_33 ?_
        refine z_getr (pc := 34) hE fk_RX12_56 lM_0 rfl dX12_adds_34 ?_
        refine z_iload_n (pc := 37) hE 2 2 rfl rfl dX12_adds_37 ?_
        refine z_bipush (pc := 38) hE dX12_adds_38 qM_bipush_43 ?_
        refine z_iadd (pc := 40) hE dX12_adds_40 ?_
        refine z_iald (pc := 41) hE lM_16 dX12_adds_41 (fun x7 => ?_)
        refine z_iast (pc := 42) hE lM_16 dX12_adds_42 ?_
        refine z_iinc (L' := [(2, .int (v3 + (1 : Int32))), (0, .ref (ad 0)), (1, .int a1)]) (pc := 43) hE 2 rfl (zinc qM_iconst_1) (by decide) rfl dX12_adds_43 ?_
        refine z_goto (pc := 46) hE 21 rfl dX12_adds_46 ?_
        exact z_sub [1, 2, 0] rfl (hrc5 (v3 + (1 : Int32)))
    · refine z_aload_n (pc := 49) hE 0 0 rfl rfl dX12_adds_49 ?_
      refine z_dup (pc := 50) hE dX12_adds_50 rfl ?_
      refine z_geti (pc := 51) hE fk_RX12_211 lM_0 rfl dX12_adds_51 (fun x8 => ?_)
      refine z_iconst (pc := 54) hE dX12_adds_54 qM_iconst_1 ?_
      refine z_isub (pc := 55) hE dX12_adds_55 ?_
      refine z_puti (pc := 56) hE fk_RX12_211 lM_0 rfl dX12_adds_56 ?_
      refine z_iload_n (pc := 59) hE 1 1 rfl rfl dX12_adds_59 ?_
      exact z_ireturn (pc := 60) hE hr dX12_adds_60
set_option maxRecDepth 100000 in
set_option maxHeartbeats 4000000 in
theorem c_X12_counts {l : Launch} {ad : Nat → Nat} {ca : FieldType → ClassId} {D : va_G} {sa sv : Nat → Nat} (a1 : Int32) : zC l yX12_counts cX12_counts 2 (some .int) 1 layM ad ca D (xtM ad sa sv) [.ref (ad 0), .int a1] zvi (p_X12_counts a1) := by
  refine z_enter (by decide) (Nat.le_of_ble_eq_true rfl) (fun E hE hl0 hcD hr => ?_)
  have hE : zok layM ad (xtM ad sa sv) E cX12_counts 2 RX12 1 := hE
  show Z layM ad E 2 (zFin layM ad E zvi) 0 [(0, .ref (ad 0)), (1, .int a1)] [] (p_X12_counts a1)
  unfold p_X12_counts
  refine z_iload_n (pc := 0) hE 1 1 rfl rfl dX12_counts_0 ?_
  refine z_if_ge (pc := 1) hE 8 rfl dX12_counts_1 ?_ ?_
  · refine z_aload_n (pc := 8) hE 0 0 rfl rfl dX12_counts_8 ?_
    refine z_iload_n (pc := 9) hE 1 1 rfl rfl dX12_counts_9 ?_
    refine z_callVi (pc := 10) (st := []) [.int a1] hE kk_RX12_301 (c_X12_adds a1) lM_0 rfl rfl rfl (Nat.le_of_ble_eq_true rfl) (by decide) dX12_counts_10 (fun x1 => ?_)
    exact z_ireturn (pc := 13) hE hr dX12_counts_13
  · refine z_iload_n (pc := 4) hE 1 1 rfl rfl dX12_counts_4 ?_
    refine z_goto (pc := 5) hE 13 rfl dX12_counts_5 ?_
    exact z_ireturn (pc := 13) hE hr dX12_counts_13
set_option maxRecDepth 100000 in
set_option maxHeartbeats 4000000 in
theorem c_X12_undo {l : Launch} {ad : Nat → Nat} {ca : FieldType → ClassId} {D : va_G} {sa sv : Nat → Nat}  : zC l yX12_undo cX12_undo 2 (some .int) 0 layM ad ca D (xtM ad sa sv) [.ref (ad 0)] zvi (p_X12_undo) := by
  refine z_enter (by decide) (Nat.le_of_ble_eq_true rfl) (fun E hE hl0 hcD hr => ?_)
  have hE : zok layM ad (xtM ad sa sv) E cX12_undo 2 RX12 0 := hE
  show Z layM ad E 2 (zFin layM ad E zvi) 0 [(0, .ref (ad 0))] [] (p_X12_undo)
  unfold p_X12_undo
  refine z_aload_n (pc := 0) hE 0 0 rfl rfl dX12_undo_0 ?_
  refine z_iconst (pc := 1) hE dX12_undo_1 qM_iconst_0 ?_
  refine z_puti (pc := 2) hE fk_RX12_117 lM_0 rfl dX12_undo_2 ?_
  refine z_aload_n (pc := 5) hE 0 0 rfl rfl dX12_undo_5 ?_
  refine z_geti (pc := 6) hE fk_RX12_211 lM_0 rfl dX12_undo_6 (fun x1 => ?_)
  refine z_if_ne (pc := 9) hE 14 rfl dX12_undo_9 ?_ ?_
  · refine z_aload_n (pc := 14) hE 0 0 rfl rfl dX12_undo_14 ?_
    refine z_dup (pc := 15) hE dX12_undo_15 rfl ?_
    refine z_geti (pc := 16) hE fk_RX12_211 lM_0 rfl dX12_undo_16 (fun x2 => ?_)
    refine z_iconst (pc := 19) hE dX12_undo_19 qM_iconst_1 ?_
    refine z_isub (pc := 20) hE dX12_undo_20 ?_
    refine z_puti (pc := 21) hE fk_RX12_211 lM_0 rfl dX12_undo_21 ?_
    refine z_iconst (pc := 24) hE dX12_undo_24 qM_iconst_0 ?_
    refine z_istore_n (L' := [(1, .int ((0 : Int32))), (0, .ref (ad 0))]) (pc := 25) hE 1 rfl (by decide) rfl dX12_undo_25 ?_
    refine z_sub (L' := [(0, .ref (ad 0)), (1, .int ((0 : Int32)))]) [1, 0] rfl ?_
    refine z_loop (V := Int32) (X := Unit) (hd := 26) (ex := 58) (Lh := fun v3 => [(0, .ref (ad 0)), (1, .int v3)]) (Lx := fun e6 => [(0, .ref (ad 0))]) (fun rc5 k4 hrc5 hk4 v3 => ?_) zNF ((0 : Int32)) _ (fun e6 => ?_)
    · unfold p_X12_undo_b26
      refine z_iload_n (pc := 26) hE 1 1 rfl rfl dX12_undo_26 ?_
      refine z_bipush (pc := 27) hE dX12_undo_27 qM_bipush_43 ?_
      refine z_icmp_ge (pc := 29) hE 58 rfl dX12_undo_29 ?_ ?_
      · exact z_sub [0] rfl (hk4 ())
      · refine z_aload_n (pc := 32) hE 0 0 rfl rfl dX12_undo_32 ?_
        refine z_getr (pc := 33) hE fk_RX12_32 lM_0 rfl dX12_undo_33 ?_
        refine z_iload_n (pc := 36) hE 1 1 rfl rfl dX12_undo_36 ?_
        refine z_aload_n (pc := 37) hE 0 0 rfl rfl dX12_undo_37 ?_
        refine z_getr (pc := 38) hE fk_RX12_56 lM_0 rfl dX12_undo_38 ?_
        refine z_bipush (pc := 41) hE dX12_undo_41 qM_bipush_43 ?_
        refine z_aload_n (pc := 43) hE 0 0 rfl rfl dX12_undo_43 ?_
        refine z_geti (pc := 44) hE fk_RX12_211 lM_0 rfl dX12_undo_44 (fun x7 => ?_)
        refine z_imul (pc := 47) hE dX12_undo_47 ?_
        refine z_iload_n (pc := 48) hE 1 1 rfl rfl dX12_undo_48 ?_
        refine z_iadd (pc := 49) hE dX12_undo_49 ?_
        refine z_iald (pc := 50) hE lM_16 dX12_undo_50 (fun x8 => ?_)
        refine z_iast (pc := 51) hE lM_8 dX12_undo_51 ?_
        refine z_iinc (L' := [(1, .int (v3 + (1 : Int32))), (0, .ref (ad 0))]) (pc := 52) hE 1 rfl (zinc qM_iconst_1) (by decide) rfl dX12_undo_52 ?_
        refine z_goto (pc := 55) hE 26 rfl dX12_undo_55 ?_
        exact z_sub [1, 0] rfl (hrc5 (v3 + (1 : Int32)))
    · refine z_aload_n (pc := 58) hE 0 0 rfl rfl dX12_undo_58 ?_
      refine z_geti (pc := 59) hE fk_RX12_211 lM_0 rfl dX12_undo_59 (fun x9 => ?_)
      exact z_ireturn (pc := 62) hE hr dX12_undo_62
  · refine z_iconst (pc := 12) hE dX12_undo_12 qM_iconst_m1 ?_
    exact z_ireturn (pc := 13) hE hr dX12_undo_13
set_option maxRecDepth 100000 in
set_option maxHeartbeats 4000000 in
theorem c_X12_frees {l : Launch} {ad : Nat → Nat} {ca : FieldType → ClassId} {D : va_G} {sa sv : Nat → Nat} (r : Nat) (hr0 : layM[r]? = some (.inr (.int, 43))) (a2 : Int32) : zC l yX12_frees cX12_frees 2 none 0 layM ad ca D (xtM ad sa sv) [.ref (ad r), .int a2] zvn (p_X12_frees r a2) := by
  refine z_enter (by decide) (Nat.le_of_ble_eq_true rfl) (fun E hE hl0 hcD hr => ?_)
  have hE : zok layM ad (xtM ad sa sv) E cX12_frees 2 RX12 0 := hE
  show Z layM ad E 2 (zFin layM ad E zvn) 0 [(0, .ref (ad r)), (1, .int a2)] [] (p_X12_frees r a2)
  unfold p_X12_frees
  refine z_aload_n (pc := 0) hE 0 0 rfl rfl dX12_frees_0 ?_
  refine z_bipush (pc := 1) hE dX12_frees_1 qM_bipush_7 ?_
  refine z_iload_n (pc := 3) hE 1 1 rfl rfl dX12_frees_3 ?_
  refine z_imul (pc := 4) hE dX12_frees_4 ?_
  refine z_iconst (pc := 5) hE dX12_frees_5 qM_iconst_3 ?_
  refine z_iadd (pc := 6) hE dX12_frees_6 ?_
  refine z_iconst (pc := 7) hE dX12_frees_7 qM_iconst_1 ?_
  refine z_iast (pc := 8) hE hr0 dX12_frees_8 ?_
  refine z_aload_n (pc := 9) hE 0 0 rfl rfl dX12_frees_9 ?_
  refine z_bipush (pc := 10) hE dX12_frees_10 qM_bipush_7 ?_
  refine z_iload_n (pc := 12) hE 1 1 rfl rfl dX12_frees_12 ?_
  refine z_imul (pc := 13) hE dX12_frees_13 ?_
  refine z_iconst (pc := 14) hE dX12_frees_14 qM_iconst_5 ?_
  refine z_iadd (pc := 15) hE dX12_frees_15 ?_
  refine z_iconst (pc := 16) hE dX12_frees_16 qM_iconst_0 ?_
  refine z_iast (pc := 17) hE hr0 dX12_frees_17 ?_
  refine z_aload_n (pc := 18) hE 0 0 rfl rfl dX12_frees_18 ?_
  refine z_bipush (pc := 19) hE dX12_frees_19 qM_bipush_7 ?_
  refine z_iload_n (pc := 21) hE 1 1 rfl rfl dX12_frees_21 ?_
  refine z_imul (pc := 22) hE dX12_frees_22 ?_
  refine z_bipush (pc := 23) hE dX12_frees_23 qM_bipush_6 ?_
  refine z_iadd (pc := 25) hE dX12_frees_25 ?_
  refine z_iconst (pc := 26) hE dX12_frees_26 qM_iconst_0 ?_
  refine z_iast (pc := 27) hE hr0 dX12_frees_27 ?_
  exact z_return (pc := 28) hE hr dX12_frees_28
set_option maxRecDepth 100000 in
set_option maxHeartbeats 4000000 in
theorem c_X12_launches {l : Launch} {ad : Nat → Nat} {ca : FieldType → ClassId} {D : va_G} {sa sv : Nat → Nat} (r : Nat) (hr0 : layM[r]? = some (.inr (.int, 43))) (a2 : Int32) : zC l yX12_launches cX12_launches 3 (some .int) 5 layM ad ca D (xtM ad sa sv) [.ref (ad 0), .ref (ad r), .int a2] zvi (p_X12_launches r a2) := by
  refine z_enter (by decide) (Nat.le_of_ble_eq_true rfl) (fun E hE hl0 hcD hr => ?_)
  have hE : zok layM ad (xtM ad sa sv) E cX12_launches 3 RX12 5 := hE
  show Z layM ad E 3 (zFin layM ad E zvi) 0 [(0, .ref (ad 0)), (1, .ref (ad r)), (2, .int a2)] [] (p_X12_launches r a2)
  unfold p_X12_launches
  refine z_aload_n (pc := 0) hE 0 0 rfl rfl dX12_launches_0 ?_
  refine z_iload_n (pc := 1) hE 2 2 rfl rfl dX12_launches_1 ?_
  refine z_callVi (pc := 2) (st := []) [.int a2] hE kk_RX12_282 (c_X12_isBalloon a2) lM_0 rfl rfl rfl (Nat.le_of_ble_eq_true rfl) (by decide) dX12_launches_2 (fun x1 => ?_)
  refine z_if_ne (pc := 5) hE 10 rfl dX12_launches_5 ?_ ?_
  · refine z_aload_n (pc := 10) hE 1 1 rfl rfl dX12_launches_10 ?_
    refine z_bipush (pc := 11) hE dX12_launches_11 qM_bipush_7 ?_
    refine z_iload_n (pc := 13) hE 2 2 rfl rfl dX12_launches_13 ?_
    refine z_imul (pc := 14) hE dX12_launches_14 ?_
    refine z_iconst (pc := 15) hE dX12_launches_15 qM_iconst_3 ?_
    refine z_iadd (pc := 16) hE dX12_launches_16 ?_
    refine z_iald (pc := 17) hE hr0 dX12_launches_17 (fun x2 => ?_)
    refine z_if_eq (pc := 18) hE 24 rfl dX12_launches_18 ?_ ?_
    · refine z_aload_n (pc := 24) hE 0 0 rfl rfl dX12_launches_24 ?_
      refine z_aload_n (pc := 25) hE 1 1 rfl rfl dX12_launches_25 ?_
      refine z_iload_n (pc := 26) hE 2 2 rfl rfl dX12_launches_26 ?_
      refine z_callVi (pc := 27) (st := []) [.ref (ad r), .int a2] hE kk_RX12_261 (c_X12_liftOf r hr0 a2) lM_0 rfl rfl rfl (Nat.le_of_ble_eq_true rfl) (by decide) dX12_launches_27 (fun x3 => ?_)
      refine z_if_ge (pc := 30) hE 36 rfl dX12_launches_30 ?_ ?_
      · refine z_aload_n (pc := 36) hE 1 1 rfl rfl dX12_launches_36 ?_
        refine z_iload_n (pc := 37) hE 2 2 rfl rfl dX12_launches_37 ?_
        refine z_callSv (pc := 38) (st := []) [.ref (ad r), .int a2] hE kk_RX12_304 (c_X12_frees r hr0 a2) rfl rfl (Nat.le_of_ble_eq_true rfl) (by decide) dX12_launches_38 (fun x4 => ?_)
        refine z_aload_n (pc := 41) hE 0 0 rfl rfl dX12_launches_41 ?_
        refine z_aload_n (pc := 42) hE 1 1 rfl rfl dX12_launches_42 ?_
        refine z_iload_n (pc := 43) hE 2 2 rfl rfl dX12_launches_43 ?_
        refine z_callVi (pc := 44) (st := []) [.ref (ad r), .int a2] hE kk_RX12_290 (c_X12_highOf r hr0 a2) lM_0 rfl rfl rfl (Nat.le_of_ble_eq_true rfl) (by decide) dX12_launches_44 (fun x5 => ?_)
        exact z_ireturn (pc := 47) hE hr dX12_launches_47
      · refine z_bipush (pc := 33) hE dX12_launches_33 qM_bipush_m3 ?_
        exact z_ireturn (pc := 35) hE hr dX12_launches_35
    · refine z_bipush (pc := 21) hE dX12_launches_21 qM_bipush_m2 ?_
      exact z_ireturn (pc := 23) hE hr dX12_launches_23
  · refine z_iconst (pc := 8) hE dX12_launches_8 qM_iconst_m1 ?_
    exact z_ireturn (pc := 9) hE hr dX12_launches_9
set_option maxRecDepth 100000 in
set_option maxHeartbeats 4000000 in
theorem c_X12_apart {l : Launch} {ad : Nat → Nat} {ca : FieldType → ClassId} {D : va_G} {sa sv : Nat → Nat} (r : Nat) (hr0 : layM[r]? = some (.inr (.int, 43))) (a2 : Int32) : zC l yX12_apart cX12_apart 2 (some .int) 1 layM ad ca D (xtM ad sa sv) [.ref (ad r), .int a2] zvi (p_X12_apart r a2) := by
  refine z_enter (by decide) (Nat.le_of_ble_eq_true rfl) (fun E hE hl0 hcD hr => ?_)
  have hE : zok layM ad (xtM ad sa sv) E cX12_apart 2 RX12 1 := hE
  show Z layM ad E 2 (zFin layM ad E zvi) 0 [(0, .ref (ad r)), (1, .int a2)] [] (p_X12_apart r a2)
  unfold p_X12_apart
  refine z_aload_n (pc := 0) hE 0 0 rfl rfl dX12_apart_0 ?_
  refine z_bipush (pc := 1) hE dX12_apart_1 qM_bipush_7 ?_
  refine z_iload_n (pc := 3) hE 1 1 rfl rfl dX12_apart_3 ?_
  refine z_imul (pc := 4) hE dX12_apart_4 ?_
  refine z_iconst (pc := 5) hE dX12_apart_5 qM_iconst_5 ?_
  refine z_iadd (pc := 6) hE dX12_apart_6 ?_
  refine z_iald (pc := 7) hE hr0 dX12_apart_7 (fun x1 => ?_)
  refine z_abs (pc := 8) hE kk_RX12_308 (Nat.le_of_ble_eq_true rfl) (by decide) dX12_apart_8 ?_
  refine z_aload_n (pc := 11) hE 0 0 rfl rfl dX12_apart_11 ?_
  refine z_bipush (pc := 12) hE dX12_apart_12 qM_bipush_7 ?_
  refine z_iload_n (pc := 14) hE 1 1 rfl rfl dX12_apart_14 ?_
  refine z_imul (pc := 15) hE dX12_apart_15 ?_
  refine z_bipush (pc := 16) hE dX12_apart_16 qM_bipush_6 ?_
  refine z_iadd (pc := 18) hE dX12_apart_18 ?_
  refine z_iald (pc := 19) hE hr0 dX12_apart_19 (fun x2 => ?_)
  refine z_abs (pc := 20) hE kk_RX12_308 (Nat.le_of_ble_eq_true rfl) (by decide) dX12_apart_20 ?_
  refine z_iadd (pc := 23) hE dX12_apart_23 ?_
  exact z_ireturn (pc := 24) hE hr dX12_apart_24
