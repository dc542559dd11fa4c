set_option maxRecDepth 100000 in
set_option maxHeartbeats 4000000 in
theorem c_X10_blowing {l : Launch} {ad : Nat → Nat} {ca : FieldType → ClassId} {D : va_G} {tt : Nat → Nat}  : zC l yX10_blowing cX10_blowing 3 (some .int) 0 layX ad ca D (xtX ad tt) [.ref (ad 10)] zvi (p_X10_blowing) := by
  refine z_enter (by decide) (Nat.le_of_ble_eq_true rfl) (fun E hE hl0 hcD hr => ?_)
  have hE : zok layX ad (xtX ad tt) E cX10_blowing 3 RX10 0 := hE
  show Z layX ad E 3 (zFin layX ad E zvi) 0 [(0, .ref (ad 10))] [] (p_X10_blowing)
  unfold p_X10_blowing
  refine z_iconst (pc := 0) hE dX10_blowing_0 q_iconst_0 ?_
  refine z_istore_n (L' := [(1, .int ((0 : Int32))), (0, .ref (ad 10))]) (pc := 1) hE 1 rfl (by decide) rfl dX10_blowing_1 ?_
  refine z_iconst (pc := 2) hE dX10_blowing_2 q_iconst_0 ?_
  refine z_istore_n (L' := [(2, .int ((0 : Int32))), (1, .int ((0 : Int32))), (0, .ref (ad 10))]) (pc := 3) hE 2 rfl (by decide) rfl dX10_blowing_3 ?_
  refine z_sub (L' := [(0, .ref (ad 10)), (1, .int ((0 : Int32))), (2, .int ((0 : Int32)))]) [2, 1, 0] rfl ?_
  refine z_loop (V := (Int32 × Int32)) (X := Int32) (hd := 4) (ex := 33) (Lh := fun v1 => [(0, .ref (ad 10)), (1, .int v1.1), (2, .int v1.2)]) (Lx := fun e4 => [(1, .int e4)]) (fun rc3 k2 hrc3 hk2 v1 => ?_) zNF ((0 : Int32), (0 : Int32)) _ (fun e4 => ?_)
  · unfold p_X10_blowing_b4
    refine z_iload_n (pc := 4) hE 2 2 rfl rfl dX10_blowing_4 ?_
    refine z_bipush (pc := 5) hE dX10_blowing_5 q_bipush_10 ?_
    refine z_icmp_ge (pc := 7) hE 33 rfl dX10_blowing_7 ?_ ?_
    · exact z_sub [1] rfl (hk2 v1.1)
    · refine z_iload_n (pc := 10) hE 1 1 rfl rfl dX10_blowing_10 ?_
      refine z_aload_n (pc := 11) hE 0 0 rfl rfl dX10_blowing_11 ?_
      refine z_getr (pc := 12) hE fk_RX10_15 lX_10 rfl dX10_blowing_12 ?_
      refine z_iload_n (pc := 15) hE 2 2 rfl rfl dX10_blowing_15 ?_
      refine z_iald (pc := 16) hE lX_12 dX10_blowing_16 (fun x5 => ?_)
      refine z_join (Y := Int32) (pcJ := 25) (Lj := fun y6 => [(0, .ref (ad 10)), (2, .int v1.2)]) (sj := fun y6 => [.int y6, .int v1.1]) (fun y6 => ?_) (fun j7 hj7 => ?_)
      · refine z_iadd (pc := 25) hE dX10_blowing_25 ?_
        refine z_istore_n (L' := [(1, .int (v1.1 + y6)), (0, .ref (ad 10)), (2, .int v1.2)]) (pc := 26) hE 1 rfl (by decide) rfl dX10_blowing_26 ?_
        refine z_iinc (L' := [(2, .int (v1.2 + (1 : Int32))), (1, .int (v1.1 + y6)), (0, .ref (ad 10))]) (pc := 27) hE 2 rfl (zinc q_iconst_1) (by decide) rfl dX10_blowing_27 ?_
        refine z_goto (pc := 30) hE 4 rfl dX10_blowing_30 ?_
        exact z_sub [2, 1, 0] rfl (hrc3 (v1.1 + y6, v1.2 + (1 : Int32)))
      refine z_if_le (pc := 17) hE 24 rfl dX10_blowing_17 ?_ ?_
      · refine z_iconst (pc := 24) hE dX10_blowing_24 q_iconst_0 ?_
        exact z_sub [0, 2] rfl (hj7 ((0 : Int32)))
      · refine z_iconst (pc := 20) hE dX10_blowing_20 q_iconst_1 ?_
        refine z_goto (pc := 21) hE 25 rfl dX10_blowing_21 ?_
        exact z_sub [0, 2] rfl (hj7 ((1 : Int32)))
  · refine z_iload_n (pc := 33) hE 0 1 rfl rfl dX10_blowing_33 ?_
    exact z_ireturn (pc := 34) hE hr dX10_blowing_34
set_option maxRecDepth 100000 in
set_option maxHeartbeats 4000000 in
theorem c_X11_sign {l : Launch} {ad : Nat → Nat} {ca : FieldType → ClassId} {D : va_G} {tt : Nat → Nat} (a1 : Int32) : zC l yX11_sign cX11_sign 3 (some .int) 1 layX ad ca D (xtX ad tt) [.ref (ad 0), .int a1] zvi (p_X11_sign a1) := by
  refine z_enter (by decide) (Nat.le_of_ble_eq_true rfl) (fun E hE hl0 hcD hr => ?_)
  have hE : zok layX ad (xtX ad tt) E cX11_sign 3 RX11 1 := hE
  show Z layX ad E 3 (zFin layX ad E zvi) 0 [(0, .ref (ad 0)), (1, .int a1)] [] (p_X11_sign a1)
  unfold p_X11_sign
  refine z_aload_n (pc := 0) hE 0 0 rfl rfl dX11_sign_0 ?_
  refine z_getr (pc := 1) hE fk_RX11_10 lX_0 rfl dX11_sign_1 ?_
  refine z_geti (pc := 4) hE fk_RX11_95 lX_1 rfl dX11_sign_4 (fun x1 => ?_)
  refine z_iconst (pc := 7) hE dX11_sign_7 q_iconst_4 ?_
  refine z_iadd (pc := 8) hE dX11_sign_8 ?_
  refine z_bipush (pc := 9) hE dX11_sign_9 q_bipush_80 ?_
  refine z_icmp_le (pc := 11) hE 16 rfl dX11_sign_11 ?_ ?_
  · refine z_bipush (pc := 16) hE dX11_sign_16 q_bipush_24 ?_
    refine z_istore_n (L' := [(2, .int ((24 : Int32))), (0, .ref (ad 0)), (1, .int a1)]) (pc := 18) hE 2 rfl (by decide) rfl dX11_sign_18 ?_
    refine z_sub (L' := [(0, .ref (ad 0)), (1, .int a1), (2, .int ((24 : Int32)))]) [1, 2, 0] rfl ?_
    refine z_loop (V := Int32) (X := Unit) (hd := 19) (ex := 44) (Lh := fun v2 => [(0, .ref (ad 0)), (1, .int a1), (2, .int v2)]) (Lx := fun e5 => [(0, .ref (ad 0))]) (fun rc4 k3 hrc4 hk3 v2 => ?_) zNF ((24 : Int32)) _ (fun e5 => ?_)
    · unfold p_X11_sign_b19
      refine z_iload_n (pc := 19) hE 2 2 rfl rfl dX11_sign_19 ?_
      refine z_if_lt (pc := 20) hE 44 rfl dX11_sign_20 ?_ ?_
      · exact z_sub [0] rfl (hk3 ())
      · refine z_aload_n (pc := 23) hE 0 0 rfl rfl dX11_sign_23 ?_
        refine z_getr (pc := 24) hE fk_RX11_10 lX_0 rfl dX11_sign_24 ?_
        refine z_iload_n (pc := 27) hE 1 1 rfl rfl dX11_sign_27 ?_
        refine z_iload_n (pc := 28) hE 2 2 rfl rfl dX11_sign_28 ?_
        refine z_iushr (pc := 29) hE dX11_sign_29 ?_
        refine z_sipush (pc := 30) hE dX11_sign_30 q_sipush_255 ?_
        refine z_iand (pc := 33) hE dX11_sign_33 ?_
        refine z_i2c (pc := 34) hE dX11_sign_34 ?_
        refine z_callVv (pc := 35) (st := []) [.int (((((a1.toUInt32 >>> (v2.toUInt32 &&& Int32.toUInt32 31)).toInt32) &&& ((255 : Int32))).toUInt32 % 65536).toInt32)] hE kk_RX11_99 (c_X8_append (((((a1.toUInt32 >>> (v2.toUInt32 &&& Int32.toUInt32 31)).toInt32) &&& ((255 : Int32))).toUInt32 % 65536).toInt32)) lX_1 rfl rfl rfl (Nat.le_of_ble_eq_true rfl) (by decide) dX11_sign_35 (fun x6 => ?_)
        refine z_iinc (L' := [(2, .int (v2 + (-8 : Int32))), (0, .ref (ad 0)), (1, .int a1)]) (pc := 38) hE 2 rfl (zinc q_iconst_m8) (by decide) rfl dX11_sign_38 ?_
        refine z_goto (pc := 41) hE 19 rfl dX11_sign_41 ?_
        exact z_sub [1, 2, 0] rfl (hrc4 (v2 + (-8 : Int32)))
    · refine z_aload_n (pc := 44) hE 0 0 rfl rfl dX11_sign_44 ?_
      refine z_getr (pc := 45) hE fk_RX11_10 lX_0 rfl dX11_sign_45 ?_
      refine z_geti (pc := 48) hE fk_RX11_95 lX_1 rfl dX11_sign_48 (fun x7 => ?_)
      exact z_ireturn (pc := 51) hE hr dX11_sign_51
  · refine z_iconst (pc := 14) hE dX11_sign_14 q_iconst_m1 ?_
    exact z_ireturn (pc := 15) hE hr dX11_sign_15
set_option maxRecDepth 100000 in
set_option maxHeartbeats 4000000 in
theorem c_X11_end {l : Launch} {ad : Nat → Nat} {ca : FieldType → ClassId} {D : va_G} {tt : Nat → Nat} (a1 : Int32) : zC l yX11_end cX11_end 2 (some .boolean) 0 layX ad ca D (xtX ad tt) [.ref (ad 0), .int a1] zvi (p_X11_end a1) := by
  refine z_enter (by decide) (Nat.le_of_ble_eq_true rfl) (fun E hE hl0 hcD hr => ?_)
  have hE : zok layX ad (xtX ad tt) E cX11_end 2 RX11 0 := hE
  show Z layX ad E 2 (zFin layX ad E zvi) 0 [(0, .ref (ad 0)), (1, .int a1)] [] (p_X11_end a1)
  unfold p_X11_end
  refine z_iload_n (pc := 0) hE 1 1 rfl rfl dX11_end_0 ?_
  refine z_if_lt (pc := 1) hE 15 rfl dX11_end_1 ?_ ?_
  · refine z_iconst (pc := 15) hE dX11_end_15 q_iconst_0 ?_
    exact z_zreturn (pc := 16) hE hr dX11_end_16
  · refine z_iload_n (pc := 4) hE 1 1 rfl rfl dX11_end_4 ?_
    refine z_aload_n (pc := 5) hE 0 0 rfl rfl dX11_end_5 ?_
    refine z_getr (pc := 6) hE fk_RX11_10 lX_0 rfl dX11_end_6 ?_
    refine z_geti (pc := 9) hE fk_RX11_95 lX_1 rfl dX11_end_9 (fun x1 => ?_)
    refine z_icmp_le (pc := 12) hE 17 rfl dX11_end_12 ?_ ?_
    · refine z_aload_n (pc := 17) hE 0 0 rfl rfl dX11_end_17 ?_
      refine z_getr (pc := 18) hE fk_RX11_10 lX_0 rfl dX11_end_18 ?_
      refine z_iload_n (pc := 21) hE 1 1 rfl rfl dX11_end_21 ?_
      refine z_puti (pc := 22) hE fk_RX11_95 lX_1 rfl dX11_end_22 ?_
      refine z_iconst (pc := 25) hE dX11_end_25 q_iconst_1 ?_
      exact z_zreturn (pc := 26) hE hr dX11_end_26
    · refine z_iconst (pc := 15) hE dX11_end_15 q_iconst_0 ?_
      exact z_zreturn (pc := 16) hE hr dX11_end_16
set_option maxRecDepth 100000 in
set_option maxHeartbeats 4000000 in
theorem c_X11_tower {l : Launch} {ad : Nat → Nat} {ca : FieldType → ClassId} {D : va_G} {tt : Nat → Nat}  : zC l yX11_tower cX11_tower 2 (some .int) 3 layX ad ca D (xtX ad tt) [.ref (ad 0)] zvi (p_X11_tower) := by
  refine z_enter (by decide) (Nat.le_of_ble_eq_true rfl) (fun E hE hl0 hcD hr => ?_)
  have hE : zok layX ad (xtX ad tt) E cX11_tower 2 RX11 3 := hE
  show Z layX ad E 2 (zFin layX ad E zvi) 0 [(0, .ref (ad 0))] [] (p_X11_tower)
  unfold p_X11_tower
  refine z_aload_n (pc := 0) hE 0 0 rfl rfl dX11_tower_0 ?_
  refine z_getr (pc := 1) hE fk_RX11_10 lX_0 rfl dX11_tower_1 ?_
  refine z_bipush (pc := 4) hE dX11_tower_4 q_bipush_23 ?_
  refine z_callVv (pc := 6) (st := []) [.int ((23 : Int32))] hE kk_RX11_103 (c_X8_open ((23 : Int32))) lX_1 rfl rfl rfl (Nat.le_of_ble_eq_true rfl) (by decide) dX11_tower_6 (fun x1 => ?_)
  refine z_aload_n (pc := 9) hE 0 0 rfl rfl dX11_tower_9 ?_
  refine z_getr (pc := 10) hE fk_RX11_19 lX_0 rfl dX11_tower_10 ?_
  refine z_aload_n (pc := 13) hE 0 0 rfl rfl dX11_tower_13 ?_
  refine z_getr (pc := 14) hE fk_RX11_10 lX_0 rfl dX11_tower_14 ?_
  refine z_callVi (pc := 17) (st := []) [.ref (ad 1)] hE kk_RX11_107 (c_X9_read) lX_3 rfl rfl rfl (Nat.le_of_ble_eq_true rfl) (by decide) dX11_tower_17 (fun x2 => ?_)
  refine z_istore_n (L' := [(1, .int x2), (0, .ref (ad 0))]) (pc := 20) hE 1 rfl (by decide) rfl dX11_tower_20 ?_
  refine z_aload_n (pc := 21) hE 1 0 rfl rfl dX11_tower_21 ?_
  refine z_getr (pc := 22) hE fk_RX11_10 lX_0 rfl dX11_tower_22 ?_
  refine z_callVv (pc := 25) (st := []) [] hE kk_RX11_111 (c_X8_close) lX_1 rfl rfl rfl (Nat.le_of_ble_eq_true rfl) (by decide) dX11_tower_25 (fun x3 => ?_)
  refine z_iload_n (pc := 28) hE 0 1 rfl rfl dX11_tower_28 ?_
  refine z_if_ge (pc := 29) hE 40 rfl dX11_tower_29 ?_ ?_
  · refine z_aload_n (pc := 40) hE 1 0 rfl rfl dX11_tower_40 ?_
    refine z_getr (pc := 41) hE fk_RX11_42 lX_0 rfl dX11_tower_41 ?_
    refine z_callVv (pc := 44) (st := []) [] hE kk_RX11_118 (c_X3_leave 20 zfk_20) lX_20 rfl rfl rfl (Nat.le_of_ble_eq_true rfl) (by decide) dX11_tower_44 (fun x4 => ?_)
    refine z_aload_n (pc := 47) hE 1 0 rfl rfl dX11_tower_47 ?_
    refine z_getr (pc := 48) hE fk_RX11_66 lX_0 rfl dX11_tower_48 ?_
    refine z_iconst (pc := 51) hE dX11_tower_51 q_iconst_0 ?_
    refine z_puti (pc := 52) hE fk_RX11_121 lX_50 rfl dX11_tower_52 ?_
    refine z_aload_n (pc := 55) hE 1 0 rfl rfl dX11_tower_55 ?_
    refine z_getr (pc := 56) hE fk_RX11_52 lX_0 rfl dX11_tower_56 ?_
    refine z_callVv (pc := 59) (st := []) [] hE kk_RX11_122 (c_X6_forgetActs) lX_44 rfl rfl rfl (Nat.le_of_ble_eq_true rfl) (by decide) dX11_tower_59 (fun x5 => ?_)
    refine z_aload_n (pc := 62) hE 1 0 rfl rfl dX11_tower_62 ?_
    refine z_getr (pc := 63) hE fk_RX11_52 lX_0 rfl dX11_tower_63 ?_
    refine z_callVv (pc := 66) (st := []) [] hE kk_RX11_125 (c_X6_forgetKept) lX_44 rfl rfl rfl (Nat.le_of_ble_eq_true rfl) (by decide) dX11_tower_66 (fun x6 => ?_)
    refine z_iload_n (pc := 69) hE 0 1 rfl rfl dX11_tower_69 ?_
    exact z_ireturn (pc := 70) hE hr dX11_tower_70
  · refine z_aload_n (pc := 32) hE 1 0 rfl rfl dX11_tower_32 ?_
    refine z_getr (pc := 33) hE fk_RX11_10 lX_0 rfl dX11_tower_33 ?_
    refine z_callVi (pc := 36) (st := []) [] hE kk_RX11_114 (c_X8_fault) lX_1 rfl rfl rfl (Nat.le_of_ble_eq_true rfl) (by decide) dX11_tower_36 (fun x7 => ?_)
    exact z_ireturn (pc := 39) hE hr dX11_tower_39
set_option maxRecDepth 100000 in
set_option maxHeartbeats 4000000 in
theorem c_X11_balloons {l : Launch} {ad : Nat → Nat} {ca : FieldType → ClassId} {D : va_G} {tt : Nat → Nat}  : zC l yX11_balloons cX11_balloons 2 (some .int) 5 layX ad ca D (xtX ad tt) [.ref (ad 0)] zvi (p_X11_balloons) := by
  refine z_enter (by decide) (Nat.le_of_ble_eq_true rfl) (fun E hE hl0 hcD hr => ?_)
  have hE : zok layX ad (xtX ad tt) E cX11_balloons 2 RX11 5 := hE
  show Z layX ad E 2 (zFin layX ad E zvi) 0 [(0, .ref (ad 0))] [] (p_X11_balloons)
  unfold p_X11_balloons
  refine z_aload_n (pc := 0) hE 0 0 rfl rfl dX11_balloons_0 ?_
  refine z_getr (pc := 1) hE fk_RX11_10 lX_0 rfl dX11_balloons_1 ?_
  refine z_bipush (pc := 4) hE dX11_balloons_4 q_bipush_47 ?_
  refine z_callVv (pc := 6) (st := []) [.int ((47 : Int32))] hE kk_RX11_103 (c_X8_open ((47 : Int32))) lX_1 rfl rfl rfl (Nat.le_of_ble_eq_true rfl) (by decide) dX11_balloons_6 (fun x1 => ?_)
  refine z_aload_n (pc := 9) hE 0 0 rfl rfl dX11_balloons_9 ?_
  refine z_getr (pc := 10) hE fk_RX11_42 lX_0 rfl dX11_balloons_10 ?_
  refine z_aload_n (pc := 13) hE 0 0 rfl rfl dX11_balloons_13 ?_
  refine z_getr (pc := 14) hE fk_RX11_10 lX_0 rfl dX11_balloons_14 ?_
  refine z_callVi (pc := 17) (st := []) [.ref (ad 1)] hE kk_RX11_128 (c_X3_read 20 zfk_20) lX_20 rfl rfl rfl (Nat.le_of_ble_eq_true rfl) (by decide) dX11_balloons_17 (fun x2 => ?_)
  refine z_istore_n (L' := [(1, .int x2), (0, .ref (ad 0))]) (pc := 20) hE 1 rfl (by decide) rfl dX11_balloons_20 ?_
  refine z_aload_n (pc := 21) hE 1 0 rfl rfl dX11_balloons_21 ?_
  refine z_getr (pc := 22) hE fk_RX11_10 lX_0 rfl dX11_balloons_22 ?_
  refine z_callVv (pc := 25) (st := []) [] hE kk_RX11_111 (c_X8_close) lX_1 rfl rfl rfl (Nat.le_of_ble_eq_true rfl) (by decide) dX11_balloons_25 (fun x3 => ?_)
  refine z_iload_n (pc := 28) hE 0 1 rfl rfl dX11_balloons_28 ?_
  refine z_if_ge (pc := 29) hE 40 rfl dX11_balloons_29 ?_ ?_
  · refine z_iload_n (pc := 40) hE 0 1 rfl rfl dX11_balloons_40 ?_
    refine z_if_le (pc := 41) hE 58 rfl dX11_balloons_41 ?_ ?_
    · refine z_iload_n (pc := 58) hE 0 1 rfl rfl dX11_balloons_58 ?_
      exact z_ireturn (pc := 59) hE hr dX11_balloons_59
    · refine z_aload_n (pc := 44) hE 1 0 rfl rfl dX11_balloons_44 ?_
      refine z_getr (pc := 45) hE fk_RX11_52 lX_0 rfl dX11_balloons_45 ?_
      refine z_callVv (pc := 48) (st := []) [] hE kk_RX11_122 (c_X6_forgetActs) lX_44 rfl rfl rfl (Nat.le_of_ble_eq_true rfl) (by decide) dX11_balloons_48 (fun x4 => ?_)
      refine z_aload_n (pc := 51) hE 1 0 rfl rfl dX11_balloons_51 ?_
      refine z_getr (pc := 52) hE fk_RX11_52 lX_0 rfl dX11_balloons_52 ?_
      refine z_callVv (pc := 55) (st := []) [] hE kk_RX11_125 (c_X6_forgetKept) lX_44 rfl rfl rfl (Nat.le_of_ble_eq_true rfl) (by decide) dX11_balloons_55 (fun x5 => ?_)
      refine z_iload_n (pc := 58) hE 0 1 rfl rfl dX11_balloons_58 ?_
      exact z_ireturn (pc := 59) hE hr dX11_balloons_59
  · refine z_aload_n (pc := 32) hE 1 0 rfl rfl dX11_balloons_32 ?_
    refine z_getr (pc := 33) hE fk_RX11_10 lX_0 rfl dX11_balloons_33 ?_
    refine z_callVi (pc := 36) (st := []) [] hE kk_RX11_114 (c_X8_fault) lX_1 rfl rfl rfl (Nat.le_of_ble_eq_true rfl) (by decide) dX11_balloons_36 (fun x6 => ?_)
    exact z_ireturn (pc := 39) hE hr dX11_balloons_39
set_option maxRecDepth 100000 in
set_option maxHeartbeats 4000000 in
theorem c_X11_winds {l : Launch} {ad : Nat → Nat} {ca : FieldType → ClassId} {D : va_G} {tt : Nat → Nat}  : zC l yX11_winds cX11_winds 2 (some .int) 3 layX ad ca D (xtX ad tt) [.ref (ad 0)] zvi (p_X11_winds) := by
  refine z_enter (by decide) (Nat.le_of_ble_eq_true rfl) (fun E hE hl0 hcD hr => ?_)
  have hE : zok layX ad (xtX ad tt) E cX11_winds 2 RX11 3 := hE
  show Z layX ad E 2 (zFin layX ad E zvi) 0 [(0, .ref (ad 0))] [] (p_X11_winds)
  unfold p_X11_winds
  refine z_aload_n (pc := 0) hE 0 0 rfl rfl dX11_winds_0 ?_
  refine z_getr (pc := 1) hE fk_RX11_10 lX_0 rfl dX11_winds_1 ?_
  refine z_bipush (pc := 4) hE dX11_winds_4 q_bipush_29 ?_
  refine z_callVv (pc := 6) (st := []) [.int ((29 : Int32))] hE kk_RX11_103 (c_X8_open ((29 : Int32))) lX_1 rfl rfl rfl (Nat.le_of_ble_eq_true rfl) (by decide) dX11_winds_6 (fun x1 => ?_)
  refine z_aload_n (pc := 9) hE 0 0 rfl rfl dX11_winds_9 ?_
  refine z_getr (pc := 10) hE fk_RX11_26 lX_0 rfl dX11_winds_10 ?_
  refine z_aload_n (pc := 13) hE 0 0 rfl rfl dX11_winds_13 ?_
  refine z_getr (pc := 14) hE fk_RX11_10 lX_0 rfl dX11_winds_14 ?_
  refine z_callVi (pc := 17) (st := []) [.ref (ad 1)] hE kk_RX11_129 (c_X10_read) lX_10 rfl rfl rfl (Nat.le_of_ble_eq_true rfl) (by decide) dX11_winds_17 (fun x2 => ?_)
  refine z_istore_n (L' := [(1, .int x2), (0, .ref (ad 0))]) (pc := 20) hE 1 rfl (by decide) rfl dX11_winds_20 ?_
  refine z_aload_n (pc := 21) hE 1 0 rfl rfl dX11_winds_21 ?_
  refine z_getr (pc := 22) hE fk_RX11_10 lX_0 rfl dX11_winds_22 ?_
  refine z_callVv (pc := 25) (st := []) [] hE kk_RX11_111 (c_X8_close) lX_1 rfl rfl rfl (Nat.le_of_ble_eq_true rfl) (by decide) dX11_winds_25 (fun x3 => ?_)
  refine z_iload_n (pc := 28) hE 0 1 rfl rfl dX11_winds_28 ?_
  refine z_if_eq (pc := 29) hE 42 rfl dX11_winds_29 ?_ ?_
  · refine z_aload_n (pc := 42) hE 1 0 rfl rfl dX11_winds_42 ?_
    refine z_getr (pc := 43) hE fk_RX11_10 lX_0 rfl dX11_winds_43 ?_
    refine z_callVi (pc := 46) (st := []) [] hE kk_RX11_114 (c_X8_fault) lX_1 rfl rfl rfl (Nat.le_of_ble_eq_true rfl) (by decide) dX11_winds_46 (fun x4 => ?_)
    exact z_ireturn (pc := 49) hE hr dX11_winds_49
  · refine z_aload_n (pc := 32) hE 1 0 rfl rfl dX11_winds_32 ?_
    refine z_getr (pc := 33) hE fk_RX11_26 lX_0 rfl dX11_winds_33 ?_
    refine z_callVi (pc := 36) (st := []) [] hE kk_RX11_132 (c_X10_blowing) lX_10 rfl rfl rfl (Nat.le_of_ble_eq_true rfl) (by decide) dX11_winds_36 (fun x5 => ?_)
    refine z_goto (pc := 39) hE 49 rfl dX11_winds_39 ?_
    exact z_ireturn (pc := 49) hE hr dX11_winds_49
set_option maxRecDepth 100000 in
set_option maxHeartbeats 4000000 in
theorem c_X11_rule {l : Launch} {ad : Nat → Nat} {ca : FieldType → ClassId} {D : va_G} {tt : Nat → Nat}  : zC l yX11_rule cX11_rule 2 (some .int) 103 layX ad ca D (xtX ad tt) [.ref (ad 0)] zvi (p_X11_rule) := by
  refine z_enter (by decide) (Nat.le_of_ble_eq_true rfl) (fun E hE hl0 hcD hr => ?_)
  have hE : zok layX ad (xtX ad tt) E cX11_rule 2 RX11 103 := hE
  show Z layX ad E 2 (zFin layX ad E zvi) 0 [(0, .ref (ad 0))] [] (p_X11_rule)
  unfold p_X11_rule
  refine z_aload_n (pc := 0) hE 0 0 rfl rfl dX11_rule_0 ?_
  refine z_getr (pc := 1) hE fk_RX11_10 lX_0 rfl dX11_rule_1 ?_
  refine z_bipush (pc := 4) hE dX11_rule_4 q_bipush_40 ?_
  refine z_callVv (pc := 6) (st := []) [.int ((40 : Int32))] hE kk_RX11_103 (c_X8_open ((40 : Int32))) lX_1 rfl rfl rfl (Nat.le_of_ble_eq_true rfl) (by decide) dX11_rule_6 (fun x1 => ?_)
  refine z_aload_n (pc := 9) hE 0 0 rfl rfl dX11_rule_9 ?_
  refine z_getr (pc := 10) hE fk_RX11_33 lX_0 rfl dX11_rule_10 ?_
  refine z_aload_n (pc := 13) hE 0 0 rfl rfl dX11_rule_13 ?_
  refine z_getr (pc := 14) hE fk_RX11_10 lX_0 rfl dX11_rule_14 ?_
  refine z_callVi (pc := 17) (st := []) [.ref (ad 1)] hE kk_RX11_135 (c_X7_read) lX_16 rfl rfl rfl (Nat.le_of_ble_eq_true rfl) (by decide) dX11_rule_17 (fun x2 => ?_)
  refine z_istore_n (L' := [(1, .int x2), (0, .ref (ad 0))]) (pc := 20) hE 1 rfl (by decide) rfl dX11_rule_20 ?_
  refine z_aload_n (pc := 21) hE 1 0 rfl rfl dX11_rule_21 ?_
  refine z_getr (pc := 22) hE fk_RX11_10 lX_0 rfl dX11_rule_22 ?_
  refine z_callVv (pc := 25) (st := []) [] hE kk_RX11_111 (c_X8_close) lX_1 rfl rfl rfl (Nat.le_of_ble_eq_true rfl) (by decide) dX11_rule_25 (fun x3 => ?_)
  refine z_iload_n (pc := 28) hE 0 1 rfl rfl dX11_rule_28 ?_
  refine z_if_eq (pc := 29) hE 36 rfl dX11_rule_29 ?_ ?_
  · refine z_aload_n (pc := 36) hE 1 0 rfl rfl dX11_rule_36 ?_
    refine z_getr (pc := 37) hE fk_RX11_10 lX_0 rfl dX11_rule_37 ?_
    refine z_callVi (pc := 40) (st := []) [] hE kk_RX11_114 (c_X8_fault) lX_1 rfl rfl rfl (Nat.le_of_ble_eq_true rfl) (by decide) dX11_rule_40 (fun x4 => ?_)
    exact z_ireturn (pc := 43) hE hr dX11_rule_43
  · refine z_iconst (pc := 32) hE dX11_rule_32 q_iconst_0 ?_
    refine z_goto (pc := 33) hE 43 rfl dX11_rule_33 ?_
    exact z_ireturn (pc := 43) hE hr dX11_rule_43
set_option maxRecDepth 100000 in
set_option maxHeartbeats 4000000 in
theorem c_X11_ring {l : Launch} {ad : Nat → Nat} {ca : FieldType → ClassId} {D : va_G} {tt : Nat → Nat} (hlt : l.stackTraces = false) (a1 : Int32) (a2 : Int32) : zCX l yX11_ring cX11_ring 4 (some .int) 6 layX ad ca D (xtX ad tt) [.ref (ad 0), .int a1, .int a2] zvi (p_X11_ring a1 a2) := by
  refine z_enterX hlt (by decide) (Nat.le_of_ble_eq_true rfl) (fun E hE hlt hT hrm hr => ?_)
  have hE : zok layX ad (xtX ad tt) E cX11_ring 4 RX11 6 := hE
  show Z layX ad E 4 (zFinX layX ad E zvi) 0 [(0, .ref (ad 0)), (1, .int a1), (2, .int a2)] [] (p_X11_ring a1 a2)
  unfold p_X11_ring
  refine z_aload_n (pc := 0) hE 0 0 rfl rfl dX11_ring_0 ?_
  refine z_getr (pc := 1) hE fk_RX11_19 lX_0 rfl dX11_ring_1 ?_
  refine z_iload_n (pc := 4) hE 1 1 rfl rfl dX11_ring_4 ?_
  refine z_callVi (pc := 5) (st := []) [.int a1] hE kk_RX11_136 (c_X9_has a1) lX_3 rfl rfl rfl (Nat.le_of_ble_eq_true rfl) (by decide) dX11_ring_5 (fun x1 => ?_)
  refine z_if_ne (pc := 8) hE 19 rfl dX11_ring_8 ?_ ?_
  · refine z_aload_n (pc := 19) hE 0 0 rfl rfl dX11_ring_19 ?_
    refine z_getr (pc := 20) hE fk_RX11_19 lX_0 rfl dX11_ring_20 ?_
    refine z_getr (pc := 23) hE fk_RX11_143 lX_3 rfl dX11_ring_23 ?_
    refine z_iload_n (pc := 26) hE 1 1 rfl rfl dX11_ring_26 ?_
    refine z_iald (pc := 27) hE lX_4 dX11_ring_27 (fun x2 => ?_)
    refine z_istore_n (L' := [(3, .int x2), (0, .ref (ad 0)), (1, .int a1), (2, .int a2)]) (pc := 28) hE 3 rfl (by decide) rfl dX11_ring_28 ?_
    refine z_iload_n (pc := 29) hE 3 2 rfl rfl dX11_ring_29 ?_
    refine z_case a2 (0 : Int32) (fun hc3 => ?_) (fun hc3 => ?_)
    · refine z_tableIn (pc := 30) hE 34 64 dX11_ring_30 (by rw [hc3]; decide) (by rw [hc3]; decide) (by rw [hc3]; rfl) rfl ?_
      refine z_iload_n (pc := 64) hE 0 3 rfl rfl dX11_ring_64 ?_
      exact z_ireturnX (pc := 65) hE hr dX11_ring_65
    refine z_case a2 (1 : Int32) (fun hc4 => ?_) (fun hc4 => ?_)
    · refine z_tableIn (pc := 30) hE 36 66 dX11_ring_30 (by rw [hc4]; decide) (by rw [hc4]; decide) (by rw [hc4]; rfl) rfl ?_
      refine z_aload_n (pc := 66) hE 1 0 rfl rfl dX11_ring_66 ?_
      refine z_getr (pc := 67) hE fk_RX11_19 lX_0 rfl dX11_ring_67 ?_
      refine z_getr (pc := 70) hE fk_RX11_147 lX_3 rfl dX11_ring_70 ?_
      refine z_iload_n (pc := 73) hE 2 1 rfl rfl dX11_ring_73 ?_
      refine z_iald (pc := 74) hE lX_5 dX11_ring_74 (fun x5 => ?_)
      exact z_ireturnX (pc := 75) hE hr dX11_ring_75
    refine z_case a2 (2 : Int32) (fun hc6 => ?_) (fun hc6 => ?_)
    · refine z_tableIn (pc := 30) hE 46 76 dX11_ring_30 (by rw [hc6]; decide) (by rw [hc6]; decide) (by rw [hc6]; rfl) rfl ?_
      refine z_aload_n (pc := 76) hE 1 0 rfl rfl dX11_ring_76 ?_
      refine z_getr (pc := 77) hE fk_RX11_42 lX_0 rfl dX11_ring_77 ?_
      refine z_iload_n (pc := 80) hE 2 1 rfl rfl dX11_ring_80 ?_
      refine z_callVi (pc := 81) (st := []) [.int a1] hE kk_RX11_150 (c_X3_guestAt 20 zfk_20 a1) lX_20 rfl rfl rfl (Nat.le_of_ble_eq_true rfl) (by decide) dX11_ring_81 (fun x7 => ?_)
      exact z_ireturnX (pc := 84) hE hr dX11_ring_84
    refine z_case a2 (3 : Int32) (fun hc8 => ?_) (fun hc8 => ?_)
    · refine z_tableIn (pc := 30) hE 55 85 dX11_ring_30 (by rw [hc8]; decide) (by rw [hc8]; decide) (by rw [hc8]; rfl) rfl ?_
      refine z_aload_n (pc := 85) hE 1 0 rfl rfl dX11_ring_85 ?_
      refine z_getr (pc := 86) hE fk_RX11_26 lX_0 rfl dX11_ring_86 ?_
      refine z_getr (pc := 89) hE fk_RX11_154 lX_10 rfl dX11_ring_89 ?_
      refine z_iload_n (pc := 92) hE 0 3 rfl rfl dX11_ring_92 ?_
      refine z_iald (pc := 93) hE lX_11 dX11_ring_93 (fun x9 => ?_)
      exact z_ireturnX (pc := 94) hE hr dX11_ring_94
    refine z_case a2 (4 : Int32) (fun hc10 => ?_) (fun hc10 => ?_)
    · refine z_tableIn (pc := 30) hE 65 95 dX11_ring_30 (by rw [hc10]; decide) (by rw [hc10]; decide) (by rw [hc10]; rfl) rfl ?_
      refine z_aload_n (pc := 95) hE 1 0 rfl rfl dX11_ring_95 ?_
      refine z_getr (pc := 96) hE fk_RX11_26 lX_0 rfl dX11_ring_96 ?_
      refine z_getr (pc := 99) hE fk_RX11_157 lX_10 rfl dX11_ring_99 ?_
      refine z_iload_n (pc := 102) hE 0 3 rfl rfl dX11_ring_102 ?_
      refine z_iald (pc := 103) hE lX_12 dX11_ring_103 (fun x11 => ?_)
      exact z_ireturnX (pc := 104) hE hr dX11_ring_104
    have ihc3 := zne (0) hc3 (by decide)
    have ihc4 := zne (1) hc4 (by decide)
    have ihc6 := zne (2) hc6 (by decide)
    have ihc8 := zne (3) hc8 (by decide)
    have ihc10 := zne (4) hc10 (by decide)
    refine z_tableOut (pc := 30) hE 105 dX11_ring_30 (by omega) rfl ?_
    exact z_throw (pc := 105) hE xThr hlt hT hrm (Nat.le_of_ble_eq_true rfl) (by decide) dX11_ring_105 dX11_ring_108 dX11_ring_109 dX11_ring_112
  · exact z_throw (pc := 11) hE xThr hlt hT hrm (Nat.le_of_ble_eq_true rfl) (by decide) dX11_ring_11 dX11_ring_14 dX11_ring_15 dX11_ring_18
set_option maxRecDepth 100000 in
set_option maxHeartbeats 4000000 in
theorem c_X11_balloon {l : Launch} {ad : Nat → Nat} {ca : FieldType → ClassId} {D : va_G} {tt : Nat → Nat} (hlt : l.stackTraces = false) (a1 : Int32) (a2 : Int32) : zCX l yX11_balloon cX11_balloon 3 (some .int) 6 layX ad ca D (xtX ad tt) [.ref (ad 0), .int a1, .int a2] zvi (p_X11_balloon a1 a2) := by
  refine z_enterX hlt (by decide) (Nat.le_of_ble_eq_true rfl) (fun E hE hlt hT hrm hr => ?_)
  have hE : zok layX ad (xtX ad tt) E cX11_balloon 3 RX11 6 := hE
  show Z layX ad E 3 (zFinX layX ad E zvi) 0 [(0, .ref (ad 0)), (1, .int a1), (2, .int a2)] [] (p_X11_balloon a1 a2)
  unfold p_X11_balloon
  refine z_aload_n (pc := 0) hE 0 0 rfl rfl dX11_balloon_0 ?_
  refine z_getr (pc := 1) hE fk_RX11_42 lX_0 rfl dX11_balloon_1 ?_
  refine z_iload_n (pc := 4) hE 1 1 rfl rfl dX11_balloon_4 ?_
  refine z_callVi (pc := 5) (st := []) [.int a1] hE kk_RX11_160 (c_X3_has 20 zfk_20 a1) lX_20 rfl rfl rfl (Nat.le_of_ble_eq_true rfl) (by decide) dX11_balloon_5 (fun x1 => ?_)
  refine z_if_ne (pc := 8) hE 19 rfl dX11_balloon_8 ?_ ?_
  · refine z_iload_n (pc := 19) hE 2 2 rfl rfl dX11_balloon_19 ?_
    refine z_case a2 (0 : Int32) (fun hc2 => ?_) (fun hc2 => ?_)
    · refine z_tableIn (pc := 20) hE 56 76 dX11_balloon_20 (by rw [hc2]; decide) (by rw [hc2]; decide) (by rw [hc2]; rfl) rfl ?_
      refine z_aload_n (pc := 76) hE 0 0 rfl rfl dX11_balloon_76 ?_
      refine z_getr (pc := 77) hE fk_RX11_42 lX_0 rfl dX11_balloon_77 ?_
      refine z_getr (pc := 80) hE fk_RX11_161 lX_20 rfl dX11_balloon_80 ?_
      refine z_iload_n (pc := 83) hE 1 1 rfl rfl dX11_balloon_83 ?_
      refine z_iald (pc := 84) hE lX_23 dX11_balloon_84 (fun x3 => ?_)
      exact z_ireturnX (pc := 85) hE hr dX11_balloon_85
    refine z_case a2 (1 : Int32) (fun hc4 => ?_) (fun hc4 => ?_)
    · refine z_tableIn (pc := 20) hE 66 86 dX11_balloon_20 (by rw [hc4]; decide) (by rw [hc4]; decide) (by rw [hc4]; rfl) rfl ?_
      refine z_aload_n (pc := 86) hE 0 0 rfl rfl dX11_balloon_86 ?_
      refine z_getr (pc := 87) hE fk_RX11_42 lX_0 rfl dX11_balloon_87 ?_
      refine z_getr (pc := 90) hE fk_RX11_164 lX_20 rfl dX11_balloon_90 ?_
      refine z_iload_n (pc := 93) hE 1 1 rfl rfl dX11_balloon_93 ?_
      refine z_iald (pc := 94) hE lX_24 dX11_balloon_94 (fun x5 => ?_)
      exact z_ireturnX (pc := 95) hE hr dX11_balloon_95
    refine z_case a2 (2 : Int32) (fun hc6 => ?_) (fun hc6 => ?_)
    · refine z_tableIn (pc := 20) hE 76 96 dX11_balloon_20 (by rw [hc6]; decide) (by rw [hc6]; decide) (by rw [hc6]; rfl) rfl ?_
      refine z_aload_n (pc := 96) hE 0 0 rfl rfl dX11_balloon_96 ?_
      refine z_getr (pc := 97) hE fk_RX11_42 lX_0 rfl dX11_balloon_97 ?_
      refine z_getr (pc := 100) hE fk_RX11_167 lX_20 rfl dX11_balloon_100 ?_
      refine z_iload_n (pc := 103) hE 1 1 rfl rfl dX11_balloon_103 ?_
      refine z_iald (pc := 104) hE lX_25 dX11_balloon_104 (fun x7 => ?_)
      exact z_ireturnX (pc := 105) hE hr dX11_balloon_105
    refine z_case a2 (3 : Int32) (fun hc8 => ?_) (fun hc8 => ?_)
    · refine z_tableIn (pc := 20) hE 86 106 dX11_balloon_20 (by rw [hc8]; decide) (by rw [hc8]; decide) (by rw [hc8]; rfl) rfl ?_
      refine z_aload_n (pc := 106) hE 0 0 rfl rfl dX11_balloon_106 ?_
      refine z_getr (pc := 107) hE fk_RX11_42 lX_0 rfl dX11_balloon_107 ?_
      refine z_getr (pc := 110) hE fk_RX11_170 lX_20 rfl dX11_balloon_110 ?_
      refine z_iload_n (pc := 113) hE 1 1 rfl rfl dX11_balloon_113 ?_
      refine z_iald (pc := 114) hE lX_26 dX11_balloon_114 (fun x9 => ?_)
      exact z_ireturnX (pc := 115) hE hr dX11_balloon_115
    refine z_case a2 (4 : Int32) (fun hc10 => ?_) (fun hc10 => ?_)
    · refine z_tableIn (pc := 20) hE 96 116 dX11_balloon_20 (by rw [hc10]; decide) (by rw [hc10]; decide) (by rw [hc10]; rfl) rfl ?_
      refine z_aload_n (pc := 116) hE 0 0 rfl rfl dX11_balloon_116 ?_
      refine z_getr (pc := 117) hE fk_RX11_42 lX_0 rfl dX11_balloon_117 ?_
      refine z_getr (pc := 120) hE fk_RX11_173 lX_20 rfl dX11_balloon_120 ?_
      refine z_iload_n (pc := 123) hE 1 1 rfl rfl dX11_balloon_123 ?_
      refine z_iald (pc := 124) hE lX_27 dX11_balloon_124 (fun x11 => ?_)
      exact z_ireturnX (pc := 125) hE hr dX11_balloon_125
    refine z_case a2 (5 : Int32) (fun hc12 => ?_) (fun hc12 => ?_)
    · refine z_tableIn (pc := 20) hE 106 126 dX11_balloon_20 (by rw [hc12]; decide) (by rw [hc12]; decide) (by rw [hc12]; rfl) rfl ?_
      refine z_aload_n (pc := 126) hE 0 0 rfl rfl dX11_balloon_126 ?_
      refine z_getr (pc := 127) hE fk_RX11_42 lX_0 rfl dX11_balloon_127 ?_
      refine z_iload_n (pc := 130) hE 1 1 rfl rfl dX11_balloon_130 ?_
      refine z_callVi (pc := 131) (st := []) [.int a1] hE kk_RX11_176 (c_X3_weightOf 20 zfk_20 a1) lX_20 rfl rfl rfl (Nat.le_of_ble_eq_true rfl) (by decide) dX11_balloon_131 (fun x13 => ?_)
      exact z_ireturnX (pc := 134) hE hr dX11_balloon_134
    refine z_case a2 (6 : Int32) (fun hc14 => ?_) (fun hc14 => ?_)
    · refine z_tableIn (pc := 20) hE 115 135 dX11_balloon_20 (by rw [hc14]; decide) (by rw [hc14]; decide) (by rw [hc14]; rfl) rfl ?_
      refine z_aload_n (pc := 135) hE 0 0 rfl rfl dX11_balloon_135 ?_
      refine z_getr (pc := 136) hE fk_RX11_42 lX_0 rfl dX11_balloon_136 ?_
      refine z_iload_n (pc := 139) hE 1 1 rfl rfl dX11_balloon_139 ?_
      refine z_callVi (pc := 140) (st := []) [.int a1] hE kk_RX11_179 (c_X3_liftOf 20 zfk_20 a1) lX_20 rfl rfl rfl (Nat.le_of_ble_eq_true rfl) (by decide) dX11_balloon_140 (fun x15 => ?_)
      refine z_callSi (pc := 143) (st := []) [.int x15] hE kk_RX11_182 (c_X11_highBy x15) rfl rfl (Nat.le_of_ble_eq_true rfl) (by decide) dX11_balloon_143 (fun x16 => ?_)
      exact z_ireturnX (pc := 146) hE hr dX11_balloon_146
    refine z_case a2 (7 : Int32) (fun hc17 => ?_) (fun hc17 => ?_)
    · refine z_tableIn (pc := 20) hE 127 147 dX11_balloon_20 (by rw [hc17]; decide) (by rw [hc17]; decide) (by rw [hc17]; rfl) rfl ?_
      refine z_aload_n (pc := 147) hE 0 0 rfl rfl dX11_balloon_147 ?_
      refine z_getr (pc := 148) hE fk_RX11_42 lX_0 rfl dX11_balloon_148 ?_
      refine z_getr (pc := 151) hE fk_RX11_185 lX_20 rfl dX11_balloon_151 ?_
      refine z_iload_n (pc := 154) hE 1 1 rfl rfl dX11_balloon_154 ?_
      refine z_iald (pc := 155) hE lX_28 dX11_balloon_155 (fun x18 => ?_)
      exact z_ireturnX (pc := 156) hE hr dX11_balloon_156
    refine z_case a2 (8 : Int32) (fun hc19 => ?_) (fun hc19 => ?_)
    · refine z_tableIn (pc := 20) hE 137 157 dX11_balloon_20 (by rw [hc19]; decide) (by rw [hc19]; decide) (by rw [hc19]; rfl) rfl ?_
      refine z_aload_n (pc := 157) hE 0 0 rfl rfl dX11_balloon_157 ?_
      refine z_getr (pc := 158) hE fk_RX11_42 lX_0 rfl dX11_balloon_158 ?_
      refine z_iload_n (pc := 161) hE 1 1 rfl rfl dX11_balloon_161 ?_
      refine z_callVi (pc := 162) (st := []) [.int a1] hE kk_RX11_188 (c_X3_ringOf 20 zfk_20 a1) lX_20 rfl rfl rfl (Nat.le_of_ble_eq_true rfl) (by decide) dX11_balloon_162 (fun x20 => ?_)
      exact z_ireturnX (pc := 165) hE hr dX11_balloon_165
    refine z_case a2 (9 : Int32) (fun hc21 => ?_) (fun hc21 => ?_)
    · refine z_tableIn (pc := 20) hE 146 166 dX11_balloon_20 (by rw [hc21]; decide) (by rw [hc21]; decide) (by rw [hc21]; rfl) rfl ?_
      refine z_aload_n (pc := 166) hE 0 0 rfl rfl dX11_balloon_166 ?_
      refine z_getr (pc := 167) hE fk_RX11_42 lX_0 rfl dX11_balloon_167 ?_
      refine z_iload_n (pc := 170) hE 1 1 rfl rfl dX11_balloon_170 ?_
      refine z_callVi (pc := 171) (st := []) [.int a1] hE kk_RX11_191 (c_X3_cellOf 20 zfk_20 a1) lX_20 rfl rfl rfl (Nat.le_of_ble_eq_true rfl) (by decide) dX11_balloon_171 (fun x22 => ?_)
      exact z_ireturnX (pc := 174) hE hr dX11_balloon_174
    have ihc2 := zne (0) hc2 (by decide)
    have ihc4 := zne (1) hc4 (by decide)
    have ihc6 := zne (2) hc6 (by decide)
    have ihc8 := zne (3) hc8 (by decide)
    have ihc10 := zne (4) hc10 (by decide)
    have ihc12 := zne (5) hc12 (by decide)
    have ihc14 := zne (6) hc14 (by decide)
    have ihc17 := zne (7) hc17 (by decide)
    have ihc19 := zne (8) hc19 (by decide)
    have ihc21 := zne (9) hc21 (by decide)
    refine z_tableOut (pc := 20) hE 175 dX11_balloon_20 (by omega) rfl ?_
    exact z_throw (pc := 175) hE xThr hlt hT hrm (Nat.le_of_ble_eq_true rfl) (by decide) dX11_balloon_175 dX11_balloon_178 dX11_balloon_179 dX11_balloon_182
  · exact z_throw (pc := 11) hE xThr hlt hT hrm (Nat.le_of_ble_eq_true rfl) (by decide) dX11_balloon_11 dX11_balloon_14 dX11_balloon_15 dX11_balloon_18
set_option maxRecDepth 100000 in
set_option maxHeartbeats 4000000 in
theorem c_X11_lift {l : Launch} {ad : Nat → Nat} {ca : FieldType → ClassId} {D : va_G} {tt : Nat → Nat} (hlt : l.stackTraces = false) (a1 : Int32) : zCX l yX11_lift cX11_lift 2 (some .int) 6 layX ad ca D (xtX ad tt) [.ref (ad 0), .int a1] zvi (p_X11_lift a1) := by
  refine z_enterX hlt (by decide) (Nat.le_of_ble_eq_true rfl) (fun E hE hlt hT hrm hr => ?_)
  have hE : zok layX ad (xtX ad tt) E cX11_lift 2 RX11 6 := hE
  show Z layX ad E 2 (zFinX layX ad E zvi) 0 [(0, .ref (ad 0)), (1, .int a1)] [] (p_X11_lift a1)
  unfold p_X11_lift
  refine z_aload_n (pc := 0) hE 0 0 rfl rfl dX11_lift_0 ?_
  refine z_getr (pc := 1) hE fk_RX11_42 lX_0 rfl dX11_lift_1 ?_
  refine z_iload_n (pc := 4) hE 1 1 rfl rfl dX11_lift_4 ?_
  refine z_callVi (pc := 5) (st := []) [.int a1] hE kk_RX11_160 (c_X3_has 20 zfk_20 a1) lX_20 rfl rfl rfl (Nat.le_of_ble_eq_true rfl) (by decide) dX11_lift_5 (fun x1 => ?_)
  refine z_if_ne (pc := 8) hE 19 rfl dX11_lift_8 ?_ ?_
  · refine z_aload_n (pc := 19) hE 0 0 rfl rfl dX11_lift_19 ?_
    refine z_getr (pc := 20) hE fk_RX11_42 lX_0 rfl dX11_lift_20 ?_
    refine z_iload_n (pc := 23) hE 1 1 rfl rfl dX11_lift_23 ?_
    refine z_callVi (pc := 24) (st := []) [.int a1] hE kk_RX11_179 (c_X3_liftOf 20 zfk_20 a1) lX_20 rfl rfl rfl (Nat.le_of_ble_eq_true rfl) (by decide) dX11_lift_24 (fun x2 => ?_)
    exact z_ireturnX (pc := 27) hE hr dX11_lift_27
  · exact z_throw (pc := 11) hE xThr hlt hT hrm (Nat.le_of_ble_eq_true rfl) (by decide) dX11_lift_11 dX11_lift_14 dX11_lift_15 dX11_lift_18
set_option maxRecDepth 100000 in
set_option maxHeartbeats 4000000 in
theorem c_X11_rain {l : Launch} {ad : Nat → Nat} {ca : FieldType → ClassId} {D : va_G} {tt : Nat → Nat} (a1 : Int32) : zC l yX11_rain cX11_rain 3 (some .int) 0 layX ad ca D (xtX ad tt) [.ref (ad 0), .int a1] zvi (p_X11_rain a1) := by
  refine z_enter (by decide) (Nat.le_of_ble_eq_true rfl) (fun E hE hl0 hcD hr => ?_)
  have hE : zok layX ad (xtX ad tt) E cX11_rain 3 RX11 0 := hE
  show Z layX ad E 3 (zFin layX ad E zvi) 0 [(0, .ref (ad 0)), (1, .int a1)] [] (p_X11_rain a1)
  unfold p_X11_rain
  refine z_iload_n (pc := 0) hE 1 1 rfl rfl dX11_rain_0 ?_
  refine z_if_lt (pc := 1) hE 10 rfl dX11_rain_1 ?_ ?_
  · refine z_iconst (pc := 10) hE dX11_rain_10 q_iconst_m1 ?_
    exact z_ireturn (pc := 11) hE hr dX11_rain_11
  · refine z_iload_n (pc := 4) hE 1 1 rfl rfl dX11_rain_4 ?_
    refine z_bipush (pc := 5) hE dX11_rain_5 q_bipush_9 ?_
    refine z_icmp_le (pc := 7) hE 12 rfl dX11_rain_7 ?_ ?_
    · refine z_aload_n (pc := 12) hE 0 0 rfl rfl dX11_rain_12 ?_
      refine z_getr (pc := 13) hE fk_RX11_42 lX_0 rfl dX11_rain_13 ?_
      refine z_geti (pc := 16) hE fk_RX11_194 lX_20 rfl dX11_rain_16 (fun x1 => ?_)
      refine z_istore_n (L' := [(2, .int x1), (0, .ref (ad 0)), (1, .int a1)]) (pc := 19) hE 2 rfl (by decide) rfl dX11_rain_19 ?_
      refine z_aload_n (pc := 20) hE 1 0 rfl rfl dX11_rain_20 ?_
      refine z_getr (pc := 21) hE fk_RX11_42 lX_0 rfl dX11_rain_21 ?_
      refine z_iload_n (pc := 24) hE 2 1 rfl rfl dX11_rain_24 ?_
      refine z_puti (pc := 25) hE fk_RX11_194 lX_20 rfl dX11_rain_25 ?_
      refine z_iload_n (pc := 28) hE 0 2 rfl rfl dX11_rain_28 ?_
      exact z_ireturn (pc := 29) hE hr dX11_rain_29
    · refine z_iconst (pc := 10) hE dX11_rain_10 q_iconst_m1 ?_
      exact z_ireturn (pc := 11) hE hr dX11_rain_11
set_option maxRecDepth 100000 in
set_option maxHeartbeats 4000000 in
theorem c_X11_entryOf {l : Launch} {ad : Nat → Nat} {ca : FieldType → ClassId} {D : va_G} {tt : Nat → Nat} (a1 : Int32) (a2 : Int32) : zC l yX11_entryOf cX11_entryOf 3 (some .int) 1 layX ad ca D (xtX ad tt) [.int a1, .int a2] zvi (p_X11_entryOf a1 a2) := by
  refine z_enter (by decide) (Nat.le_of_ble_eq_true rfl) (fun E hE hl0 hcD hr => ?_)
  have hE : zok layX ad (xtX ad tt) E cX11_entryOf 3 RX11 1 := hE
  show Z layX ad E 3 (zFin layX ad E zvi) 0 [(0, .int a1), (1, .int a2)] [] (p_X11_entryOf a1 a2)
  unfold p_X11_entryOf
  refine z_iload_n (pc := 0) hE 1 1 rfl rfl dX11_entryOf_0 ?_
  refine z_istore_n (L' := [(2, .int a2), (0, .int a1), (1, .int a2)]) (pc := 1) hE 2 rfl (by decide) rfl dX11_entryOf_1 ?_
  refine z_iload_n (pc := 2) hE 1 0 rfl rfl dX11_entryOf_2 ?_
  refine z_join (Y := Int32) (pcJ := 20) (Lj := fun y1 => [(2, .int y1)]) (sj := fun y1 => []) (fun y1 => ?_) (fun j2 hj2 => ?_)
  · refine z_iconst (pc := 20) hE dX11_entryOf_20 q_iconst_0 ?_
    refine z_bipush (pc := 21) hE dX11_entryOf_21 q_bipush_99 ?_
    refine z_iload_n (pc := 23) hE 0 2 rfl rfl dX11_entryOf_23 ?_
    refine z_min (pc := 24) hE kk_RX11_202 (Nat.le_of_ble_eq_true rfl) (by decide) dX11_entryOf_24 ?_
    refine z_max (pc := 27) hE kk_RX11_207 (Nat.le_of_ble_eq_true rfl) (by decide) dX11_entryOf_27 ?_
    exact z_ireturn (pc := 30) hE hr dX11_entryOf_30
  refine z_if_ne (pc := 3) hE 12 rfl dX11_entryOf_3 ?_ ?_
  · refine z_iload_n (pc := 12) hE 1 0 rfl rfl dX11_entryOf_12 ?_
    refine z_iconst (pc := 13) hE dX11_entryOf_13 q_iconst_1 ?_
    refine z_icmp_ne (pc := 14) hE 20 rfl dX11_entryOf_14 ?_ ?_
    · exact z_sub [0] rfl (hj2 a2)
    · refine z_iload_n (pc := 17) hE 2 1 rfl rfl dX11_entryOf_17 ?_
      refine z_i2s (pc := 18) hE dX11_entryOf_18 ?_
      refine z_istore_n (L' := [(2, .int a2.toInt16.toInt32), (0, .int a1), (1, .int a2)]) (pc := 19) hE 2 rfl (by decide) rfl dX11_entryOf_19 ?_
      exact z_sub [0] rfl (hj2 a2.toInt16.toInt32)
  · refine z_iload_n (pc := 6) hE 2 1 rfl rfl dX11_entryOf_6 ?_
    refine z_i2b (pc := 7) hE dX11_entryOf_7 ?_
    refine z_istore_n (L' := [(2, .int a2.toInt8.toInt32), (0, .int a1), (1, .int a2)]) (pc := 8) hE 2 rfl (by decide) rfl dX11_entryOf_8 ?_
    refine z_goto (pc := 9) hE 20 rfl dX11_entryOf_9 ?_
    exact z_sub [0] rfl (hj2 a2.toInt8.toInt32)
set_option maxRecDepth 100000 in
set_option maxHeartbeats 4000000 in
theorem c_X11_sheet {l : Launch} {ad : Nat → Nat} {ca : FieldType → ClassId} {D : va_G} {tt : Nat → Nat} (a1 : Int32) (a2 : Int32) (a3 : Int32) (a4 : Int32) : zC l yX11_sheet cX11_sheet 10 (some .int) 2 layX ad ca D (xtX ad tt) [.ref (ad 0), .int a1, .int a2, .int a3, .int a4] zvi (p_X11_sheet a1 a2 a3 a4) := by
  refine z_enter (by decide) (Nat.le_of_ble_eq_true rfl) (fun E hE hl0 hcD hr => ?_)
  have hE : zok layX ad (xtX ad tt) E cX11_sheet 10 RX11 2 := hE
  show Z layX ad E 10 (zFin layX ad E zvi) 0 [(0, .ref (ad 0)), (1, .int a1), (2, .int a2), (3, .int a3), (4, .int a4)] [] (p_X11_sheet a1 a2 a3 a4)
  unfold p_X11_sheet
  refine z_iload_n (pc := 0) hE 1 1 rfl rfl dX11_sheet_0 ?_
  refine z_if_lt (pc := 1) hE 15 rfl dX11_sheet_1 ?_ ?_
  · refine z_iconst (pc := 15) hE dX11_sheet_15 q_iconst_m1 ?_
    exact z_ireturn (pc := 16) hE hr dX11_sheet_16
  · refine z_iload_n (pc := 4) hE 1 1 rfl rfl dX11_sheet_4 ?_
    refine z_iconst (pc := 5) hE dX11_sheet_5 q_iconst_3 ?_
    refine z_icmp_gt (pc := 6) hE 15 rfl dX11_sheet_6 ?_ ?_
    · refine z_iconst (pc := 15) hE dX11_sheet_15 q_iconst_m1 ?_
      exact z_ireturn (pc := 16) hE hr dX11_sheet_16
    · refine z_iload_n (pc := 9) hE 2 2 rfl rfl dX11_sheet_9 ?_
      refine z_bipush (pc := 10) hE dX11_sheet_10 q_bipush_6 ?_
      refine z_icmp_le (pc := 12) hE 17 rfl dX11_sheet_12 ?_ ?_
      · refine z_iload_n (pc := 17) hE 1 1 rfl rfl dX11_sheet_17 ?_
        refine z_iconst (pc := 18) hE dX11_sheet_18 q_iconst_3 ?_
        refine z_join (Y := Int32) (pcJ := 27) (Lj := fun y1 => [(0, .ref (ad 0)), (1, .int a1), (2, .int a2), (3, .int a3), (4, .int a4)]) (sj := fun y1 => [.int y1]) (fun y1 => ?_) (fun j2 hj2 => ?_)
        · refine z_istore (L' := [(5, .int y1), (0, .ref (ad 0)), (1, .int a1), (2, .int a2), (3, .int a3), (4, .int a4)]) (pc := 27) hE (by decide) rfl dX11_sheet_27 ?_
          refine z_iload (pc := 29) hE 0 rfl dX11_sheet_29 ?_
          refine z_join (Y := Unit) (pcJ := 41) (Lj := fun y3 => [(0, .ref (ad 0)), (1, .int a1), (2, .int a2), (3, .int a3), (4, .int a4), (5, .int y1)]) (sj := fun y3 => []) (fun y3 => ?_) (fun j4 hj4 => ?_)
          · refine z_iload (pc := 41) hE 5 rfl dX11_sheet_41 ?_
            refine z_join (Y := Int32) (pcJ := 51) (Lj := fun y5 => [(0, .ref (ad 0)), (1, .int a1), (3, .int a3), (4, .int a4), (5, .int y1)]) (sj := fun y5 => [.int y5]) (fun y5 => ?_) (fun j6 hj6 => ?_)
            · refine z_istore (L' := [(6, .int y5), (0, .ref (ad 0)), (1, .int a1), (3, .int a3), (4, .int a4), (5, .int y1)]) (pc := 51) hE (by decide) rfl dX11_sheet_51 ?_
              refine z_iconst (pc := 53) hE dX11_sheet_53 q_iconst_0 ?_
              refine z_istore (L' := [(7, .int ((0 : Int32))), (6, .int y5), (0, .ref (ad 0)), (1, .int a1), (3, .int a3), (4, .int a4), (5, .int y1)]) (pc := 54) hE (by decide) rfl dX11_sheet_54 ?_
              refine z_iconst (pc := 56) hE dX11_sheet_56 q_iconst_0 ?_
              refine z_istore (L' := [(8, .int ((0 : Int32))), (7, .int ((0 : Int32))), (6, .int y5), (0, .ref (ad 0)), (1, .int a1), (3, .int a3), (4, .int a4), (5, .int y1)]) (pc := 57) hE (by decide) rfl dX11_sheet_57 ?_
              refine z_sub (L' := [(0, .ref (ad 0)), (1, .int a1), (3, .int a3), (4, .int a4), (5, .int y1), (6, .int y5), (7, .int ((0 : Int32))), (8, .int ((0 : Int32)))]) [3, 4, 5, 6, 7, 2, 1, 0] rfl ?_
              refine z_loop (V := (Int32 × Int32)) (X := Int32) (hd := 59) (ex := 120) (Lh := fun v7 => [(0, .ref (ad 0)), (1, .int a1), (3, .int a3), (4, .int a4), (5, .int y1), (6, .int y5), (7, .int v7.1), (8, .int v7.2)]) (Lx := fun e10 => [(5, .int y1), (7, .int e10)]) (fun rc9 k8 hrc9 hk8 v7 => ?_) zNF ((0 : Int32), (0 : Int32)) _ (fun e10 => ?_)
              · unfold p_X11_sheet_b59
                refine z_iload (pc := 59) hE 7 rfl dX11_sheet_59 ?_
                refine z_aload_n (pc := 61) hE 0 0 rfl rfl dX11_sheet_61 ?_
                refine z_getr (pc := 62) hE fk_RX11_42 lX_0 rfl dX11_sheet_62 ?_
                refine z_geti (pc := 65) hE fk_RX11_197 lX_20 rfl dX11_sheet_65 (fun x11 => ?_)
                refine z_icmp_ge (pc := 68) hE 120 rfl dX11_sheet_68 ?_ ?_
                · exact z_sub [4, 6] rfl (hk8 v7.1)
                · refine z_iload (pc := 71) hE 7 rfl dX11_sheet_71 ?_
                  refine z_iload (pc := 73) hE 5 rfl dX11_sheet_73 ?_
                  refine z_join (Y := Int32) (pcJ := 93) (Lj := fun y12 => [(0, .ref (ad 0)), (1, .int a1), (3, .int a3), (4, .int a4), (5, .int y1), (6, .int y5), (7, .int v7.1), (8, .int v7.2)]) (sj := fun y12 => [.int y12]) (fun y12 => ?_) (fun j13 hj13 => ?_)
                  · refine z_istore (L' := [(9, .int y12), (0, .ref (ad 0)), (1, .int a1), (3, .int a3), (4, .int a4), (5, .int y1), (6, .int y5), (7, .int v7.1), (8, .int v7.2)]) (pc := 93) hE (by decide) rfl dX11_sheet_93 ?_
                    refine z_aload_n (pc := 95) hE 1 0 rfl rfl dX11_sheet_95 ?_
                    refine z_getr (pc := 96) hE fk_RX11_42 lX_0 rfl dX11_sheet_96 ?_
                    refine z_getr (pc := 99) hE fk_RX11_161 lX_20 rfl dX11_sheet_99 ?_
                    refine z_iload (pc := 102) hE 8 rfl dX11_sheet_102 ?_
                    refine z_iload (pc := 104) hE 0 rfl dX11_sheet_104 ?_
                    refine z_iast (pc := 106) hE lX_23 dX11_sheet_106 ?_
                    refine z_iload (pc := 107) hE 7 rfl dX11_sheet_107 ?_
                    refine z_iload (pc := 109) hE 0 rfl dX11_sheet_109 ?_
                    refine z_iadd (pc := 111) hE dX11_sheet_111 ?_
                    refine z_istore (L' := [(7, .int (v7.1 + y12)), (9, .int y12), (0, .ref (ad 0)), (1, .int a1), (3, .int a3), (4, .int a4), (5, .int y1), (6, .int y5), (8, .int v7.2)]) (pc := 112) hE (by decide) rfl dX11_sheet_112 ?_
                    refine z_iinc (L' := [(8, .int (v7.2 + (1 : Int32))), (7, .int (v7.1 + y12)), (9, .int y12), (0, .ref (ad 0)), (1, .int a1), (3, .int a3), (4, .int a4), (5, .int y1), (6, .int y5)]) (pc := 114) hE 8 rfl (zinc q_iconst_1) (by decide) rfl dX11_sheet_114 ?_
                    refine z_goto (pc := 117) hE 59 rfl dX11_sheet_117 ?_
                    exact z_sub [3, 4, 5, 6, 7, 8, 1, 0] rfl (hrc9 (v7.1 + y12, v7.2 + (1 : Int32)))
                  refine z_icmp_ge (pc := 75) hE 92 rfl dX11_sheet_75 ?_ ?_
                  · refine z_iconst (pc := 92) hE dX11_sheet_92 q_iconst_0 ?_
                    exact z_sub [0, 1, 2, 3, 4, 5, 6, 7] rfl (hj13 ((0 : Int32)))
                  · refine z_iload_n (pc := 78) hE 1 1 rfl rfl dX11_sheet_78 ?_
                    refine z_iload_n (pc := 79) hE 2 3 rfl rfl dX11_sheet_79 ?_
                    refine z_iload (pc := 80) hE 7 rfl dX11_sheet_80 ?_
                    refine z_iload (pc := 82) hE 3 rfl dX11_sheet_82 ?_
                    refine z_imul (pc := 84) hE dX11_sheet_84 ?_
                    refine z_iadd (pc := 85) hE dX11_sheet_85 ?_
                    refine z_callSi (pc := 86) (st := []) [.int a1, .int (a3 + (v7.2 * a4))] hE kk_RX11_198 (c_X11_entryOf a1 (a3 + (v7.2 * a4))) rfl rfl (Nat.le_of_ble_eq_true rfl) (by decide) dX11_sheet_86 (fun x14 => ?_)
                    refine z_goto (pc := 89) hE 93 rfl dX11_sheet_89 ?_
                    exact z_sub [0, 1, 2, 3, 4, 5, 6, 7] rfl (hj13 x14)
              · refine z_iload (pc := 120) hE 0 rfl dX11_sheet_120 ?_
                refine z_if_eq (pc := 122) hE 130 rfl dX11_sheet_122 ?_ ?_
                · refine z_iload (pc := 130) hE 1 rfl dX11_sheet_130 ?_
                  exact z_ireturn (pc := 132) hE hr dX11_sheet_132
                · refine z_bipush (pc := 125) hE dX11_sheet_125 q_bipush_m3 ?_
                  refine z_goto (pc := 127) hE 132 rfl dX11_sheet_127 ?_
                  exact z_ireturn (pc := 132) hE hr dX11_sheet_132
            refine z_if_eq (pc := 43) hE 50 rfl dX11_sheet_43 ?_ ?_
            · refine z_iload_n (pc := 50) hE 2 2 rfl rfl dX11_sheet_50 ?_
              exact z_sub [0, 1, 3, 4, 5] rfl (hj6 a2)
            · refine z_iconst (pc := 46) hE dX11_sheet_46 q_iconst_0 ?_
              refine z_goto (pc := 47) hE 51 rfl dX11_sheet_47 ?_
              exact z_sub [0, 1, 3, 4, 5] rfl (hj6 ((0 : Int32)))
          refine z_if_ne (pc := 31) hE 41 rfl dX11_sheet_31 ?_ ?_
          · exact z_sub [1, 2, 3, 4, 5, 0] rfl (hj4 ())
          · refine z_iload_n (pc := 34) hE 3 2 rfl rfl dX11_sheet_34 ?_
            refine z_if_ge (pc := 35) hE 41 rfl dX11_sheet_35 ?_ ?_
            · exact z_sub [1, 2, 3, 4, 5, 0] rfl (hj4 ())
            · refine z_bipush (pc := 38) hE dX11_sheet_38 q_bipush_m2 ?_
              exact z_ireturn (pc := 40) hE hr dX11_sheet_40
        refine z_icmp_ne (pc := 19) hE 26 rfl dX11_sheet_19 ?_ ?_
        · refine z_iconst (pc := 26) hE dX11_sheet_26 q_iconst_0 ?_
          exact z_sub [0, 1, 2, 3, 4] rfl (hj2 ((0 : Int32)))
        · refine z_iconst (pc := 22) hE dX11_sheet_22 q_iconst_1 ?_
          refine z_goto (pc := 23) hE 27 rfl dX11_sheet_23 ?_
          exact z_sub [0, 1, 2, 3, 4] rfl (hj2 ((1 : Int32)))
      · refine z_iconst (pc := 15) hE dX11_sheet_15 q_iconst_m1 ?_
        exact z_ireturn (pc := 16) hE hr dX11_sheet_16
set_option maxRecDepth 100000 in
set_option maxHeartbeats 4000000 in
theorem c_X11_setFree {l : Launch} {ad : Nat → Nat} {ca : FieldType → ClassId} {D : va_G} {tt : Nat → Nat} (b : Nat) (hb : zfk b) (a2 : Int32) : zC l yX11_setFree cX11_setFree 3 (some .int) 4 layX ad ca D (xtX ad tt) [.ref (ad b), .int a2] zvi (p_X11_setFree b a2) := by
  refine z_enter (by decide) (Nat.le_of_ble_eq_true rfl) (fun E hE hl0 hcD hr => ?_)
  have hE : zok layX ad (xtX ad tt) E cX11_setFree 3 RX11 4 := hE
  show Z layX ad E 3 (zFin layX ad E zvi) 0 [(0, .ref (ad b)), (1, .int a2)] [] (p_X11_setFree b a2)
  unfold p_X11_setFree
  refine z_aload_n (pc := 0) hE 0 0 rfl rfl dX11_setFree_0 ?_
  refine z_iload_n (pc := 1) hE 1 1 rfl rfl dX11_setFree_1 ?_
  refine z_callVi (pc := 2) (st := []) [.int a2] hE kk_RX11_160 (c_X3_has b hb a2) hb.1 rfl rfl rfl (Nat.le_of_ble_eq_true rfl) (by decide) dX11_setFree_2 (fun x1 => ?_)
  refine z_if_ne (pc := 5) hE 10 rfl dX11_setFree_5 ?_ ?_
  · refine z_aload_n (pc := 10) hE 0 0 rfl rfl dX11_setFree_10 ?_
    refine z_getr (pc := 11) hE fk_RX11_185 hb.1 rfl dX11_setFree_11 ?_
    refine z_iload_n (pc := 14) hE 1 1 rfl rfl dX11_setFree_14 ?_
    refine z_iald (pc := 15) hE hb.2.2.2.2.2.2.2.2.1 dX11_setFree_15 (fun x2 => ?_)
    refine z_if_eq (pc := 16) hE 22 rfl dX11_setFree_16 ?_ ?_
    · refine z_aload_n (pc := 22) hE 0 0 rfl rfl dX11_setFree_22 ?_
      refine z_iload_n (pc := 23) hE 1 1 rfl rfl dX11_setFree_23 ?_
      refine z_callVi (pc := 24) (st := []) [.int a2] hE kk_RX11_179 (c_X3_liftOf b hb a2) hb.1 rfl rfl rfl (Nat.le_of_ble_eq_true rfl) (by decide) dX11_setFree_24 (fun x3 => ?_)
      refine z_istore_n (L' := [(2, .int x3), (0, .ref (ad b)), (1, .int a2)]) (pc := 27) hE 2 rfl (by decide) rfl dX11_setFree_27 ?_
      refine z_iload_n (pc := 28) hE 0 2 rfl rfl dX11_setFree_28 ?_
      refine z_if_ge (pc := 29) hE 35 rfl dX11_setFree_29 ?_ ?_
      · refine z_aload_n (pc := 35) hE 1 0 rfl rfl dX11_setFree_35 ?_
        refine z_iload_n (pc := 36) hE 2 1 rfl rfl dX11_setFree_36 ?_
        refine z_callVv (pc := 37) (st := []) [.int a2] hE kk_RX11_267 (c_X3_setLoose b hb a2) hb.1 rfl rfl rfl (Nat.le_of_ble_eq_true rfl) (by decide) dX11_setFree_37 (fun x4 => ?_)
        refine z_iload_n (pc := 40) hE 0 2 rfl rfl dX11_setFree_40 ?_
        refine z_callSi (pc := 41) (st := []) [.int x3] hE kk_RX11_182 (c_X11_highBy x3) rfl rfl (Nat.le_of_ble_eq_true rfl) (by decide) dX11_setFree_41 (fun x5 => ?_)
        exact z_ireturn (pc := 44) hE hr dX11_setFree_44
      · refine z_bipush (pc := 32) hE dX11_setFree_32 q_bipush_m3 ?_
        exact z_ireturn (pc := 34) hE hr dX11_setFree_34
    · refine z_bipush (pc := 19) hE dX11_setFree_19 q_bipush_m2 ?_
      exact z_ireturn (pc := 21) hE hr dX11_setFree_21
  · refine z_iconst (pc := 8) hE dX11_setFree_8 q_iconst_m1 ?_
    exact z_ireturn (pc := 9) hE hr dX11_setFree_9
set_option maxRecDepth 100000 in
set_option maxHeartbeats 4000000 in
theorem c_X11_remembered {l : Launch} {ad : Nat → Nat} {ca : FieldType → ClassId} {D : va_G} {tt : Nat → Nat} (a1 : Int32) : zC l yX11_remembered cX11_remembered 2 (some .int) 2 layX ad ca D (xtX ad tt) [.ref (ad 0), .int a1] zvi (p_X11_remembered a1) := by
  refine z_enter (by decide) (Nat.le_of_ble_eq_true rfl) (fun E hE hl0 hcD hr => ?_)
  have hE : zok layX ad (xtX ad tt) E cX11_remembered 2 RX11 2 := hE
  show Z layX ad E 2 (zFin layX ad E zvi) 0 [(0, .ref (ad 0)), (1, .int a1)] [] (p_X11_remembered a1)
  unfold p_X11_remembered
  refine z_iload_n (pc := 0) hE 1 1 rfl rfl dX11_remembered_0 ?_
  refine z_if_lt (pc := 1) hE 11 rfl dX11_remembered_1 ?_ ?_
  · refine z_iload_n (pc := 11) hE 1 1 rfl rfl dX11_remembered_11 ?_
    exact z_ireturn (pc := 12) hE hr dX11_remembered_12
  · refine z_aload_n (pc := 4) hE 0 0 rfl rfl dX11_remembered_4 ?_
    refine z_getr (pc := 5) hE fk_RX11_52 lX_0 rfl dX11_remembered_5 ?_
    refine z_callVv (pc := 8) (st := []) [] hE kk_RX11_259 (c_X6_hold) lX_44 rfl rfl rfl (Nat.le_of_ble_eq_true rfl) (by decide) dX11_remembered_8 (fun x1 => ?_)
    refine z_iload_n (pc := 11) hE 1 1 rfl rfl dX11_remembered_11 ?_
    exact z_ireturn (pc := 12) hE hr dX11_remembered_12
set_option maxRecDepth 100000 in
set_option maxHeartbeats 4000000 in
theorem c_X11_launch {l : Launch} {ad : Nat → Nat} {ca : FieldType → ClassId} {D : va_G} {tt : Nat → Nat} (a1 : Int32) : zC l yX11_launch cX11_launch 2 (some .int) 5 layX ad ca D (xtX ad tt) [.ref (ad 0), .int a1] zvi (p_X11_launch a1) := by
  refine z_enter (by decide) (Nat.le_of_ble_eq_true rfl) (fun E hE hl0 hcD hr => ?_)
  have hE : zok layX ad (xtX ad tt) E cX11_launch 2 RX11 5 := hE
  show Z layX ad E 2 (zFin layX ad E zvi) 0 [(0, .ref (ad 0)), (1, .int a1)] [] (p_X11_launch a1)
  unfold p_X11_launch
  refine z_aload_n (pc := 0) hE 0 0 rfl rfl dX11_launch_0 ?_
  refine z_getr (pc := 1) hE fk_RX11_52 lX_0 rfl dX11_launch_1 ?_
  refine z_aload_n (pc := 4) hE 0 0 rfl rfl dX11_launch_4 ?_
  refine z_getr (pc := 5) hE fk_RX11_42 lX_0 rfl dX11_launch_5 ?_
  refine z_callVv (pc := 8) (st := []) [.ref (ad 20)] hE kk_RX11_210 (c_X6_note 20 zfk_20) lX_44 rfl rfl rfl (Nat.le_of_ble_eq_true rfl) (by decide) dX11_launch_8 (fun x1 => ?_)
  refine z_aload_n (pc := 11) hE 0 0 rfl rfl dX11_launch_11 ?_
  refine z_aload_n (pc := 12) hE 0 0 rfl rfl dX11_launch_12 ?_
  refine z_getr (pc := 13) hE fk_RX11_42 lX_0 rfl dX11_launch_13 ?_
  refine z_iload_n (pc := 16) hE 1 1 rfl rfl dX11_launch_16 ?_
  refine z_callSi (pc := 17) (st := [.ref (ad 0)]) [.ref (ad 20), .int a1] hE kk_RX11_214 (c_X11_setFree 20 zfk_20 a1) rfl rfl (Nat.le_of_ble_eq_true rfl) (by decide) dX11_launch_17 (fun x2 => ?_)
  refine z_callVi (pc := 20) (st := []) [.int x2] hE kk_RX11_218 (c_X11_remembered x2) lX_0 rfl rfl rfl (Nat.le_of_ble_eq_true rfl) (by decide) dX11_launch_20 (fun x3 => ?_)
  exact z_ireturn (pc := 23) hE hr dX11_launch_23
set_option maxRecDepth 100000 in
set_option maxHeartbeats 4000000 in
theorem c_X11_tie {l : Launch} {ad : Nat → Nat} {ca : FieldType → ClassId} {D : va_G} {tt : Nat → Nat} (a1 : Int32) (a2 : Int32) : zC l yX11_tie cX11_tie 4 (some .int) 4 layX ad ca D (xtX ad tt) [.ref (ad 0), .int a1, .int a2] zvi (p_X11_tie a1 a2) := by
  refine z_enter (by decide) (Nat.le_of_ble_eq_true rfl) (fun E hE hl0 hcD hr => ?_)
  have hE : zok layX ad (xtX ad tt) E cX11_tie 4 RX11 4 := hE
  show Z layX ad E 4 (zFin layX ad E zvi) 0 [(0, .ref (ad 0)), (1, .int a1), (2, .int a2)] [] (p_X11_tie a1 a2)
  unfold p_X11_tie
  refine z_aload_n (pc := 0) hE 0 0 rfl rfl dX11_tie_0 ?_
  refine z_getr (pc := 1) hE fk_RX11_42 lX_0 rfl dX11_tie_1 ?_
  refine z_iload_n (pc := 4) hE 1 1 rfl rfl dX11_tie_4 ?_
  refine z_callVi (pc := 5) (st := []) [.int a1] hE kk_RX11_160 (c_X3_has 20 zfk_20 a1) lX_20 rfl rfl rfl (Nat.le_of_ble_eq_true rfl) (by decide) dX11_tie_5 (fun x1 => ?_)
  refine z_if_eq (pc := 8) hE 22 rfl dX11_tie_8 ?_ ?_
  · refine z_iconst (pc := 22) hE dX11_tie_22 q_iconst_m1 ?_
    exact z_ireturn (pc := 23) hE hr dX11_tie_23
  · refine z_aload_n (pc := 11) hE 0 0 rfl rfl dX11_tie_11 ?_
    refine z_getr (pc := 12) hE fk_RX11_19 lX_0 rfl dX11_tie_12 ?_
    refine z_iload_n (pc := 15) hE 2 2 rfl rfl dX11_tie_15 ?_
    refine z_callVi (pc := 16) (st := []) [.int a2] hE kk_RX11_136 (c_X9_has a2) lX_3 rfl rfl rfl (Nat.le_of_ble_eq_true rfl) (by decide) dX11_tie_16 (fun x2 => ?_)
    refine z_if_ne (pc := 19) hE 24 rfl dX11_tie_19 ?_ ?_
    · refine z_aload_n (pc := 24) hE 0 0 rfl rfl dX11_tie_24 ?_
      refine z_getr (pc := 25) hE fk_RX11_42 lX_0 rfl dX11_tie_25 ?_
      refine z_getr (pc := 28) hE fk_RX11_185 lX_20 rfl dX11_tie_28 ?_
      refine z_iload_n (pc := 31) hE 1 1 rfl rfl dX11_tie_31 ?_
      refine z_iald (pc := 32) hE lX_28 dX11_tie_32 (fun x3 => ?_)
      refine z_iconst (pc := 33) hE dX11_tie_33 q_iconst_1 ?_
      refine z_icmp_eq (pc := 34) hE 40 rfl dX11_tie_34 ?_ ?_
      · refine z_aload_n (pc := 40) hE 0 0 rfl rfl dX11_tie_40 ?_
        refine z_getr (pc := 41) hE fk_RX11_42 lX_0 rfl dX11_tie_41 ?_
        refine z_iload_n (pc := 44) hE 1 1 rfl rfl dX11_tie_44 ?_
        refine z_callVi (pc := 45) (st := []) [.int a1] hE kk_RX11_270 (c_X3_farness 20 zfk_20 a1) lX_20 rfl rfl rfl (Nat.le_of_ble_eq_true rfl) (by decide) dX11_tie_45 (fun x4 => ?_)
        refine z_aload_n (pc := 48) hE 0 0 rfl rfl dX11_tie_48 ?_
        refine z_getr (pc := 49) hE fk_RX11_42 lX_0 rfl dX11_tie_49 ?_
        refine z_getr (pc := 52) hE fk_RX11_170 lX_20 rfl dX11_tie_52 ?_
        refine z_iload_n (pc := 55) hE 1 1 rfl rfl dX11_tie_55 ?_
        refine z_iald (pc := 56) hE lX_26 dX11_tie_56 (fun x5 => ?_)
        refine z_icmp_le (pc := 57) hE 63 rfl dX11_tie_57 ?_ ?_
        · refine z_aload_n (pc := 63) hE 0 0 rfl rfl dX11_tie_63 ?_
          refine z_getr (pc := 64) hE fk_RX11_19 lX_0 rfl dX11_tie_64 ?_
          refine z_getr (pc := 67) hE fk_RX11_143 lX_3 rfl dX11_tie_67 ?_
          refine z_iload_n (pc := 70) hE 2 2 rfl rfl dX11_tie_70 ?_
          refine z_iald (pc := 71) hE lX_4 dX11_tie_71 (fun x6 => ?_)
          refine z_istore_n (L' := [(3, .int x6), (0, .ref (ad 0)), (1, .int a1), (2, .int a2)]) (pc := 72) hE 3 rfl (by decide) rfl dX11_tie_72 ?_
          refine z_aload_n (pc := 73) hE 1 0 rfl rfl dX11_tie_73 ?_
          refine z_getr (pc := 74) hE fk_RX11_42 lX_0 rfl dX11_tie_74 ?_
          refine z_iload_n (pc := 77) hE 2 1 rfl rfl dX11_tie_77 ?_
          refine z_callVi (pc := 78) (st := []) [.int a1] hE kk_RX11_179 (c_X3_liftOf 20 zfk_20 a1) lX_20 rfl rfl rfl (Nat.le_of_ble_eq_true rfl) (by decide) dX11_tie_78 (fun x7 => ?_)
          refine z_callSi (pc := 81) (st := []) [.int x7] hE kk_RX11_182 (c_X11_highBy x7) rfl rfl (Nat.le_of_ble_eq_true rfl) (by decide) dX11_tie_81 (fun x8 => ?_)
          refine z_iload_n (pc := 84) hE 0 3 rfl rfl dX11_tie_84 ?_
          refine z_isub (pc := 85) hE dX11_tie_85 ?_
          refine z_abs (pc := 86) hE kk_RX11_273 (Nat.le_of_ble_eq_true rfl) (by decide) dX11_tie_86 ?_
          refine z_iconst (pc := 89) hE dX11_tie_89 q_iconst_1 ?_
          refine z_icmp_le (pc := 90) hE 96 rfl dX11_tie_90 ?_ ?_
          · refine z_aload_n (pc := 96) hE 1 0 rfl rfl dX11_tie_96 ?_
            refine z_getr (pc := 97) hE fk_RX11_42 lX_0 rfl dX11_tie_97 ?_
            refine z_iload_n (pc := 100) hE 3 2 rfl rfl dX11_tie_100 ?_
            refine z_callVi (pc := 101) (st := []) [.int a2] hE kk_RX11_150 (c_X3_guestAt 20 zfk_20 a2) lX_20 rfl rfl rfl (Nat.le_of_ble_eq_true rfl) (by decide) dX11_tie_101 (fun x9 => ?_)
            refine z_iconst (pc := 104) hE dX11_tie_104 q_iconst_m1 ?_
            refine z_icmp_eq (pc := 105) hE 111 rfl dX11_tie_105 ?_ ?_
            · refine z_aload_n (pc := 111) hE 1 0 rfl rfl dX11_tie_111 ?_
              refine z_getr (pc := 112) hE fk_RX11_42 lX_0 rfl dX11_tie_112 ?_
              refine z_getr (pc := 115) hE fk_RX11_185 lX_20 rfl dX11_tie_115 ?_
              refine z_iload_n (pc := 118) hE 2 1 rfl rfl dX11_tie_118 ?_
              refine z_iconst (pc := 119) hE dX11_tie_119 q_iconst_2 ?_
              refine z_iast (pc := 120) hE lX_28 dX11_tie_120 ?_
              refine z_aload_n (pc := 121) hE 1 0 rfl rfl dX11_tie_121 ?_
              refine z_getr (pc := 122) hE fk_RX11_42 lX_0 rfl dX11_tie_122 ?_
              refine z_getr (pc := 125) hE fk_RX11_276 lX_20 rfl dX11_tie_125 ?_
              refine z_iload_n (pc := 128) hE 2 1 rfl rfl dX11_tie_128 ?_
              refine z_iload_n (pc := 129) hE 3 2 rfl rfl dX11_tie_129 ?_
              refine z_iast (pc := 130) hE lX_29 dX11_tie_130 ?_
              refine z_iload_n (pc := 131) hE 0 3 rfl rfl dX11_tie_131 ?_
              exact z_ireturn (pc := 132) hE hr dX11_tie_132
            · refine z_bipush (pc := 108) hE dX11_tie_108 q_bipush_m5 ?_
              exact z_ireturn (pc := 110) hE hr dX11_tie_110
          · refine z_bipush (pc := 93) hE dX11_tie_93 q_bipush_m4 ?_
            exact z_ireturn (pc := 95) hE hr dX11_tie_95
        · refine z_bipush (pc := 60) hE dX11_tie_60 q_bipush_m3 ?_
          exact z_ireturn (pc := 62) hE hr dX11_tie_62
      · refine z_bipush (pc := 37) hE dX11_tie_37 q_bipush_m2 ?_
        exact z_ireturn (pc := 39) hE hr dX11_tie_39
    · refine z_iconst (pc := 22) hE dX11_tie_22 q_iconst_m1 ?_
      exact z_ireturn (pc := 23) hE hr dX11_tie_23
set_option maxRecDepth 100000 in
set_option maxHeartbeats 4000000 in
theorem c_X11_moor {l : Launch} {ad : Nat → Nat} {ca : FieldType → ClassId} {D : va_G} {tt : Nat → Nat} (a1 : Int32) (a2 : Int32) : zC l yX11_moor cX11_moor 3 (some .int) 5 layX ad ca D (xtX ad tt) [.ref (ad 0), .int a1, .int a2] zvi (p_X11_moor a1 a2) := by
  refine z_enter (by decide) (Nat.le_of_ble_eq_true rfl) (fun E hE hl0 hcD hr => ?_)
  have hE : zok layX ad (xtX ad tt) E cX11_moor 3 RX11 5 := hE
  show Z layX ad E 3 (zFin layX ad E zvi) 0 [(0, .ref (ad 0)), (1, .int a1), (2, .int a2)] [] (p_X11_moor a1 a2)
  unfold p_X11_moor
  refine z_aload_n (pc := 0) hE 0 0 rfl rfl dX11_moor_0 ?_
  refine z_getr (pc := 1) hE fk_RX11_52 lX_0 rfl dX11_moor_1 ?_
  refine z_aload_n (pc := 4) hE 0 0 rfl rfl dX11_moor_4 ?_
  refine z_getr (pc := 5) hE fk_RX11_42 lX_0 rfl dX11_moor_5 ?_
  refine z_callVv (pc := 8) (st := []) [.ref (ad 20)] hE kk_RX11_210 (c_X6_note 20 zfk_20) lX_44 rfl rfl rfl (Nat.le_of_ble_eq_true rfl) (by decide) dX11_moor_8 (fun x1 => ?_)
  refine z_aload_n (pc := 11) hE 0 0 rfl rfl dX11_moor_11 ?_
  refine z_aload_n (pc := 12) hE 0 0 rfl rfl dX11_moor_12 ?_
  refine z_iload_n (pc := 13) hE 1 1 rfl rfl dX11_moor_13 ?_
  refine z_iload_n (pc := 14) hE 2 2 rfl rfl dX11_moor_14 ?_
  refine z_callVi (pc := 15) (st := [.ref (ad 0)]) [.int a1, .int a2] hE kk_RX11_221 (c_X11_tie a1 a2) lX_0 rfl rfl rfl (Nat.le_of_ble_eq_true rfl) (by decide) dX11_moor_15 (fun x2 => ?_)
  refine z_callVi (pc := 18) (st := []) [.int x2] hE kk_RX11_218 (c_X11_remembered x2) lX_0 rfl rfl rfl (Nat.le_of_ble_eq_true rfl) (by decide) dX11_moor_18 (fun x3 => ?_)
  exact z_ireturn (pc := 21) hE hr dX11_moor_21
set_option maxRecDepth 100000 in
set_option maxHeartbeats 4000000 in
theorem c_X11_untie {l : Launch} {ad : Nat → Nat} {ca : FieldType → ClassId} {D : va_G} {tt : Nat → Nat} (b : Nat) (hb : zfk b) (a2 : Int32) : zC l yX11_untie cX11_untie 3 (some .int) 2 layX ad ca D (xtX ad tt) [.ref (ad b), .int a2] zvi (p_X11_untie b a2) := by
  refine z_enter (by decide) (Nat.le_of_ble_eq_true rfl) (fun E hE hl0 hcD hr => ?_)
  have hE : zok layX ad (xtX ad tt) E cX11_untie 3 RX11 2 := hE
  show Z layX ad E 3 (zFin layX ad E zvi) 0 [(0, .ref (ad b)), (1, .int a2)] [] (p_X11_untie b a2)
  unfold p_X11_untie
  refine z_aload_n (pc := 0) hE 0 0 rfl rfl dX11_untie_0 ?_
  refine z_iload_n (pc := 1) hE 1 1 rfl rfl dX11_untie_1 ?_
  refine z_callVi (pc := 2) (st := []) [.int a2] hE kk_RX11_160 (c_X3_has b hb a2) hb.1 rfl rfl rfl (Nat.le_of_ble_eq_true rfl) (by decide) dX11_untie_2 (fun x1 => ?_)
  refine z_if_ne (pc := 5) hE 10 rfl dX11_untie_5 ?_ ?_
  · refine z_aload_n (pc := 10) hE 0 0 rfl rfl dX11_untie_10 ?_
    refine z_getr (pc := 11) hE fk_RX11_185 hb.1 rfl dX11_untie_11 ?_
    refine z_iload_n (pc := 14) hE 1 1 rfl rfl dX11_untie_14 ?_
    refine z_iald (pc := 15) hE hb.2.2.2.2.2.2.2.2.1 dX11_untie_15 (fun x2 => ?_)
    refine z_iconst (pc := 16) hE dX11_untie_16 q_iconst_2 ?_
    refine z_icmp_eq (pc := 17) hE 23 rfl dX11_untie_17 ?_ ?_
    · refine z_aload_n (pc := 23) hE 0 0 rfl rfl dX11_untie_23 ?_
      refine z_getr (pc := 24) hE fk_RX11_276 hb.1 rfl dX11_untie_24 ?_
      refine z_iload_n (pc := 27) hE 1 1 rfl rfl dX11_untie_27 ?_
      refine z_iald (pc := 28) hE hb.2.2.2.2.2.2.2.2.2.1 dX11_untie_28 (fun x3 => ?_)
      refine z_istore_n (L' := [(2, .int x3), (0, .ref (ad b)), (1, .int a2)]) (pc := 29) hE 2 rfl (by decide) rfl dX11_untie_29 ?_
      refine z_aload_n (pc := 30) hE 1 0 rfl rfl dX11_untie_30 ?_
      refine z_iload_n (pc := 31) hE 2 1 rfl rfl dX11_untie_31 ?_
      refine z_callVv (pc := 32) (st := []) [.int a2] hE kk_RX11_267 (c_X3_setLoose b hb a2) hb.1 rfl rfl rfl (Nat.le_of_ble_eq_true rfl) (by decide) dX11_untie_32 (fun x4 => ?_)
      refine z_iload_n (pc := 35) hE 0 2 rfl rfl dX11_untie_35 ?_
      exact z_ireturn (pc := 36) hE hr dX11_untie_36
    · refine z_bipush (pc := 20) hE dX11_untie_20 q_bipush_m2 ?_
      exact z_ireturn (pc := 22) hE hr dX11_untie_22
  · refine z_iconst (pc := 8) hE dX11_untie_8 q_iconst_m1 ?_
    exact z_ireturn (pc := 9) hE hr dX11_untie_9
set_option maxRecDepth 100000 in
set_option maxHeartbeats 4000000 in
theorem c_X11_cast {l : Launch} {ad : Nat → Nat} {ca : FieldType → ClassId} {D : va_G} {tt : Nat → Nat} (a1 : Int32) : zC l yX11_cast cX11_cast 2 (some .int) 3 layX ad ca D (xtX ad tt) [.ref (ad 0), .int a1] zvi (p_X11_cast a1) := by
  refine z_enter (by decide) (Nat.le_of_ble_eq_true rfl) (fun E hE hl0 hcD hr => ?_)
  have hE : zok layX ad (xtX ad tt) E cX11_cast 2 RX11 3 := hE
  show Z layX ad E 2 (zFin layX ad E zvi) 0 [(0, .ref (ad 0)), (1, .int a1)] [] (p_X11_cast a1)
  unfold p_X11_cast
  refine z_aload_n (pc := 0) hE 0 0 rfl rfl dX11_cast_0 ?_
  refine z_getr (pc := 1) hE fk_RX11_52 lX_0 rfl dX11_cast_1 ?_
  refine z_aload_n (pc := 4) hE 0 0 rfl rfl dX11_cast_4 ?_
  refine z_getr (pc := 5) hE fk_RX11_42 lX_0 rfl dX11_cast_5 ?_
  refine z_callVv (pc := 8) (st := []) [.ref (ad 20)] hE kk_RX11_210 (c_X6_note 20 zfk_20) lX_44 rfl rfl rfl (Nat.le_of_ble_eq_true rfl) (by decide) dX11_cast_8 (fun x1 => ?_)
  refine z_aload_n (pc := 11) hE 0 0 rfl rfl dX11_cast_11 ?_
  refine z_aload_n (pc := 12) hE 0 0 rfl rfl dX11_cast_12 ?_
  refine z_getr (pc := 13) hE fk_RX11_42 lX_0 rfl dX11_cast_13 ?_
  refine z_iload_n (pc := 16) hE 1 1 rfl rfl dX11_cast_16 ?_
  refine z_callSi (pc := 17) (st := [.ref (ad 0)]) [.ref (ad 20), .int a1] hE kk_RX11_224 (c_X11_untie 20 zfk_20 a1) rfl rfl (Nat.le_of_ble_eq_true rfl) (by decide) dX11_cast_17 (fun x2 => ?_)
  refine z_callVi (pc := 20) (st := []) [.int x2] hE kk_RX11_218 (c_X11_remembered x2) lX_0 rfl rfl rfl (Nat.le_of_ble_eq_true rfl) (by decide) dX11_cast_20 (fun x3 => ?_)
  exact z_ireturn (pc := 23) hE hr dX11_cast_23
set_option maxRecDepth 100000 in
set_option maxHeartbeats 4000000 in
theorem c_X11_load {l : Launch} {ad : Nat → Nat} {ca : FieldType → ClassId} {D : va_G} {tt : Nat → Nat} (a1 : Int32) (a2 : Int32) : zC l yX11_load cX11_load 4 (some .int) 2 layX ad ca D (xtX ad tt) [.ref (ad 0), .int a1, .int a2] zvi (p_X11_load a1 a2) := by
  refine z_enter (by decide) (Nat.le_of_ble_eq_true rfl) (fun E hE hl0 hcD hr => ?_)
  have hE : zok layX ad (xtX ad tt) E cX11_load 4 RX11 2 := hE
  show Z layX ad E 4 (zFin layX ad E zvi) 0 [(0, .ref (ad 0)), (1, .int a1), (2, .int a2)] [] (p_X11_load a1 a2)
  unfold p_X11_load
  refine z_aload_n (pc := 0) hE 0 0 rfl rfl dX11_load_0 ?_
  refine z_getr (pc := 1) hE fk_RX11_42 lX_0 rfl dX11_load_1 ?_
  refine z_iload_n (pc := 4) hE 1 1 rfl rfl dX11_load_4 ?_
  refine z_callVi (pc := 5) (st := []) [.int a1] hE kk_RX11_160 (c_X3_has 20 zfk_20 a1) lX_20 rfl rfl rfl (Nat.le_of_ble_eq_true rfl) (by decide) dX11_load_5 (fun x1 => ?_)
  refine z_if_eq (pc := 8) hE 15 rfl dX11_load_8 ?_ ?_
  · refine z_iconst (pc := 15) hE dX11_load_15 q_iconst_m1 ?_
    exact z_ireturn (pc := 16) hE hr dX11_load_16
  · refine z_iload_n (pc := 11) hE 2 2 rfl rfl dX11_load_11 ?_
    refine z_if_ne (pc := 12) hE 17 rfl dX11_load_12 ?_ ?_
    · refine z_iload_n (pc := 17) hE 2 2 rfl rfl dX11_load_17 ?_
      refine z_join (Y := Unit) (pcJ := 32) (Lj := fun y2 => [(0, .ref (ad 0)), (1, .int a1), (2, .int a2)]) (sj := fun y2 => []) (fun y2 => ?_) (fun j3 hj3 => ?_)
      · refine z_aload_n (pc := 32) hE 0 0 rfl rfl dX11_load_32 ?_
        refine z_getr (pc := 33) hE fk_RX11_42 lX_0 rfl dX11_load_33 ?_
        refine z_getr (pc := 36) hE fk_RX11_185 lX_20 rfl dX11_load_36 ?_
        refine z_iload_n (pc := 39) hE 1 1 rfl rfl dX11_load_39 ?_
        refine z_iald (pc := 40) hE lX_28 dX11_load_40 (fun x4 => ?_)
        refine z_iconst (pc := 41) hE dX11_load_41 q_iconst_3 ?_
        refine z_icmp_ne (pc := 42) hE 48 rfl dX11_load_42 ?_ ?_
        · refine z_aload_n (pc := 48) hE 0 0 rfl rfl dX11_load_48 ?_
          refine z_getr (pc := 49) hE fk_RX11_42 lX_0 rfl dX11_load_49 ?_
          refine z_getr (pc := 52) hE fk_RX11_164 lX_20 rfl dX11_load_52 ?_
          refine z_iload_n (pc := 55) hE 1 1 rfl rfl dX11_load_55 ?_
          refine z_iald (pc := 56) hE lX_24 dX11_load_56 (fun x5 => ?_)
          refine z_istore_n (L' := [(3, .int x5), (0, .ref (ad 0)), (1, .int a1), (2, .int a2)]) (pc := 57) hE 3 rfl (by decide) rfl dX11_load_57 ?_
          refine z_iload_n (pc := 58) hE 3 2 rfl rfl dX11_load_58 ?_
          refine z_bipush (pc := 59) hE dX11_load_59 q_bipush_9 ?_
          refine z_iload_n (pc := 61) hE 0 3 rfl rfl dX11_load_61 ?_
          refine z_isub (pc := 62) hE dX11_load_62 ?_
          refine z_icmp_gt (pc := 63) hE 72 rfl dX11_load_63 ?_ ?_
          · refine z_bipush (pc := 72) hE dX11_load_72 q_bipush_m3 ?_
            exact z_ireturn (pc := 74) hE hr dX11_load_74
          · refine z_iload_n (pc := 66) hE 3 2 rfl rfl dX11_load_66 ?_
            refine z_iload_n (pc := 67) hE 0 3 rfl rfl dX11_load_67 ?_
            refine z_ineg (pc := 68) hE dX11_load_68 ?_
            refine z_icmp_ge (pc := 69) hE 75 rfl dX11_load_69 ?_ ?_
            · refine z_aload_n (pc := 75) hE 1 0 rfl rfl dX11_load_75 ?_
              refine z_getr (pc := 76) hE fk_RX11_42 lX_0 rfl dX11_load_76 ?_
              refine z_getr (pc := 79) hE fk_RX11_164 lX_20 rfl dX11_load_79 ?_
              refine z_iload_n (pc := 82) hE 2 1 rfl rfl dX11_load_82 ?_
              refine z_iload_n (pc := 83) hE 0 3 rfl rfl dX11_load_83 ?_
              refine z_iload_n (pc := 84) hE 3 2 rfl rfl dX11_load_84 ?_
              refine z_iadd (pc := 85) hE dX11_load_85 ?_
              refine z_iast (pc := 86) hE lX_24 dX11_load_86 ?_
              refine z_iload_n (pc := 87) hE 0 3 rfl rfl dX11_load_87 ?_
              refine z_iload_n (pc := 88) hE 3 2 rfl rfl dX11_load_88 ?_
              refine z_iadd (pc := 89) hE dX11_load_89 ?_
              exact z_ireturn (pc := 90) hE hr dX11_load_90
            · refine z_bipush (pc := 72) hE dX11_load_72 q_bipush_m3 ?_
              exact z_ireturn (pc := 74) hE hr dX11_load_74
        · refine z_bipush (pc := 45) hE dX11_load_45 q_bipush_m2 ?_
          exact z_ireturn (pc := 47) hE hr dX11_load_47
      refine z_if_le (pc := 18) hE 32 rfl dX11_load_18 ?_ ?_
      · exact z_sub [0, 1, 2] rfl (hj3 ())
      · refine z_aload_n (pc := 21) hE 0 0 rfl rfl dX11_load_21 ?_
        refine z_getr (pc := 22) hE fk_RX11_42 lX_0 rfl dX11_load_22 ?_
        refine z_iload_n (pc := 25) hE 1 1 rfl rfl dX11_load_25 ?_
        refine z_callVi (pc := 26) (st := []) [.int a1] hE kk_RX11_230 (c_X3_isAtHand 20 zfk_20 a1) lX_20 rfl rfl rfl (Nat.le_of_ble_eq_true rfl) (by decide) dX11_load_26 (fun x6 => ?_)
        refine z_if_eq (pc := 29) hE 45 rfl dX11_load_29 ?_ ?_
        · refine z_bipush (pc := 45) hE dX11_load_45 q_bipush_m2 ?_
          exact z_ireturn (pc := 47) hE hr dX11_load_47
        · exact z_sub [0, 1, 2] rfl (hj3 ())
    · refine z_iconst (pc := 15) hE dX11_load_15 q_iconst_m1 ?_
      exact z_ireturn (pc := 16) hE hr dX11_load_16
set_option maxRecDepth 100000 in
set_option maxHeartbeats 4000000 in
theorem c_X11_sacks {l : Launch} {ad : Nat → Nat} {ca : FieldType → ClassId} {D : va_G} {tt : Nat → Nat} (a1 : Int32) (a2 : Int32) : zC l yX11_sacks cX11_sacks 3 (some .int) 3 layX ad ca D (xtX ad tt) [.ref (ad 0), .int a1, .int a2] zvi (p_X11_sacks a1 a2) := by
  refine z_enter (by decide) (Nat.le_of_ble_eq_true rfl) (fun E hE hl0 hcD hr => ?_)
  have hE : zok layX ad (xtX ad tt) E cX11_sacks 3 RX11 3 := hE
  show Z layX ad E 3 (zFin layX ad E zvi) 0 [(0, .ref (ad 0)), (1, .int a1), (2, .int a2)] [] (p_X11_sacks a1 a2)
  unfold p_X11_sacks
  refine z_aload_n (pc := 0) hE 0 0 rfl rfl dX11_sacks_0 ?_
  refine z_getr (pc := 1) hE fk_RX11_52 lX_0 rfl dX11_sacks_1 ?_
  refine z_aload_n (pc := 4) hE 0 0 rfl rfl dX11_sacks_4 ?_
  refine z_getr (pc := 5) hE fk_RX11_42 lX_0 rfl dX11_sacks_5 ?_
  refine z_callVv (pc := 8) (st := []) [.ref (ad 20)] hE kk_RX11_210 (c_X6_note 20 zfk_20) lX_44 rfl rfl rfl (Nat.le_of_ble_eq_true rfl) (by decide) dX11_sacks_8 (fun x1 => ?_)
  refine z_aload_n (pc := 11) hE 0 0 rfl rfl dX11_sacks_11 ?_
  refine z_aload_n (pc := 12) hE 0 0 rfl rfl dX11_sacks_12 ?_
  refine z_iload_n (pc := 13) hE 1 1 rfl rfl dX11_sacks_13 ?_
  refine z_iload_n (pc := 14) hE 2 2 rfl rfl dX11_sacks_14 ?_
  refine z_callVi (pc := 15) (st := [.ref (ad 0)]) [.int a1, .int a2] hE kk_RX11_227 (c_X11_load a1 a2) lX_0 rfl rfl rfl (Nat.le_of_ble_eq_true rfl) (by decide) dX11_sacks_15 (fun x2 => ?_)
  refine z_callVi (pc := 18) (st := []) [.int x2] hE kk_RX11_218 (c_X11_remembered x2) lX_0 rfl rfl rfl (Nat.le_of_ble_eq_true rfl) (by decide) dX11_sacks_18 (fun x3 => ?_)
  exact z_ireturn (pc := 21) hE hr dX11_sacks_21
set_option maxRecDepth 100000 in
set_option maxHeartbeats 4000000 in
theorem c_X11_cargo {l : Launch} {ad : Nat → Nat} {ca : FieldType → ClassId} {D : va_G} {tt : Nat → Nat} (a1 : Int32) (a2 : Int32) : zC l yX11_cargo cX11_cargo 4 (some .int) 3 layX ad ca D (xtX ad tt) [.ref (ad 0), .int a1, .int a2] zvi (p_X11_cargo a1 a2) := by
  refine z_enter (by decide) (Nat.le_of_ble_eq_true rfl) (fun E hE hl0 hcD hr => ?_)
  have hE : zok layX ad (xtX ad tt) E cX11_cargo 4 RX11 3 := hE
  show Z layX ad E 4 (zFin layX ad E zvi) 0 [(0, .ref (ad 0)), (1, .int a1), (2, .int a2)] [] (p_X11_cargo a1 a2)
  unfold p_X11_cargo
  refine z_aload_n (pc := 0) hE 0 0 rfl rfl dX11_cargo_0 ?_
  refine z_getr (pc := 1) hE fk_RX11_42 lX_0 rfl dX11_cargo_1 ?_
  refine z_iload_n (pc := 4) hE 1 1 rfl rfl dX11_cargo_4 ?_
  refine z_callVi (pc := 5) (st := []) [.int a1] hE kk_RX11_160 (c_X3_has 20 zfk_20 a1) lX_20 rfl rfl rfl (Nat.le_of_ble_eq_true rfl) (by decide) dX11_cargo_5 (fun x1 => ?_)
  refine z_if_eq (pc := 8) hE 21 rfl dX11_cargo_8 ?_ ?_
  · refine z_iconst (pc := 21) hE dX11_cargo_21 q_iconst_m1 ?_
    exact z_ireturn (pc := 22) hE hr dX11_cargo_22
  · refine z_iload_n (pc := 11) hE 2 2 rfl rfl dX11_cargo_11 ?_
    refine z_if_lt (pc := 12) hE 21 rfl dX11_cargo_12 ?_ ?_
    · refine z_iconst (pc := 21) hE dX11_cargo_21 q_iconst_m1 ?_
      exact z_ireturn (pc := 22) hE hr dX11_cargo_22
    · refine z_iload_n (pc := 15) hE 2 2 rfl rfl dX11_cargo_15 ?_
      refine z_bipush (pc := 16) hE dX11_cargo_16 q_bipush_9 ?_
      refine z_icmp_le (pc := 18) hE 23 rfl dX11_cargo_18 ?_ ?_
      · refine z_aload_n (pc := 23) hE 0 0 rfl rfl dX11_cargo_23 ?_
        refine z_getr (pc := 24) hE fk_RX11_42 lX_0 rfl dX11_cargo_24 ?_
        refine z_iload_n (pc := 27) hE 1 1 rfl rfl dX11_cargo_27 ?_
        refine z_callVi (pc := 28) (st := []) [.int a1] hE kk_RX11_230 (c_X3_isAtHand 20 zfk_20 a1) lX_20 rfl rfl rfl (Nat.le_of_ble_eq_true rfl) (by decide) dX11_cargo_28 (fun x2 => ?_)
        refine z_if_ne (pc := 31) hE 37 rfl dX11_cargo_31 ?_ ?_
        · refine z_aload_n (pc := 37) hE 0 0 rfl rfl dX11_cargo_37 ?_
          refine z_getr (pc := 38) hE fk_RX11_52 lX_0 rfl dX11_cargo_38 ?_
          refine z_aload_n (pc := 41) hE 0 0 rfl rfl dX11_cargo_41 ?_
          refine z_getr (pc := 42) hE fk_RX11_42 lX_0 rfl dX11_cargo_42 ?_
          refine z_callVv (pc := 45) (st := []) [.ref (ad 20)] hE kk_RX11_210 (c_X6_note 20 zfk_20) lX_44 rfl rfl rfl (Nat.le_of_ble_eq_true rfl) (by decide) dX11_cargo_45 (fun x3 => ?_)
          refine z_aload_n (pc := 48) hE 0 0 rfl rfl dX11_cargo_48 ?_
          refine z_getr (pc := 49) hE fk_RX11_42 lX_0 rfl dX11_cargo_49 ?_
          refine z_getr (pc := 52) hE fk_RX11_167 lX_20 rfl dX11_cargo_52 ?_
          refine z_iload_n (pc := 55) hE 1 1 rfl rfl dX11_cargo_55 ?_
          refine z_iald (pc := 56) hE lX_25 dX11_cargo_56 (fun x4 => ?_)
          refine z_istore_n (L' := [(3, .int x4), (0, .ref (ad 0)), (1, .int a1), (2, .int a2)]) (pc := 57) hE 3 rfl (by decide) rfl dX11_cargo_57 ?_
          refine z_aload_n (pc := 58) hE 1 0 rfl rfl dX11_cargo_58 ?_
          refine z_getr (pc := 59) hE fk_RX11_42 lX_0 rfl dX11_cargo_59 ?_
          refine z_getr (pc := 62) hE fk_RX11_167 lX_20 rfl dX11_cargo_62 ?_
          refine z_iload_n (pc := 65) hE 2 1 rfl rfl dX11_cargo_65 ?_
          refine z_iload_n (pc := 66) hE 3 2 rfl rfl dX11_cargo_66 ?_
          refine z_iast (pc := 67) hE lX_25 dX11_cargo_67 ?_
          refine z_aload_n (pc := 68) hE 1 0 rfl rfl dX11_cargo_68 ?_
          refine z_iload_n (pc := 69) hE 0 3 rfl rfl dX11_cargo_69 ?_
          refine z_callVi (pc := 70) (st := []) [.int x4] hE kk_RX11_218 (c_X11_remembered x4) lX_0 rfl rfl rfl (Nat.le_of_ble_eq_true rfl) (by decide) dX11_cargo_70 (fun x5 => ?_)
          exact z_ireturn (pc := 73) hE hr dX11_cargo_73
        · refine z_bipush (pc := 34) hE dX11_cargo_34 q_bipush_m2 ?_
          exact z_ireturn (pc := 36) hE hr dX11_cargo_36
      · refine z_iconst (pc := 21) hE dX11_cargo_21 q_iconst_m1 ?_
        exact z_ireturn (pc := 22) hE hr dX11_cargo_22
set_option maxRecDepth 100000 in
set_option maxHeartbeats 4000000 in
theorem c_X11_fill {l : Launch} {ad : Nat → Nat} {ca : FieldType → ClassId} {D : va_G} {tt : Nat → Nat} (a1 : Int32) (a2 : Int32) : zC l yX11_fill cX11_fill 4 (some .int) 3 layX ad ca D (xtX ad tt) [.ref (ad 0), .int a1, .int a2] zvi (p_X11_fill a1 a2) := by
  refine z_enter (by decide) (Nat.le_of_ble_eq_true rfl) (fun E hE hl0 hcD hr => ?_)
  have hE : zok layX ad (xtX ad tt) E cX11_fill 4 RX11 3 := hE
  show Z layX ad E 4 (zFin layX ad E zvi) 0 [(0, .ref (ad 0)), (1, .int a1), (2, .int a2)] [] (p_X11_fill a1 a2)
  unfold p_X11_fill
  refine z_aload_n (pc := 0) hE 0 0 rfl rfl dX11_fill_0 ?_
  refine z_getr (pc := 1) hE fk_RX11_42 lX_0 rfl dX11_fill_1 ?_
  refine z_iload_n (pc := 4) hE 1 1 rfl rfl dX11_fill_4 ?_
  refine z_callVi (pc := 5) (st := []) [.int a1] hE kk_RX11_160 (c_X3_has 20 zfk_20 a1) lX_20 rfl rfl rfl (Nat.le_of_ble_eq_true rfl) (by decide) dX11_fill_5 (fun x1 => ?_)
  refine z_if_eq (pc := 8) hE 21 rfl dX11_fill_8 ?_ ?_
  · refine z_iconst (pc := 21) hE dX11_fill_21 q_iconst_m1 ?_
    exact z_ireturn (pc := 22) hE hr dX11_fill_22
  · refine z_iload_n (pc := 11) hE 2 2 rfl rfl dX11_fill_11 ?_
    refine z_if_lt (pc := 12) hE 21 rfl dX11_fill_12 ?_ ?_
    · refine z_iconst (pc := 21) hE dX11_fill_21 q_iconst_m1 ?_
      exact z_ireturn (pc := 22) hE hr dX11_fill_22
    · refine z_iload_n (pc := 15) hE 2 2 rfl rfl dX11_fill_15 ?_
      refine z_bipush (pc := 16) hE dX11_fill_16 q_bipush_99 ?_
      refine z_icmp_le (pc := 18) hE 23 rfl dX11_fill_18 ?_ ?_
      · refine z_aload_n (pc := 23) hE 0 0 rfl rfl dX11_fill_23 ?_
        refine z_getr (pc := 24) hE fk_RX11_42 lX_0 rfl dX11_fill_24 ?_
        refine z_getr (pc := 27) hE fk_RX11_185 lX_20 rfl dX11_fill_27 ?_
        refine z_iload_n (pc := 30) hE 1 1 rfl rfl dX11_fill_30 ?_
        refine z_iald (pc := 31) hE lX_28 dX11_fill_31 (fun x2 => ?_)
        refine z_if_eq (pc := 32) hE 38 rfl dX11_fill_32 ?_ ?_
        · refine z_aload_n (pc := 38) hE 0 0 rfl rfl dX11_fill_38 ?_
          refine z_getr (pc := 39) hE fk_RX11_52 lX_0 rfl dX11_fill_39 ?_
          refine z_aload_n (pc := 42) hE 0 0 rfl rfl dX11_fill_42 ?_
          refine z_getr (pc := 43) hE fk_RX11_42 lX_0 rfl dX11_fill_43 ?_
          refine z_callVv (pc := 46) (st := []) [.ref (ad 20)] hE kk_RX11_210 (c_X6_note 20 zfk_20) lX_44 rfl rfl rfl (Nat.le_of_ble_eq_true rfl) (by decide) dX11_fill_46 (fun x3 => ?_)
          refine z_aload_n (pc := 49) hE 0 0 rfl rfl dX11_fill_49 ?_
          refine z_getr (pc := 50) hE fk_RX11_42 lX_0 rfl dX11_fill_50 ?_
          refine z_getr (pc := 53) hE fk_RX11_161 lX_20 rfl dX11_fill_53 ?_
          refine z_iload_n (pc := 56) hE 1 1 rfl rfl dX11_fill_56 ?_
          refine z_iald (pc := 57) hE lX_23 dX11_fill_57 (fun x4 => ?_)
          refine z_istore_n (L' := [(3, .int x4), (0, .ref (ad 0)), (1, .int a1), (2, .int a2)]) (pc := 58) hE 3 rfl (by decide) rfl dX11_fill_58 ?_
          refine z_aload_n (pc := 59) hE 1 0 rfl rfl dX11_fill_59 ?_
          refine z_getr (pc := 60) hE fk_RX11_42 lX_0 rfl dX11_fill_60 ?_
          refine z_getr (pc := 63) hE fk_RX11_161 lX_20 rfl dX11_fill_63 ?_
          refine z_iload_n (pc := 66) hE 2 1 rfl rfl dX11_fill_66 ?_
          refine z_iload_n (pc := 67) hE 3 2 rfl rfl dX11_fill_67 ?_
          refine z_iast (pc := 68) hE lX_23 dX11_fill_68 ?_
          refine z_aload_n (pc := 69) hE 1 0 rfl rfl dX11_fill_69 ?_
          refine z_iload_n (pc := 70) hE 0 3 rfl rfl dX11_fill_70 ?_
          refine z_callVi (pc := 71) (st := []) [.int x4] hE kk_RX11_218 (c_X11_remembered x4) lX_0 rfl rfl rfl (Nat.le_of_ble_eq_true rfl) (by decide) dX11_fill_71 (fun x5 => ?_)
          exact z_ireturn (pc := 74) hE hr dX11_fill_74
        · refine z_bipush (pc := 35) hE dX11_fill_35 q_bipush_m2 ?_
          exact z_ireturn (pc := 37) hE hr dX11_fill_37
      · refine z_iconst (pc := 21) hE dX11_fill_21 q_iconst_m1 ?_
        exact z_ireturn (pc := 22) hE hr dX11_fill_22
set_option maxRecDepth 100000 in
set_option maxHeartbeats 4000000 in
theorem c_X11_tell {l : Launch} {ad : Nat → Nat} {ca : FieldType → ClassId} {D : va_G} {tt : Nat → Nat} (a1 : Int64) (a2 : Int64) : zC l yX11_tell cX11_tell 5 none 1 layX ad ca D (xtX ad tt) [.ref (ad 0), .long a1, .long a2] zvn (p_X11_tell a1 a2) := by
  refine z_enter (by decide) (Nat.le_of_ble_eq_true rfl) (fun E hE hl0 hcD hr => ?_)
  have hE : zok layX ad (xtX ad tt) E cX11_tell 5 RX11 1 := hE
  show Z layX ad E 5 (zFin layX ad E zvn) 0 [(0, .ref (ad 0)), (1, .long a1), (3, .long a2)] [] (p_X11_tell a1 a2)
  unfold p_X11_tell
  refine z_aload_n (pc := 0) hE 0 0 rfl rfl dX11_tell_0 ?_
  refine z_getr (pc := 1) hE fk_RX11_59 lX_0 rfl dX11_tell_1 ?_
  refine z_iconst (pc := 4) hE dX11_tell_4 q_iconst_0 ?_
  refine z_puti (pc := 5) hE fk_RX11_288 lX_48 rfl dX11_tell_5 ?_
  refine z_aload_n (pc := 8) hE 0 0 rfl rfl dX11_tell_8 ?_
  refine z_getr (pc := 9) hE fk_RX11_59 lX_0 rfl dX11_tell_9 ?_
  refine z_lload_n (pc := 12) hE 1 1 rfl rfl dX11_tell_12 ?_
  refine z_callVv (pc := 13) (st := []) [.long a1] hE kk_RX11_306 (c_X1_add a1) lX_48 rfl rfl rfl (Nat.le_of_ble_eq_true rfl) (by decide) dX11_tell_13 (fun x1 => ?_)
  refine z_aload_n (pc := 16) hE 0 0 rfl rfl dX11_tell_16 ?_
  refine z_getr (pc := 17) hE fk_RX11_59 lX_0 rfl dX11_tell_17 ?_
  refine z_lload_n (pc := 20) hE 2 3 rfl rfl dX11_tell_20 ?_
  refine z_callVv (pc := 21) (st := []) [.long a2] hE kk_RX11_306 (c_X1_add a2) lX_48 rfl rfl rfl (Nat.le_of_ble_eq_true rfl) (by decide) dX11_tell_21 (fun x2 => ?_)
  exact z_return (pc := 24) hE hr dX11_tell_24
set_option maxRecDepth 100000 in
set_option maxHeartbeats 4000000 in
theorem c_X11_hours {l : Launch} {ad : Nat → Nat} {ca : FieldType → ClassId} {D : va_G} {tt : Nat → Nat} (a1 : Int32) : zC l yX11_hours cX11_hours 3 (some .int) 6 layX ad ca D (xtX ad tt) [.ref (ad 0), .int a1] zvi (p_X11_hours a1) := by
  refine z_enter (by decide) (Nat.le_of_ble_eq_true rfl) (fun E hE hl0 hcD hr => ?_)
  have hE : zok layX ad (xtX ad tt) E cX11_hours 3 RX11 6 := hE
  show Z layX ad E 3 (zFin layX ad E zvi) 0 [(0, .ref (ad 0)), (1, .int a1)] [] (p_X11_hours a1)
  unfold p_X11_hours
  refine z_iload_n (pc := 0) hE 1 1 rfl rfl dX11_hours_0 ?_
  refine z_if_lt (pc := 1) hE 10 rfl dX11_hours_1 ?_ ?_
  · refine z_iconst (pc := 10) hE dX11_hours_10 q_iconst_m1 ?_
    exact z_ireturn (pc := 11) hE hr dX11_hours_11
  · refine z_iload_n (pc := 4) hE 1 1 rfl rfl dX11_hours_4 ?_
    refine z_bipush (pc := 5) hE dX11_hours_5 q_bipush_48 ?_
    refine z_icmp_le (pc := 7) hE 12 rfl dX11_hours_7 ?_ ?_
    · refine z_aload_n (pc := 12) hE 0 0 rfl rfl dX11_hours_12 ?_
      refine z_getr (pc := 13) hE fk_RX11_52 lX_0 rfl dX11_hours_13 ?_
      refine z_aload_n (pc := 16) hE 0 0 rfl rfl dX11_hours_16 ?_
      refine z_getr (pc := 17) hE fk_RX11_42 lX_0 rfl dX11_hours_17 ?_
      refine z_callVv (pc := 20) (st := []) [.ref (ad 20)] hE kk_RX11_210 (c_X6_note 20 zfk_20) lX_44 rfl rfl rfl (Nat.le_of_ble_eq_true rfl) (by decide) dX11_hours_20 (fun x1 => ?_)
      refine z_aload_n (pc := 23) hE 0 0 rfl rfl dX11_hours_23 ?_
      refine z_aload_n (pc := 24) hE 0 0 rfl rfl dX11_hours_24 ?_
      refine z_getr (pc := 25) hE fk_RX11_42 lX_0 rfl dX11_hours_25 ?_
      refine z_iload_n (pc := 28) hE 1 1 rfl rfl dX11_hours_28 ?_
      refine z_callVi (pc := 29) (st := [.ref (ad 0)]) [.int a1] hE kk_RX11_233 (c_X3_passHours 20 zfk_20 a1) lX_20 rfl rfl rfl (Nat.le_of_ble_eq_true rfl) (by decide) dX11_hours_29 (fun x2 => ?_)
      refine z_callVi (pc := 32) (st := []) [.int x2] hE kk_RX11_218 (c_X11_remembered x2) lX_0 rfl rfl rfl (Nat.le_of_ble_eq_true rfl) (by decide) dX11_hours_32 (fun x3 => ?_)
      refine z_istore_n (L' := [(2, .int x3), (0, .ref (ad 0)), (1, .int a1)]) (pc := 35) hE 2 rfl (by decide) rfl dX11_hours_35 ?_
      refine z_aload_n (pc := 36) hE 1 0 rfl rfl dX11_hours_36 ?_
      refine z_aload_n (pc := 37) hE 1 0 rfl rfl dX11_hours_37 ?_
      refine z_getr (pc := 38) hE fk_RX11_42 lX_0 rfl dX11_hours_38 ?_
      refine z_geti (pc := 41) hE fk_RX11_236 lX_20 rfl dX11_hours_41 (fun x4 => ?_)
      refine z_i2l (pc := 44) hE dX11_hours_44 ?_
      refine z_aload_n (pc := 45) hE 1 0 rfl rfl dX11_hours_45 ?_
      refine z_getr (pc := 46) hE fk_RX11_42 lX_0 rfl dX11_hours_46 ?_
      refine z_geti (pc := 49) hE fk_RX11_239 lX_20 rfl dX11_hours_49 (fun x5 => ?_)
      refine z_i2l (pc := 52) hE dX11_hours_52 ?_
      refine z_callVv (pc := 53) (st := []) [.long x4.toInt64, .long x5.toInt64] hE kk_RX11_242 (c_X11_tell x4.toInt64 x5.toInt64) lX_0 rfl rfl rfl (Nat.le_of_ble_eq_true rfl) (by decide) dX11_hours_53 (fun x6 => ?_)
      refine z_iload_n (pc := 56) hE 0 2 rfl rfl dX11_hours_56 ?_
      exact z_ireturn (pc := 57) hE hr dX11_hours_57
    · refine z_iconst (pc := 10) hE dX11_hours_10 q_iconst_m1 ?_
      exact z_ireturn (pc := 11) hE hr dX11_hours_11
set_option maxRecDepth 100000 in
set_option maxHeartbeats 4000000 in
theorem c_X11_carryOut {l : Launch} {ad : Nat → Nat} {ca : FieldType → ClassId} {D : va_G} {tt : Nat → Nat} (a1 : Int32) : zC l yX11_carryOut cX11_carryOut 4 (some .int) 6 layX ad ca D (xtX ad tt) [.ref (ad 0), .int a1] zvi (p_X11_carryOut a1) := by
  refine z_enter (by decide) (Nat.le_of_ble_eq_true rfl) (fun E hE hl0 hcD hr => ?_)
  have hE : zok layX ad (xtX ad tt) E cX11_carryOut 4 RX11 6 := hE
  show Z layX ad E 4 (zFin layX ad E zvi) 0 [(0, .ref (ad 0)), (1, .int a1)] [] (p_X11_carryOut a1)
  unfold p_X11_carryOut
  refine z_iload_n (pc := 0) hE 1 1 rfl rfl dX11_carryOut_0 ?_
  refine z_if_lt (pc := 1) hE 15 rfl dX11_carryOut_1 ?_ ?_
  · refine z_iconst (pc := 15) hE dX11_carryOut_15 q_iconst_m1 ?_
    exact z_ireturn (pc := 16) hE hr dX11_carryOut_16
  · refine z_iload_n (pc := 4) hE 1 1 rfl rfl dX11_carryOut_4 ?_
    refine z_aload_n (pc := 5) hE 0 0 rfl rfl dX11_carryOut_5 ?_
    refine z_getr (pc := 6) hE fk_RX11_73 lX_0 rfl dX11_carryOut_6 ?_
    refine z_geti (pc := 9) hE fk_RX11_255 lX_58 rfl dX11_carryOut_9 (fun x1 => ?_)
    refine z_icmp_lt (pc := 12) hE 17 rfl dX11_carryOut_12 ?_ ?_
    · refine z_aload_n (pc := 17) hE 0 0 rfl rfl dX11_carryOut_17 ?_
      refine z_getr (pc := 18) hE fk_RX11_73 lX_0 rfl dX11_carryOut_18 ?_
      refine z_getr (pc := 21) hE fk_RX11_279 lX_58 rfl dX11_carryOut_21 ?_
      refine z_iload_n (pc := 24) hE 1 1 rfl rfl dX11_carryOut_24 ?_
      refine z_iald (pc := 25) hE lX_60 dX11_carryOut_25 (fun x2 => ?_)
      refine z_istore_n (L' := [(2, .int x2), (0, .ref (ad 0)), (1, .int a1)]) (pc := 26) hE 2 rfl (by decide) rfl dX11_carryOut_26 ?_
      refine z_aload_n (pc := 27) hE 1 0 rfl rfl dX11_carryOut_27 ?_
      refine z_getr (pc := 28) hE fk_RX11_73 lX_0 rfl dX11_carryOut_28 ?_
      refine z_getr (pc := 31) hE fk_RX11_282 lX_58 rfl dX11_carryOut_31 ?_
      refine z_iload_n (pc := 34) hE 2 1 rfl rfl dX11_carryOut_34 ?_
      refine z_iald (pc := 35) hE lX_61 dX11_carryOut_35 (fun x3 => ?_)
      refine z_istore_n (L' := [(3, .int x3), (2, .int x2), (0, .ref (ad 0)), (1, .int a1)]) (pc := 36) hE 3 rfl (by decide) rfl dX11_carryOut_36 ?_
      refine z_aload_n (pc := 37) hE 2 0 rfl rfl dX11_carryOut_37 ?_
      refine z_getr (pc := 38) hE fk_RX11_73 lX_0 rfl dX11_carryOut_38 ?_
      refine z_getr (pc := 41) hE fk_RX11_285 lX_58 rfl dX11_carryOut_41 ?_
      refine z_iload_n (pc := 44) hE 3 1 rfl rfl dX11_carryOut_44 ?_
      refine z_iald (pc := 45) hE lX_59 dX11_carryOut_45 (fun x4 => ?_)
      refine z_case x4 (99 : Int32) (fun hc5 => ?_) (fun hc5 => ?_)
      · refine z_lookup (pc := 46) hE 66 112 dX11_carryOut_46 (by decide) (by rw [hc5]; decide) rfl ?_
        refine z_aload_n (pc := 112) hE 2 0 rfl rfl dX11_carryOut_112 ?_
        refine z_getr (pc := 113) hE fk_RX11_42 lX_0 rfl dX11_carryOut_113 ?_
        refine z_iload_n (pc := 116) hE 1 2 rfl rfl dX11_carryOut_116 ?_
        refine z_callSi (pc := 117) (st := []) [.ref (ad 20), .int x2] hE kk_RX11_224 (c_X11_untie 20 zfk_20 x2) rfl rfl (Nat.le_of_ble_eq_true rfl) (by decide) dX11_carryOut_117 (fun x6 => ?_)
        exact z_ireturn (pc := 120) hE hr dX11_carryOut_120
      refine z_case x4 (104 : Int32) (fun hc7 => ?_) (fun hc7 => ?_)
      · refine z_lookup (pc := 46) hE 82 128 dX11_carryOut_46 (by decide) (by rw [hc7]; decide) rfl ?_
        refine z_iload_n (pc := 128) hE 1 2 rfl rfl dX11_carryOut_128 ?_
        refine z_bipush (pc := 129) hE dX11_carryOut_129 q_bipush_48 ?_
        refine z_icmp_le (pc := 131) hE 138 rfl dX11_carryOut_131 ?_ ?_
        · refine z_aload_n (pc := 138) hE 2 0 rfl rfl dX11_carryOut_138 ?_
          refine z_getr (pc := 139) hE fk_RX11_42 lX_0 rfl dX11_carryOut_139 ?_
          refine z_iload_n (pc := 142) hE 1 2 rfl rfl dX11_carryOut_142 ?_
          refine z_callVi (pc := 143) (st := []) [.int x2] hE kk_RX11_233 (c_X3_passHours 20 zfk_20 x2) lX_20 rfl rfl rfl (Nat.le_of_ble_eq_true rfl) (by decide) dX11_carryOut_143 (fun x8 => ?_)
          exact z_ireturn (pc := 146) hE hr dX11_carryOut_146
        · refine z_iconst (pc := 134) hE dX11_carryOut_134 q_iconst_m1 ?_
          refine z_goto (pc := 135) hE 146 rfl dX11_carryOut_135 ?_
          exact z_ireturn (pc := 146) hE hr dX11_carryOut_146
      refine z_case x4 (108 : Int32) (fun hc9 => ?_) (fun hc9 => ?_)
      · refine z_lookup (pc := 46) hE 50 96 dX11_carryOut_46 (by decide) (by rw [hc9]; decide) rfl ?_
        refine z_aload_n (pc := 96) hE 2 0 rfl rfl dX11_carryOut_96 ?_
        refine z_getr (pc := 97) hE fk_RX11_42 lX_0 rfl dX11_carryOut_97 ?_
        refine z_iload_n (pc := 100) hE 1 2 rfl rfl dX11_carryOut_100 ?_
        refine z_callSi (pc := 101) (st := []) [.ref (ad 20), .int x2] hE kk_RX11_214 (c_X11_setFree 20 zfk_20 x2) rfl rfl (Nat.le_of_ble_eq_true rfl) (by decide) dX11_carryOut_101 (fun x10 => ?_)
        exact z_ireturn (pc := 104) hE hr dX11_carryOut_104
      refine z_case x4 (109 : Int32) (fun hc11 => ?_) (fun hc11 => ?_)
      · refine z_lookup (pc := 46) hE 59 105 dX11_carryOut_46 (by decide) (by rw [hc11]; decide) rfl ?_
        refine z_aload_n (pc := 105) hE 2 0 rfl rfl dX11_carryOut_105 ?_
        refine z_iload_n (pc := 106) hE 1 2 rfl rfl dX11_carryOut_106 ?_
        refine z_iload_n (pc := 107) hE 0 3 rfl rfl dX11_carryOut_107 ?_
        refine z_callVi (pc := 108) (st := []) [.int x2, .int x3] hE kk_RX11_221 (c_X11_tie x2 x3) lX_0 rfl rfl rfl (Nat.le_of_ble_eq_true rfl) (by decide) dX11_carryOut_108 (fun x12 => ?_)
        exact z_ireturn (pc := 111) hE hr dX11_carryOut_111
      refine z_case x4 (115 : Int32) (fun hc13 => ?_) (fun hc13 => ?_)
      · refine z_lookup (pc := 46) hE 75 121 dX11_carryOut_46 (by decide) (by rw [hc13]; decide) rfl ?_
        refine z_aload_n (pc := 121) hE 2 0 rfl rfl dX11_carryOut_121 ?_
        refine z_iload_n (pc := 122) hE 1 2 rfl rfl dX11_carryOut_122 ?_
        refine z_iload_n (pc := 123) hE 0 3 rfl rfl dX11_carryOut_123 ?_
        refine z_callVi (pc := 124) (st := []) [.int x2, .int x3] hE kk_RX11_227 (c_X11_load x2 x3) lX_0 rfl rfl rfl (Nat.le_of_ble_eq_true rfl) (by decide) dX11_carryOut_124 (fun x14 => ?_)
        exact z_ireturn (pc := 127) hE hr dX11_carryOut_127
      have ihc5 := zne (99) hc5 (by decide)
      have ihc7 := zne (104) hc7 (by decide)
      have ihc9 := zne (108) hc9 (by decide)
      have ihc11 := zne (109) hc11 (by decide)
      have ihc13 := zne (115) hc13 (by decide)
      refine z_lookup (pc := 46) hE (101) 147 dX11_carryOut_46 (by decide) (by simp [Op.lookupswitch.offset, ihc5, Ne.symm ihc5, ihc7, Ne.symm ihc7, ihc9, Ne.symm ihc9, ihc11, Ne.symm ihc11, ihc13, Ne.symm ihc13]) rfl ?_
      refine z_iconst (pc := 147) hE dX11_carryOut_147 q_iconst_m1 ?_
      exact z_ireturn (pc := 148) hE hr dX11_carryOut_148
    · refine z_iconst (pc := 15) hE dX11_carryOut_15 q_iconst_m1 ?_
      exact z_ireturn (pc := 16) hE hr dX11_carryOut_16
set_option maxRecDepth 100000 in
set_option maxHeartbeats 4000000 in
theorem c_X11_day {l : Launch} {ad : Nat → Nat} {ca : FieldType → ClassId} {D : va_G} {tt : Nat → Nat}  : zC l yX11_day cX11_day 4 (some .int) 7 layX ad ca D (xtX ad tt) [.ref (ad 0)] zvi (p_X11_day) := by
  refine z_enter (by decide) (Nat.le_of_ble_eq_true rfl) (fun E hE hl0 hcD hr => ?_)
  have hE : zok layX ad (xtX ad tt) E cX11_day 4 RX11 7 := hE
  show Z layX ad E 4 (zFin layX ad E zvi) 0 [(0, .ref (ad 0))] [] (p_X11_day)
  unfold p_X11_day
  refine z_aload_n (pc := 0) hE 0 0 rfl rfl dX11_day_0 ?_
  refine z_getr (pc := 1) hE fk_RX11_10 lX_0 rfl dX11_day_1 ?_
  refine z_bipush (pc := 4) hE dX11_day_4 q_bipush_60 ?_
  refine z_callVv (pc := 6) (st := []) [.int ((60 : Int32))] hE kk_RX11_103 (c_X8_open ((60 : Int32))) lX_1 rfl rfl rfl (Nat.le_of_ble_eq_true rfl) (by decide) dX11_day_6 (fun x1 => ?_)
  refine z_aload_n (pc := 9) hE 0 0 rfl rfl dX11_day_9 ?_
  refine z_getr (pc := 10) hE fk_RX11_73 lX_0 rfl dX11_day_10 ?_
  refine z_aload_n (pc := 13) hE 0 0 rfl rfl dX11_day_13 ?_
  refine z_getr (pc := 14) hE fk_RX11_10 lX_0 rfl dX11_day_14 ?_
  refine z_callVi (pc := 17) (st := []) [.ref (ad 1)] hE kk_RX11_246 (c_X0_read) lX_58 rfl rfl rfl (Nat.le_of_ble_eq_true rfl) (by decide) dX11_day_17 (fun x2 => ?_)
  refine z_istore_n (L' := [(1, .int x2), (0, .ref (ad 0))]) (pc := 20) hE 1 rfl (by decide) rfl dX11_day_20 ?_
  refine z_aload_n (pc := 21) hE 1 0 rfl rfl dX11_day_21 ?_
  refine z_getr (pc := 22) hE fk_RX11_10 lX_0 rfl dX11_day_22 ?_
  refine z_callVv (pc := 25) (st := []) [] hE kk_RX11_111 (c_X8_close) lX_1 rfl rfl rfl (Nat.le_of_ble_eq_true rfl) (by decide) dX11_day_25 (fun x3 => ?_)
  refine z_iload_n (pc := 28) hE 0 1 rfl rfl dX11_day_28 ?_
  refine z_if_ne (pc := 29) hE 40 rfl dX11_day_29 ?_ ?_
  · refine z_aload_n (pc := 40) hE 1 0 rfl rfl dX11_day_40 ?_
    refine z_getr (pc := 41) hE fk_RX11_52 lX_0 rfl dX11_day_41 ?_
    refine z_aload_n (pc := 44) hE 1 0 rfl rfl dX11_day_44 ?_
    refine z_getr (pc := 45) hE fk_RX11_42 lX_0 rfl dX11_day_45 ?_
    refine z_callVv (pc := 48) (st := []) [.ref (ad 20)] hE kk_RX11_210 (c_X6_note 20 zfk_20) lX_44 rfl rfl rfl (Nat.le_of_ble_eq_true rfl) (by decide) dX11_day_48 (fun x4 => ?_)
    refine z_aload_n (pc := 51) hE 1 0 rfl rfl dX11_day_51 ?_
    refine z_getr (pc := 52) hE fk_RX11_42 lX_0 rfl dX11_day_52 ?_
    refine z_iconst (pc := 55) hE dX11_day_55 q_iconst_3 ?_
    refine z_callVi (pc := 56) (st := []) [.int ((3 : Int32))] hE kk_RX11_247 (c_X3_those 20 zfk_20 ((3 : Int32))) lX_20 rfl rfl rfl (Nat.le_of_ble_eq_true rfl) (by decide) dX11_day_56 (fun x5 => ?_)
    refine z_callSi (pc := 59) (st := []) [.int x5] hE kk_RX11_250 (c_J6_bitCount_0f7a4 x5) rfl rfl (Nat.le_of_ble_eq_true rfl) (by decide) dX11_day_59 (fun x6 => ?_)
    refine z_istore_n (L' := [(2, .int x6), (1, .int x2), (0, .ref (ad 0))]) (pc := 62) hE 2 rfl (by decide) rfl dX11_day_62 ?_
    refine z_iconst (pc := 63) hE dX11_day_63 q_iconst_0 ?_
    refine z_istore_n (L' := [(3, .int ((0 : Int32))), (2, .int x6), (1, .int x2), (0, .ref (ad 0))]) (pc := 64) hE 3 rfl (by decide) rfl dX11_day_64 ?_
    refine z_sub (L' := [(0, .ref (ad 0)), (2, .int x6), (3, .int ((0 : Int32)))]) [3, 1, 0] rfl ?_
    refine z_loop (V := Int32) (X := Int32) (hd := 65) (ex := 90) (Lh := fun v7 => [(0, .ref (ad 0)), (2, .int x6), (3, .int v7)]) (Lx := fun e10 => [(0, .ref (ad 0)), (2, .int x6), (3, .int e10)]) (fun rc9 k8 hrc9 hk8 v7 => ?_) zNF ((0 : Int32)) _ (fun e10 => ?_)
    · unfold p_X11_day_b65
      refine z_iload_n (pc := 65) hE 2 3 rfl rfl dX11_day_65 ?_
      refine z_aload_n (pc := 66) hE 0 0 rfl rfl dX11_day_66 ?_
      refine z_getr (pc := 67) hE fk_RX11_73 lX_0 rfl dX11_day_67 ?_
      refine z_geti (pc := 70) hE fk_RX11_255 lX_58 rfl dX11_day_70 (fun x11 => ?_)
      refine z_icmp_ge (pc := 73) hE 90 rfl dX11_day_73 ?_ ?_
      · exact z_sub [0, 1, 2] rfl (hk8 v7)
      · refine z_aload_n (pc := 76) hE 0 0 rfl rfl dX11_day_76 ?_
        refine z_iload_n (pc := 77) hE 2 3 rfl rfl dX11_day_77 ?_
        refine z_callVi (pc := 78) (st := []) [.int v7] hE kk_RX11_256 (c_X11_carryOut v7) lX_0 rfl rfl rfl (Nat.le_of_ble_eq_true rfl) (by decide) dX11_day_78 (fun x12 => ?_)
        refine z_if_lt (pc := 81) hE 90 rfl dX11_day_81 ?_ ?_
        · exact z_sub [0, 1, 2] rfl (hk8 v7)
        · refine z_iinc (L' := [(3, .int (v7 + (1 : Int32))), (0, .ref (ad 0)), (2, .int x6)]) (pc := 84) hE 2 rfl (zinc q_iconst_1) (by decide) rfl dX11_day_84 ?_
          refine z_goto (pc := 87) hE 65 rfl dX11_day_87 ?_
          exact z_sub [1, 2, 0] rfl (hrc9 (v7 + (1 : Int32)))
    · refine z_iload_n (pc := 90) hE 2 3 rfl rfl dX11_day_90 ?_
      refine z_join (Y := Unit) (pcJ := 101) (Lj := fun y13 => [(0, .ref (ad 0)), (2, .int x6), (3, .int e10)]) (sj := fun y13 => []) (fun y13 => ?_) (fun j14 hj14 => ?_)
      · refine z_aload_n (pc := 101) hE 0 0 rfl rfl dX11_day_101 ?_
        refine z_iload_n (pc := 102) hE 2 3 rfl rfl dX11_day_102 ?_
        refine z_aload_n (pc := 103) hE 0 0 rfl rfl dX11_day_103 ?_
        refine z_getr (pc := 104) hE fk_RX11_73 lX_0 rfl dX11_day_104 ?_
        refine z_geti (pc := 107) hE fk_RX11_255 lX_58 rfl dX11_day_107 (fun x15 => ?_)
        refine z_join (Y := Int64) (pcJ := 118) (Lj := fun y16 => [(0, .ref (ad 0)), (2, .int x6), (3, .int e10)]) (sj := fun y16 => [.long y16, .ref (ad 0)]) (fun y16 => ?_) (fun j17 hj17 => ?_)
        · refine z_aload_n (pc := 118) hE 0 0 rfl rfl dX11_day_118 ?_
          refine z_getr (pc := 119) hE fk_RX11_42 lX_0 rfl dX11_day_119 ?_
          refine z_iconst (pc := 122) hE dX11_day_122 q_iconst_3 ?_
          refine z_callVi (pc := 123) (st := [.long y16, .ref (ad 0)]) [.int ((3 : Int32))] hE kk_RX11_247 (c_X3_those 20 zfk_20 ((3 : Int32))) lX_20 rfl rfl rfl (Nat.le_of_ble_eq_true rfl) (by decide) dX11_day_123 (fun x18 => ?_)
          refine z_callSi (pc := 126) (st := [.long y16, .ref (ad 0)]) [.int x18] hE kk_RX11_250 (c_J6_bitCount_0f7a4 x18) rfl rfl (Nat.le_of_ble_eq_true rfl) (by decide) dX11_day_126 (fun x19 => ?_)
          refine z_iload_n (pc := 129) hE 1 2 rfl rfl dX11_day_129 ?_
          refine z_isub (pc := 130) hE dX11_day_130 ?_
          refine z_i2l (pc := 131) hE dX11_day_131 ?_
          refine z_callVv (pc := 132) (st := []) [.long y16, .long ((x19 - x6).toInt64)] hE kk_RX11_242 (c_X11_tell y16 ((x19 - x6).toInt64)) lX_0 rfl rfl rfl (Nat.le_of_ble_eq_true rfl) (by decide) dX11_day_132 (fun x20 => ?_)
          refine z_iload_n (pc := 135) hE 2 3 rfl rfl dX11_day_135 ?_
          exact z_ireturn (pc := 136) hE hr dX11_day_136
        refine z_icmp_ge (pc := 110) hE 117 rfl dX11_day_110 ?_ ?_
        · refine z_lconst (v := (0 : Int64)) (pc := 117) hE dX11_day_117 (by decide) ?_
          exact z_sub [0, 1, 2] rfl (hj17 ((0 : Int64)))
        · refine z_lconst (v := (1 : Int64)) (pc := 113) hE dX11_day_113 (by decide) ?_
          refine z_goto (pc := 114) hE 118 rfl dX11_day_114 ?_
          exact z_sub [0, 1, 2] rfl (hj17 ((1 : Int64)))
      refine z_if_le (pc := 91) hE 101 rfl dX11_day_91 ?_ ?_
      · exact z_sub [0, 1, 2] rfl (hj14 ())
      · refine z_aload_n (pc := 94) hE 0 0 rfl rfl dX11_day_94 ?_
        refine z_getr (pc := 95) hE fk_RX11_52 lX_0 rfl dX11_day_95 ?_
        refine z_callVv (pc := 98) (st := []) [] hE kk_RX11_259 (c_X6_hold) lX_44 rfl rfl rfl (Nat.le_of_ble_eq_true rfl) (by decide) dX11_day_98 (fun x21 => ?_)
        exact z_sub [0, 1, 2] rfl (hj14 ())
  · refine z_aload_n (pc := 32) hE 1 0 rfl rfl dX11_day_32 ?_
    refine z_getr (pc := 33) hE fk_RX11_10 lX_0 rfl dX11_day_33 ?_
    refine z_callVi (pc := 36) (st := []) [] hE kk_RX11_114 (c_X8_fault) lX_1 rfl rfl rfl (Nat.le_of_ble_eq_true rfl) (by decide) dX11_day_36 (fun x22 => ?_)
    exact z_ireturn (pc := 39) hE hr dX11_day_39
set_option maxRecDepth 100000 in
set_option maxHeartbeats 4000000 in
theorem c_X11_undo {l : Launch} {ad : Nat → Nat} {ca : FieldType → ClassId} {D : va_G} {tt : Nat → Nat}  : zC l yX11_undo cX11_undo 1 (some .int) 2 layX ad ca D (xtX ad tt) [.ref (ad 0)] zvi (p_X11_undo) := by
  refine z_enter (by decide) (Nat.le_of_ble_eq_true rfl) (fun E hE hl0 hcD hr => ?_)
  have hE : zok layX ad (xtX ad tt) E cX11_undo 1 RX11 2 := hE
  show Z layX ad E 1 (zFin layX ad E zvi) 0 [(0, .ref (ad 0))] [] (p_X11_undo)
  unfold p_X11_undo
  refine z_aload_n (pc := 0) hE 0 0 rfl rfl dX11_undo_0 ?_
  refine z_getr (pc := 1) hE fk_RX11_52 lX_0 rfl dX11_undo_1 ?_
  refine z_aload_n (pc := 4) hE 0 0 rfl rfl dX11_undo_4 ?_
  refine z_getr (pc := 5) hE fk_RX11_42 lX_0 rfl dX11_undo_5 ?_
  refine z_callVi (pc := 8) (st := []) [.ref (ad 20)] hE kk_RX11_262 (c_X6_takeBack 20 zfk_20) lX_44 rfl rfl rfl (Nat.le_of_ble_eq_true rfl) (by decide) dX11_undo_8 (fun x1 => ?_)
  refine z_if_eq (pc := 11) hE 24 rfl dX11_undo_11 ?_ ?_
  · refine z_iconst (pc := 24) hE dX11_undo_24 q_iconst_m1 ?_
    exact z_ireturn (pc := 25) hE hr dX11_undo_25
  · refine z_aload_n (pc := 14) hE 0 0 rfl rfl dX11_undo_14 ?_
    refine z_getr (pc := 15) hE fk_RX11_52 lX_0 rfl dX11_undo_15 ?_
    refine z_geti (pc := 18) hE fk_RX11_266 lX_44 rfl dX11_undo_18 (fun x2 => ?_)
    refine z_goto (pc := 21) hE 25 rfl dX11_undo_21 ?_
    exact z_ireturn (pc := 25) hE hr dX11_undo_25
set_option maxRecDepth 100000 in
set_option maxHeartbeats 4000000 in
theorem c_X11_tellFirst {l : Launch} {ad : Nat → Nat} {ca : FieldType → ClassId} {D : va_G} {tt : Nat → Nat} (a1 : Int32) (a2 : Int32) (a3 : Int32) : zC l yX11_tellFirst cX11_tellFirst 4 none 2 layX ad ca D (xtX ad tt) [.ref (ad 0), .int a1, .int a2, .int a3] zvn (p_X11_tellFirst a1 a2 a3) := by
  refine z_enter (by decide) (Nat.le_of_ble_eq_true rfl) (fun E hE hl0 hcD hr => ?_)
  have hE : zok layX ad (xtX ad tt) E cX11_tellFirst 4 RX11 2 := hE
  show Z layX ad E 4 (zFin layX ad E zvn) 0 [(0, .ref (ad 0)), (1, .int a1), (2, .int a2), (3, .int a3)] [] (p_X11_tellFirst a1 a2 a3)
  unfold p_X11_tellFirst
  refine z_iload_n (pc := 0) hE 1 1 rfl rfl dX11_tellFirst_0 ?_
  refine z_iconst (pc := 1) hE dX11_tellFirst_1 q_iconst_1 ?_
  refine z_icmp_ne (pc := 2) hE 13 rfl dX11_tellFirst_2 ?_ ?_
  · exact z_return (pc := 13) hE hr dX11_tellFirst_13
  · refine z_aload_n (pc := 5) hE 0 0 rfl rfl dX11_tellFirst_5 ?_
    refine z_iload_n (pc := 6) hE 2 2 rfl rfl dX11_tellFirst_6 ?_
    refine z_i2l (pc := 7) hE dX11_tellFirst_7 ?_
    refine z_iload_n (pc := 8) hE 3 3 rfl rfl dX11_tellFirst_8 ?_
    refine z_i2l (pc := 9) hE dX11_tellFirst_9 ?_
    refine z_callVv (pc := 10) (st := []) [.long a2.toInt64, .long a3.toInt64] hE kk_RX11_242 (c_X11_tell a2.toInt64 a3.toInt64) lX_0 rfl rfl rfl (Nat.le_of_ble_eq_true rfl) (by decide) dX11_tellFirst_10 (fun x1 => ?_)
    exact z_return (pc := 13) hE hr dX11_tellFirst_13
set_option maxRecDepth 100000 in
set_option maxHeartbeats 4000000 in
theorem c_X11_touches {l : Launch} {ad : Nat → Nat} {ca : FieldType → ClassId} {D : va_G} {tt : Nat → Nat}  : zC l yX11_touches cX11_touches 4 (some .int) 3 layX ad ca D (xtX ad tt) [.ref (ad 0)] zvi (p_X11_touches) := by
  refine z_enter (by decide) (Nat.le_of_ble_eq_true rfl) (fun E hE hl0 hcD hr => ?_)
  have hE : zok layX ad (xtX ad tt) E cX11_touches 4 RX11 3 := hE
  show Z layX ad E 4 (zFin layX ad E zvi) 0 [(0, .ref (ad 0))] [] (p_X11_touches)
  unfold p_X11_touches
  refine z_aload_n (pc := 0) hE 0 0 rfl rfl dX11_touches_0 ?_
  refine z_getr (pc := 1) hE fk_RX11_59 lX_0 rfl dX11_touches_1 ?_
  refine z_iconst (pc := 4) hE dX11_touches_4 q_iconst_0 ?_
  refine z_puti (pc := 5) hE fk_RX11_288 lX_48 rfl dX11_touches_5 ?_
  refine z_iconst (pc := 8) hE dX11_touches_8 q_iconst_0 ?_
  refine z_istore_n (L' := [(1, .int ((0 : Int32))), (0, .ref (ad 0))]) (pc := 9) hE 1 rfl (by decide) rfl dX11_touches_9 ?_
  refine z_iconst (pc := 10) hE dX11_touches_10 q_iconst_0 ?_
  refine z_istore_n (L' := [(2, .int ((0 : Int32))), (1, .int ((0 : Int32))), (0, .ref (ad 0))]) (pc := 11) hE 2 rfl (by decide) rfl dX11_touches_11 ?_
  refine z_sub (L' := [(0, .ref (ad 0)), (1, .int ((0 : Int32))), (2, .int ((0 : Int32)))]) [2, 1, 0] rfl ?_
  refine z_loop (V := (Int32 × Int32)) (X := Int32) (hd := 12) (ex := 72) (Lh := fun v1 => [(0, .ref (ad 0)), (1, .int v1.1), (2, .int v1.2)]) (Lx := fun e4 => [(1, .int e4)]) (fun rc3 k2 hrc3 hk2 v1 => ?_) zNF ((0 : Int32), (0 : Int32)) _ (fun e4 => ?_)
  · unfold p_X11_touches_b12
    refine z_iload_n (pc := 12) hE 2 2 rfl rfl dX11_touches_12 ?_
    refine z_aload_n (pc := 13) hE 0 0 rfl rfl dX11_touches_13 ?_
    refine z_getr (pc := 14) hE fk_RX11_42 lX_0 rfl dX11_touches_14 ?_
    refine z_geti (pc := 17) hE fk_RX11_197 lX_20 rfl dX11_touches_17 (fun x5 => ?_)
    refine z_icmp_ge (pc := 20) hE 72 rfl dX11_touches_20 ?_ ?_
    · exact z_sub [1] rfl (hk2 v1.1)
    · refine z_iload_n (pc := 23) hE 2 2 rfl rfl dX11_touches_23 ?_
      refine z_iconst (pc := 24) hE dX11_touches_24 q_iconst_1 ?_
      refine z_iadd (pc := 25) hE dX11_touches_25 ?_
      refine z_istore_n (L' := [(3, .int (v1.2 + ((1 : Int32)))), (0, .ref (ad 0)), (1, .int v1.1), (2, .int v1.2)]) (pc := 26) hE 3 rfl (by decide) rfl dX11_touches_26 ?_
      refine z_sub (L' := [(0, .ref (ad 0)), (1, .int v1.1), (2, .int v1.2), (3, .int (v1.2 + ((1 : Int32))))]) [1, 2, 3, 0] rfl ?_
      refine z_loop (V := (Int32 × Int32)) (X := Int32) (hd := 27) (ex := 66) (Lh := fun v6 => [(0, .ref (ad 0)), (1, .int v6.1), (2, .int v1.2), (3, .int v6.2)]) (Lx := fun e9 => [(0, .ref (ad 0)), (1, .int e9), (2, .int v1.2)]) (fun rc8 k7 hrc8 hk7 v6 => ?_) zNF (v1.1, v1.2 + ((1 : Int32))) _ (fun e9 => ?_)
      · unfold p_X11_touches_b27
        refine z_iload_n (pc := 27) hE 3 3 rfl rfl dX11_touches_27 ?_
        refine z_aload_n (pc := 28) hE 0 0 rfl rfl dX11_touches_28 ?_
        refine z_getr (pc := 29) hE fk_RX11_42 lX_0 rfl dX11_touches_29 ?_
        refine z_geti (pc := 32) hE fk_RX11_197 lX_20 rfl dX11_touches_32 (fun x10 => ?_)
        refine z_icmp_ge (pc := 35) hE 66 rfl dX11_touches_35 ?_ ?_
        · exact z_sub [0, 1, 2] rfl (hk7 v6.1)
        · refine z_aload_n (pc := 38) hE 0 0 rfl rfl dX11_touches_38 ?_
          refine z_getr (pc := 39) hE fk_RX11_42 lX_0 rfl dX11_touches_39 ?_
          refine z_iload_n (pc := 42) hE 2 2 rfl rfl dX11_touches_42 ?_
          refine z_iload_n (pc := 43) hE 3 3 rfl rfl dX11_touches_43 ?_
          refine z_callVi (pc := 44) (st := []) [.int v1.2, .int v6.2] hE kk_RX11_289 (c_X3_doTouch 20 zfk_20 v1.2 v6.2) lX_20 rfl rfl rfl (Nat.le_of_ble_eq_true rfl) (by decide) dX11_touches_44 (fun x11 => ?_)
          refine z_join (Y := Int32) (pcJ := 60) (Lj := fun y12 => [(0, .ref (ad 0)), (1, .int y12), (2, .int v1.2), (3, .int v6.2)]) (sj := fun y12 => []) (fun y12 => ?_) (fun j13 hj13 => ?_)
          · refine z_iinc (L' := [(3, .int (v6.2 + (1 : Int32))), (0, .ref (ad 0)), (1, .int y12), (2, .int v1.2)]) (pc := 60) hE 3 rfl (zinc q_iconst_1) (by decide) rfl dX11_touches_60 ?_
            refine z_goto (pc := 63) hE 27 rfl dX11_touches_63 ?_
            exact z_sub [1, 2, 3, 0] rfl (hrc8 (y12, v6.2 + (1 : Int32)))
          refine z_if_eq (pc := 47) hE 60 rfl dX11_touches_47 ?_ ?_
          · exact z_sub [0, 1, 2, 3] rfl (hj13 v6.1)
          · refine z_iinc (L' := [(1, .int (v6.1 + (1 : Int32))), (0, .ref (ad 0)), (2, .int v1.2), (3, .int v6.2)]) (pc := 50) hE 1 rfl (zinc q_iconst_1) (by decide) rfl dX11_touches_50 ?_
            refine z_aload_n (pc := 53) hE 1 0 rfl rfl dX11_touches_53 ?_
            refine z_iload_n (pc := 54) hE 0 1 rfl rfl dX11_touches_54 ?_
            refine z_iload_n (pc := 55) hE 2 2 rfl rfl dX11_touches_55 ?_
            refine z_iload_n (pc := 56) hE 3 3 rfl rfl dX11_touches_56 ?_
            refine z_callVv (pc := 57) (st := []) [.int (v6.1 + (1 : Int32)), .int v1.2, .int v6.2] hE kk_RX11_293 (c_X11_tellFirst (v6.1 + (1 : Int32)) v1.2 v6.2) lX_0 rfl rfl rfl (Nat.le_of_ble_eq_true rfl) (by decide) dX11_touches_57 (fun x14 => ?_)
            exact z_sub [1, 0, 2, 3] rfl (hj13 (v6.1 + (1 : Int32)))
      · refine z_iinc (L' := [(2, .int (v1.2 + (1 : Int32))), (0, .ref (ad 0)), (1, .int e9)]) (pc := 66) hE 2 rfl (zinc q_iconst_1) (by decide) rfl dX11_touches_66 ?_
        refine z_goto (pc := 69) hE 12 rfl dX11_touches_69 ?_
        exact z_sub [1, 2, 0] rfl (hrc3 (e9, v1.2 + (1 : Int32)))
  · refine z_iload_n (pc := 72) hE 0 1 rfl rfl dX11_touches_72 ?_
    exact z_ireturn (pc := 73) hE hr dX11_touches_73
set_option maxRecDepth 100000 in
set_option maxHeartbeats 4000000 in
theorem c_X11_breaches {l : Launch} {ad : Nat → Nat} {ca : FieldType → ClassId} {D : va_G} {tt : Nat → Nat}  : zC l yX11_breaches cX11_breaches 4 (some .int) 3 layX ad ca D (xtX ad tt) [.ref (ad 0)] zvi (p_X11_breaches) := by
  refine z_enter (by decide) (Nat.le_of_ble_eq_true rfl) (fun E hE hl0 hcD hr => ?_)
  have hE : zok layX ad (xtX ad tt) E cX11_breaches 4 RX11 3 := hE
  show Z layX ad E 4 (zFin layX ad E zvi) 0 [(0, .ref (ad 0))] [] (p_X11_breaches)
  unfold p_X11_breaches
  refine z_aload_n (pc := 0) hE 0 0 rfl rfl dX11_breaches_0 ?_
  refine z_getr (pc := 1) hE fk_RX11_59 lX_0 rfl dX11_breaches_1 ?_
  refine z_iconst (pc := 4) hE dX11_breaches_4 q_iconst_0 ?_
  refine z_puti (pc := 5) hE fk_RX11_288 lX_48 rfl dX11_breaches_5 ?_
  refine z_iconst (pc := 8) hE dX11_breaches_8 q_iconst_0 ?_
  refine z_istore_n (L' := [(1, .int ((0 : Int32))), (0, .ref (ad 0))]) (pc := 9) hE 1 rfl (by decide) rfl dX11_breaches_9 ?_
  refine z_iconst (pc := 10) hE dX11_breaches_10 q_iconst_0 ?_
  refine z_istore_n (L' := [(2, .int ((0 : Int32))), (1, .int ((0 : Int32))), (0, .ref (ad 0))]) (pc := 11) hE 2 rfl (by decide) rfl dX11_breaches_11 ?_
  refine z_sub (L' := [(0, .ref (ad 0)), (1, .int ((0 : Int32))), (2, .int ((0 : Int32)))]) [2, 1, 0] rfl ?_
  refine z_loop (V := (Int32 × Int32)) (X := Int32) (hd := 12) (ex := 70) (Lh := fun v1 => [(0, .ref (ad 0)), (1, .int v1.1), (2, .int v1.2)]) (Lx := fun e4 => [(1, .int e4)]) (fun rc3 k2 hrc3 hk2 v1 => ?_) zNF ((0 : Int32), (0 : Int32)) _ (fun e4 => ?_)
  · unfold p_X11_breaches_b12
    refine z_iload_n (pc := 12) hE 2 2 rfl rfl dX11_breaches_12 ?_
    refine z_aload_n (pc := 13) hE 0 0 rfl rfl dX11_breaches_13 ?_
    refine z_getr (pc := 14) hE fk_RX11_42 lX_0 rfl dX11_breaches_14 ?_
    refine z_geti (pc := 17) hE fk_RX11_197 lX_20 rfl dX11_breaches_17 (fun x5 => ?_)
    refine z_icmp_ge (pc := 20) hE 70 rfl dX11_breaches_20 ?_ ?_
    · exact z_sub [1] rfl (hk2 v1.1)
    · refine z_iconst (pc := 23) hE dX11_breaches_23 q_iconst_0 ?_
      refine z_istore_n (L' := [(3, .int ((0 : Int32))), (0, .ref (ad 0)), (1, .int v1.1), (2, .int v1.2)]) (pc := 24) hE 3 rfl (by decide) rfl dX11_breaches_24 ?_
      refine z_sub (L' := [(0, .ref (ad 0)), (1, .int v1.1), (2, .int v1.2), (3, .int ((0 : Int32)))]) [1, 2, 3, 0] rfl ?_
      refine z_loop (V := (Int32 × Int32)) (X := Int32) (hd := 25) (ex := 64) (Lh := fun v6 => [(0, .ref (ad 0)), (1, .int v6.1), (2, .int v1.2), (3, .int v6.2)]) (Lx := fun e9 => [(0, .ref (ad 0)), (1, .int e9), (2, .int v1.2)]) (fun rc8 k7 hrc8 hk7 v6 => ?_) zNF (v1.1, (0 : Int32)) _ (fun e9 => ?_)
      · unfold p_X11_breaches_b25
        refine z_iload_n (pc := 25) hE 3 3 rfl rfl dX11_breaches_25 ?_
        refine z_aload_n (pc := 26) hE 0 0 rfl rfl dX11_breaches_26 ?_
        refine z_getr (pc := 27) hE fk_RX11_42 lX_0 rfl dX11_breaches_27 ?_
        refine z_geti (pc := 30) hE fk_RX11_197 lX_20 rfl dX11_breaches_30 (fun x10 => ?_)
        refine z_icmp_ge (pc := 33) hE 64 rfl dX11_breaches_33 ?_ ?_
        · exact z_sub [0, 1, 2] rfl (hk7 v6.1)
        · refine z_aload_n (pc := 36) hE 0 0 rfl rfl dX11_breaches_36 ?_
          refine z_getr (pc := 37) hE fk_RX11_42 lX_0 rfl dX11_breaches_37 ?_
          refine z_iload_n (pc := 40) hE 2 2 rfl rfl dX11_breaches_40 ?_
          refine z_iload_n (pc := 41) hE 3 3 rfl rfl dX11_breaches_41 ?_
          refine z_callVi (pc := 42) (st := []) [.int v1.2, .int v6.2] hE kk_RX11_297 (c_X3_doesBreach 20 zfk_20 v1.2 v6.2) lX_20 rfl rfl rfl (Nat.le_of_ble_eq_true rfl) (by decide) dX11_breaches_42 (fun x11 => ?_)
          refine z_join (Y := Int32) (pcJ := 58) (Lj := fun y12 => [(0, .ref (ad 0)), (1, .int y12), (2, .int v1.2), (3, .int v6.2)]) (sj := fun y12 => []) (fun y12 => ?_) (fun j13 hj13 => ?_)
          · refine z_iinc (L' := [(3, .int (v6.2 + (1 : Int32))), (0, .ref (ad 0)), (1, .int y12), (2, .int v1.2)]) (pc := 58) hE 3 rfl (zinc q_iconst_1) (by decide) rfl dX11_breaches_58 ?_
            refine z_goto (pc := 61) hE 25 rfl dX11_breaches_61 ?_
            exact z_sub [1, 2, 3, 0] rfl (hrc8 (y12, v6.2 + (1 : Int32)))
          refine z_if_eq (pc := 45) hE 58 rfl dX11_breaches_45 ?_ ?_
          · exact z_sub [0, 1, 2, 3] rfl (hj13 v6.1)
          · refine z_iinc (L' := [(1, .int (v6.1 + (1 : Int32))), (0, .ref (ad 0)), (2, .int v1.2), (3, .int v6.2)]) (pc := 48) hE 1 rfl (zinc q_iconst_1) (by decide) rfl dX11_breaches_48 ?_
            refine z_aload_n (pc := 51) hE 1 0 rfl rfl dX11_breaches_51 ?_
            refine z_iload_n (pc := 52) hE 0 1 rfl rfl dX11_breaches_52 ?_
            refine z_iload_n (pc := 53) hE 2 2 rfl rfl dX11_breaches_53 ?_
            refine z_iload_n (pc := 54) hE 3 3 rfl rfl dX11_breaches_54 ?_
            refine z_callVv (pc := 55) (st := []) [.int (v6.1 + (1 : Int32)), .int v1.2, .int v6.2] hE kk_RX11_293 (c_X11_tellFirst (v6.1 + (1 : Int32)) v1.2 v6.2) lX_0 rfl rfl rfl (Nat.le_of_ble_eq_true rfl) (by decide) dX11_breaches_55 (fun x14 => ?_)
            exact z_sub [1, 0, 2, 3] rfl (hj13 (v6.1 + (1 : Int32)))
      · refine z_iinc (L' := [(2, .int (v1.2 + (1 : Int32))), (0, .ref (ad 0)), (1, .int e9)]) (pc := 64) hE 2 rfl (zinc q_iconst_1) (by decide) rfl dX11_breaches_64 ?_
        refine z_goto (pc := 67) hE 12 rfl dX11_breaches_67 ?_
        exact z_sub [1, 2, 0] rfl (hrc3 (e9, v1.2 + (1 : Int32)))
  · refine z_iload_n (pc := 70) hE 0 1 rfl rfl dX11_breaches_70 ?_
    exact z_ireturn (pc := 71) hE hr dX11_breaches_71
set_option maxRecDepth 100000 in
set_option maxHeartbeats 4000000 in
theorem c_X11_drifts {l : Launch} {ad : Nat → Nat} {ca : FieldType → ClassId} {D : va_G} {tt : Nat → Nat} (a1 : Int32) (a2 : Int32) : zC l yX11_drifts cX11_drifts 4 (some .int) 6 layX ad ca D (xtX ad tt) [.ref (ad 0), .int a1, .int a2] zvi (p_X11_drifts a1 a2) := by
  refine z_enter (by decide) (Nat.le_of_ble_eq_true rfl) (fun E hE hl0 hcD hr => ?_)
  have hE : zok layX ad (xtX ad tt) E cX11_drifts 4 RX11 6 := hE
  show Z layX ad E 4 (zFin layX ad E zvi) 0 [(0, .ref (ad 0)), (1, .int a1), (2, .int a2)] [] (p_X11_drifts a1 a2)
  unfold p_X11_drifts
  refine z_aload_n (pc := 0) hE 0 0 rfl rfl dX11_drifts_0 ?_
  refine z_getr (pc := 1) hE fk_RX11_42 lX_0 rfl dX11_drifts_1 ?_
  refine z_iload_n (pc := 4) hE 1 1 rfl rfl dX11_drifts_4 ?_
  refine z_callVi (pc := 5) (st := []) [.int a1] hE kk_RX11_160 (c_X3_has 20 zfk_20 a1) lX_20 rfl rfl rfl (Nat.le_of_ble_eq_true rfl) (by decide) dX11_drifts_5 (fun x1 => ?_)
  refine z_if_eq (pc := 8) hE 21 rfl dX11_drifts_8 ?_ ?_
  · refine z_iconst (pc := 21) hE dX11_drifts_21 q_iconst_m1 ?_
    exact z_ireturn (pc := 22) hE hr dX11_drifts_22
  · refine z_iload_n (pc := 11) hE 2 2 rfl rfl dX11_drifts_11 ?_
    refine z_if_lt (pc := 12) hE 21 rfl dX11_drifts_12 ?_ ?_
    · refine z_iconst (pc := 21) hE dX11_drifts_21 q_iconst_m1 ?_
      exact z_ireturn (pc := 22) hE hr dX11_drifts_22
    · refine z_iload_n (pc := 15) hE 2 2 rfl rfl dX11_drifts_15 ?_
      refine z_bipush (pc := 16) hE dX11_drifts_16 q_bipush_60 ?_
      refine z_icmp_le (pc := 18) hE 23 rfl dX11_drifts_18 ?_ ?_
      · refine z_aload_n (pc := 23) hE 0 0 rfl rfl dX11_drifts_23 ?_
        refine z_getr (pc := 24) hE fk_RX11_46 lX_0 rfl dX11_drifts_24 ?_
        refine z_aload_n (pc := 27) hE 0 0 rfl rfl dX11_drifts_27 ?_
        refine z_getr (pc := 28) hE fk_RX11_42 lX_0 rfl dX11_drifts_28 ?_
        refine z_callVv (pc := 31) (st := []) [.ref (ad 20)] hE kk_RX11_300 (c_X3_become 32 zfk_32 20 zfk_20) lX_32 rfl rfl rfl (Nat.le_of_ble_eq_true rfl) (by decide) dX11_drifts_31 (fun x2 => ?_)
        refine z_aload_n (pc := 34) hE 0 0 rfl rfl dX11_drifts_34 ?_
        refine z_getr (pc := 35) hE fk_RX11_46 lX_0 rfl dX11_drifts_35 ?_
        refine z_iload_n (pc := 38) hE 2 2 rfl rfl dX11_drifts_38 ?_
        refine z_callVi (pc := 39) (st := []) [.int a2] hE kk_RX11_233 (c_X3_passHours 32 zfk_32 a2) lX_32 rfl rfl rfl (Nat.le_of_ble_eq_true rfl) (by decide) dX11_drifts_39 (fun x3 => ?_)
        refine z_pop (pc := 42) hE dX11_drifts_42 rfl ?_
        refine z_aload_n (pc := 43) hE 0 0 rfl rfl dX11_drifts_43 ?_
        refine z_getr (pc := 44) hE fk_RX11_46 lX_0 rfl dX11_drifts_44 ?_
        refine z_getr (pc := 47) hE fk_RX11_185 lX_32 rfl dX11_drifts_47 ?_
        refine z_iload_n (pc := 50) hE 1 1 rfl rfl dX11_drifts_50 ?_
        refine z_iald (pc := 51) hE lX_40 dX11_drifts_51 (fun x4 => ?_)
        refine z_istore_n (L' := [(3, .int x4), (0, .ref (ad 0)), (1, .int a1), (2, .int a2)]) (pc := 52) hE 3 rfl (by decide) rfl dX11_drifts_52 ?_
        refine z_aload_n (pc := 53) hE 1 0 rfl rfl dX11_drifts_53 ?_
        refine z_aload_n (pc := 54) hE 1 0 rfl rfl dX11_drifts_54 ?_
        refine z_getr (pc := 55) hE fk_RX11_46 lX_0 rfl dX11_drifts_55 ?_
        refine z_getr (pc := 58) hE fk_RX11_161 lX_32 rfl dX11_drifts_58 ?_
        refine z_iload_n (pc := 61) hE 2 1 rfl rfl dX11_drifts_61 ?_
        refine z_iald (pc := 62) hE lX_35 dX11_drifts_62 (fun x5 => ?_)
        refine z_i2l (pc := 63) hE dX11_drifts_63 ?_
        refine z_iload_n (pc := 64) hE 0 3 rfl rfl dX11_drifts_64 ?_
        refine z_iconst (pc := 65) hE dX11_drifts_65 q_iconst_2 ?_
        refine z_join (Y := Int64) (pcJ := 90) (Lj := fun y6 => [(3, .int x4)]) (sj := fun y6 => [.long y6, .long x5.toInt64, .ref (ad 0)]) (fun y6 => ?_) (fun j7 hj7 => ?_)
        · refine z_callVv (pc := 90) (st := []) [.long x5.toInt64, .long y6] hE kk_RX11_242 (c_X11_tell x5.toInt64 y6) lX_0 rfl rfl rfl (Nat.le_of_ble_eq_true rfl) (by decide) dX11_drifts_90 (fun x8 => ?_)
          refine z_iload_n (pc := 93) hE 0 3 rfl rfl dX11_drifts_93 ?_
          exact z_ireturn (pc := 94) hE hr dX11_drifts_94
        refine z_icmp_ne (pc := 66) hE 81 rfl dX11_drifts_66 ?_ ?_
        · refine z_aload_n (pc := 81) hE 1 0 rfl rfl dX11_drifts_81 ?_
          refine z_getr (pc := 82) hE fk_RX11_46 lX_0 rfl dX11_drifts_82 ?_
          refine z_iload_n (pc := 85) hE 2 1 rfl rfl dX11_drifts_85 ?_
          refine z_callVi (pc := 86) (st := [.long x5.toInt64, .ref (ad 0)]) [.int a1] hE kk_RX11_191 (c_X3_cellOf 32 zfk_32 a1) lX_32 rfl rfl rfl (Nat.le_of_ble_eq_true rfl) (by decide) dX11_drifts_86 (fun x9 => ?_)
          refine z_i2l (pc := 89) hE dX11_drifts_89 ?_
          exact z_sub [0] rfl (hj7 x9.toInt64)
        · refine z_aload_n (pc := 69) hE 1 0 rfl rfl dX11_drifts_69 ?_
          refine z_getr (pc := 70) hE fk_RX11_46 lX_0 rfl dX11_drifts_70 ?_
          refine z_iload_n (pc := 73) hE 2 1 rfl rfl dX11_drifts_73 ?_
          refine z_callVi (pc := 74) (st := [.long x5.toInt64, .ref (ad 0)]) [.int a1] hE kk_RX11_188 (c_X3_ringOf 32 zfk_32 a1) lX_32 rfl rfl rfl (Nat.le_of_ble_eq_true rfl) (by decide) dX11_drifts_74 (fun x10 => ?_)
          refine z_i2l (pc := 77) hE dX11_drifts_77 ?_
          refine z_goto (pc := 78) hE 90 rfl dX11_drifts_78 ?_
          exact z_sub [0] rfl (hj7 x10.toInt64)
      · refine z_iconst (pc := 21) hE dX11_drifts_21 q_iconst_m1 ?_
        exact z_ireturn (pc := 22) hE hr dX11_drifts_22
set_option maxRecDepth 100000 in
set_option maxHeartbeats 4000000 in
theorem c_X11_sinks {l : Launch} {ad : Nat → Nat} {ca : FieldType → ClassId} {D : va_G} {tt : Nat → Nat} (a1 : Int32) : zC l yX11_sinks cX11_sinks 3 (some .int) 6 layX ad ca D (xtX ad tt) [.ref (ad 0), .int a1] zvi (p_X11_sinks a1) := by
  refine z_enter (by decide) (Nat.le_of_ble_eq_true rfl) (fun E hE hl0 hcD hr => ?_)
  have hE : zok layX ad (xtX ad tt) E cX11_sinks 3 RX11 6 := hE
  show Z layX ad E 3 (zFin layX ad E zvi) 0 [(0, .ref (ad 0)), (1, .int a1)] [] (p_X11_sinks a1)
  unfold p_X11_sinks
  refine z_aload_n (pc := 0) hE 0 0 rfl rfl dX11_sinks_0 ?_
  refine z_getr (pc := 1) hE fk_RX11_42 lX_0 rfl dX11_sinks_1 ?_
  refine z_iload_n (pc := 4) hE 1 1 rfl rfl dX11_sinks_4 ?_
  refine z_callVi (pc := 5) (st := []) [.int a1] hE kk_RX11_160 (c_X3_has 20 zfk_20 a1) lX_20 rfl rfl rfl (Nat.le_of_ble_eq_true rfl) (by decide) dX11_sinks_5 (fun x1 => ?_)
  refine z_if_ne (pc := 8) hE 13 rfl dX11_sinks_8 ?_ ?_
  · refine z_aload_n (pc := 13) hE 0 0 rfl rfl dX11_sinks_13 ?_
    refine z_getr (pc := 14) hE fk_RX11_42 lX_0 rfl dX11_sinks_14 ?_
    refine z_iload_n (pc := 17) hE 1 1 rfl rfl dX11_sinks_17 ?_
    refine z_callVi (pc := 18) (st := []) [.int a1] hE kk_RX11_303 (c_X3_isUp 20 zfk_20 a1) lX_20 rfl rfl rfl (Nat.le_of_ble_eq_true rfl) (by decide) dX11_sinks_18 (fun x2 => ?_)
    refine z_if_ne (pc := 21) hE 27 rfl dX11_sinks_21 ?_ ?_
    · refine z_aload_n (pc := 27) hE 0 0 rfl rfl dX11_sinks_27 ?_
      refine z_getr (pc := 28) hE fk_RX11_46 lX_0 rfl dX11_sinks_28 ?_
      refine z_aload_n (pc := 31) hE 0 0 rfl rfl dX11_sinks_31 ?_
      refine z_getr (pc := 32) hE fk_RX11_42 lX_0 rfl dX11_sinks_32 ?_
      refine z_callVv (pc := 35) (st := []) [.ref (ad 20)] hE kk_RX11_300 (c_X3_become 32 zfk_32 20 zfk_20) lX_32 rfl rfl rfl (Nat.le_of_ble_eq_true rfl) (by decide) dX11_sinks_35 (fun x3 => ?_)
      refine z_iconst (pc := 38) hE dX11_sinks_38 q_iconst_1 ?_
      refine z_istore_n (L' := [(2, .int ((1 : Int32))), (0, .ref (ad 0)), (1, .int a1)]) (pc := 39) hE 2 rfl (by decide) rfl dX11_sinks_39 ?_
      refine z_sub (L' := [(0, .ref (ad 0)), (1, .int a1), (2, .int ((1 : Int32)))]) [1, 2, 0] rfl ?_
      refine z_loop (V := Int32) (X := Int32) (hd := 40) (ex := 66) (Lh := fun v4 => [(0, .ref (ad 0)), (1, .int a1), (2, .int v4)]) (Lx := fun e7 => [(0, .ref (ad 0)), (1, .int a1), (2, .int e7)]) (fun rc6 k5 hrc6 hk5 v4 => ?_) zNF ((1 : Int32)) _ (fun e7 => ?_)
      · unfold p_X11_sinks_b40
        refine z_iload_n (pc := 40) hE 2 2 rfl rfl dX11_sinks_40 ?_
        refine z_bipush (pc := 41) hE dX11_sinks_41 q_bipush_99 ?_
        refine z_icmp_gt (pc := 43) hE 99 rfl dX11_sinks_43 ?_ ?_
        · refine z_bipush (pc := 99) hE dX11_sinks_99 q_bipush_m2 ?_
          exact z_ireturn (pc := 101) hE hr dX11_sinks_101
        · refine z_aload_n (pc := 46) hE 0 0 rfl rfl dX11_sinks_46 ?_
          refine z_getr (pc := 47) hE fk_RX11_46 lX_0 rfl dX11_sinks_47 ?_
          refine z_iconst (pc := 50) hE dX11_sinks_50 q_iconst_1 ?_
          refine z_callVi (pc := 51) (st := []) [.int ((1 : Int32))] hE kk_RX11_233 (c_X3_passHours 32 zfk_32 ((1 : Int32))) lX_32 rfl rfl rfl (Nat.le_of_ble_eq_true rfl) (by decide) dX11_sinks_51 (fun x8 => ?_)
          refine z_pop (pc := 54) hE dX11_sinks_54 rfl ?_
          refine z_aload_n (pc := 55) hE 0 0 rfl rfl dX11_sinks_55 ?_
          refine z_getr (pc := 56) hE fk_RX11_46 lX_0 rfl dX11_sinks_56 ?_
          refine z_iload_n (pc := 59) hE 1 1 rfl rfl dX11_sinks_59 ?_
          refine z_callVi (pc := 60) (st := []) [.int a1] hE kk_RX11_303 (c_X3_isUp 32 zfk_32 a1) lX_32 rfl rfl rfl (Nat.le_of_ble_eq_true rfl) (by decide) dX11_sinks_60 (fun x9 => ?_)
          refine z_if_ne (pc := 63) hE 93 rfl dX11_sinks_63 ?_ ?_
          · refine z_iinc (L' := [(2, .int (v4 + (1 : Int32))), (0, .ref (ad 0)), (1, .int a1)]) (pc := 93) hE 2 rfl (zinc q_iconst_1) (by decide) rfl dX11_sinks_93 ?_
            refine z_goto (pc := 96) hE 40 rfl dX11_sinks_96 ?_
            exact z_sub [1, 2, 0] rfl (hrc6 (v4 + (1 : Int32)))
          · exact z_sub [0, 1, 2] rfl (hk5 v4)
      · refine z_aload_n (pc := 66) hE 0 0 rfl rfl dX11_sinks_66 ?_
        refine z_getr (pc := 67) hE fk_RX11_59 lX_0 rfl dX11_sinks_67 ?_
        refine z_iconst (pc := 70) hE dX11_sinks_70 q_iconst_0 ?_
        refine z_puti (pc := 71) hE fk_RX11_288 lX_48 rfl dX11_sinks_71 ?_
        refine z_aload_n (pc := 74) hE 0 0 rfl rfl dX11_sinks_74 ?_
        refine z_getr (pc := 75) hE fk_RX11_59 lX_0 rfl dX11_sinks_75 ?_
        refine z_aload_n (pc := 78) hE 0 0 rfl rfl dX11_sinks_78 ?_
        refine z_getr (pc := 79) hE fk_RX11_46 lX_0 rfl dX11_sinks_79 ?_
        refine z_getr (pc := 82) hE fk_RX11_185 lX_32 rfl dX11_sinks_82 ?_
        refine z_iload_n (pc := 85) hE 1 1 rfl rfl dX11_sinks_85 ?_
        refine z_iald (pc := 86) hE lX_40 dX11_sinks_86 (fun x10 => ?_)
        refine z_i2l (pc := 87) hE dX11_sinks_87 ?_
        refine z_callVv (pc := 88) (st := []) [.long x10.toInt64] hE kk_RX11_306 (c_X1_add x10.toInt64) lX_48 rfl rfl rfl (Nat.le_of_ble_eq_true rfl) (by decide) dX11_sinks_88 (fun x11 => ?_)
        refine z_iload_n (pc := 91) hE 2 2 rfl rfl dX11_sinks_91 ?_
        exact z_ireturn (pc := 92) hE hr dX11_sinks_92
    · refine z_bipush (pc := 24) hE dX11_sinks_24 q_bipush_m3 ?_
      exact z_ireturn (pc := 26) hE hr dX11_sinks_26
  · refine z_iconst (pc := 11) hE dX11_sinks_11 q_iconst_m1 ?_
    exact z_ireturn (pc := 12) hE hr dX11_sinks_12
set_option maxRecDepth 100000 in
set_option maxHeartbeats 4000000 in
theorem c_X11_rises {l : Launch} {ad : Nat → Nat} {ca : FieldType → ClassId} {D : va_G} {tt : Nat → Nat} (a1 : Int32) (a2 : Int32) : zC l yX11_rises cX11_rises 6 (some .int) 3 layX ad ca D (xtX ad tt) [.ref (ad 0), .int a1, .int a2] zvi (p_X11_rises a1 a2) := by
  refine z_enter (by decide) (Nat.le_of_ble_eq_true rfl) (fun E hE hl0 hcD hr => ?_)
  have hE : zok layX ad (xtX ad tt) E cX11_rises 6 RX11 3 := hE
  show Z layX ad E 6 (zFin layX ad E zvi) 0 [(0, .ref (ad 0)), (1, .int a1), (2, .int a2)] [] (p_X11_rises a1 a2)
  unfold p_X11_rises
  refine z_aload_n (pc := 0) hE 0 0 rfl rfl dX11_rises_0 ?_
  refine z_getr (pc := 1) hE fk_RX11_42 lX_0 rfl dX11_rises_1 ?_
  refine z_iload_n (pc := 4) hE 1 1 rfl rfl dX11_rises_4 ?_
  refine z_callVi (pc := 5) (st := []) [.int a1] hE kk_RX11_160 (c_X3_has 20 zfk_20 a1) lX_20 rfl rfl rfl (Nat.le_of_ble_eq_true rfl) (by decide) dX11_rises_5 (fun x1 => ?_)
  refine z_if_eq (pc := 8) hE 21 rfl dX11_rises_8 ?_ ?_
  · refine z_iconst (pc := 21) hE dX11_rises_21 q_iconst_m1 ?_
    exact z_ireturn (pc := 22) hE hr dX11_rises_22
  · refine z_iload_n (pc := 11) hE 2 2 rfl rfl dX11_rises_11 ?_
    refine z_if_lt (pc := 12) hE 21 rfl dX11_rises_12 ?_ ?_
    · refine z_iconst (pc := 21) hE dX11_rises_21 q_iconst_m1 ?_
      exact z_ireturn (pc := 22) hE hr dX11_rises_22
    · refine z_iload_n (pc := 15) hE 2 2 rfl rfl dX11_rises_15 ?_
      refine z_bipush (pc := 16) hE dX11_rises_16 q_bipush_10 ?_
      refine z_icmp_lt (pc := 18) hE 23 rfl dX11_rises_18 ?_ ?_
      · refine z_aload_n (pc := 23) hE 0 0 rfl rfl dX11_rises_23 ?_
        refine z_getr (pc := 24) hE fk_RX11_42 lX_0 rfl dX11_rises_24 ?_
        refine z_getr (pc := 27) hE fk_RX11_185 lX_20 rfl dX11_rises_27 ?_
        refine z_iload_n (pc := 30) hE 1 1 rfl rfl dX11_rises_30 ?_
        refine z_iald (pc := 31) hE lX_28 dX11_rises_31 (fun x2 => ?_)
        refine z_iconst (pc := 32) hE dX11_rises_32 q_iconst_3 ?_
        refine z_icmp_ne (pc := 33) hE 39 rfl dX11_rises_33 ?_ ?_
        · refine z_aload_n (pc := 39) hE 0 0 rfl rfl dX11_rises_39 ?_
          refine z_getr (pc := 40) hE fk_RX11_42 lX_0 rfl dX11_rises_40 ?_
          refine z_getr (pc := 43) hE fk_RX11_164 lX_20 rfl dX11_rises_43 ?_
          refine z_iload_n (pc := 46) hE 1 1 rfl rfl dX11_rises_46 ?_
          refine z_iald (pc := 47) hE lX_24 dX11_rises_47 (fun x3 => ?_)
          refine z_istore_n (L' := [(3, .int x3), (0, .ref (ad 0)), (1, .int a1), (2, .int a2)]) (pc := 48) hE 3 rfl (by decide) rfl dX11_rises_48 ?_
          refine z_iconst (pc := 49) hE dX11_rises_49 q_iconst_0 ?_
          refine z_istore (L' := [(4, .int ((0 : Int32))), (3, .int x3), (0, .ref (ad 0)), (1, .int a1), (2, .int a2)]) (pc := 50) hE (by decide) rfl dX11_rises_50 ?_
          refine z_sub (L' := [(0, .ref (ad 0)), (1, .int a1), (2, .int a2), (3, .int x3), (4, .int ((0 : Int32)))]) [2, 3, 4, 1, 0] rfl ?_
          refine z_loop (V := Int32) (X := (Int32 × Int32)) (hd := 52) (ex := 91) (Lh := fun v4 => [(0, .ref (ad 0)), (1, .int a1), (2, .int a2), (3, .int x3), (4, .int v4)]) (Lx := fun e7 => [(0, .ref (ad 0)), (4, .int e7.1), (5, .int e7.2)]) (fun rc6 k5 hrc6 hk5 v4 => ?_) zNF ((0 : Int32)) _ (fun e7 => ?_)
          · unfold p_X11_rises_b52
            refine z_iload (pc := 52) hE 4 rfl dX11_rises_52 ?_
            refine z_iload_n (pc := 54) hE 3 3 rfl rfl dX11_rises_54 ?_
            refine z_icmp_gt (pc := 55) hE 118 rfl dX11_rises_55 ?_ ?_
            · refine z_bipush (pc := 118) hE dX11_rises_118 q_bipush_m2 ?_
              exact z_ireturn (pc := 120) hE hr dX11_rises_120
            · refine z_aload_n (pc := 58) hE 0 0 rfl rfl dX11_rises_58 ?_
              refine z_getr (pc := 59) hE fk_RX11_42 lX_0 rfl dX11_rises_59 ?_
              refine z_iload_n (pc := 62) hE 1 1 rfl rfl dX11_rises_62 ?_
              refine z_aload_n (pc := 63) hE 0 0 rfl rfl dX11_rises_63 ?_
              refine z_getr (pc := 64) hE fk_RX11_42 lX_0 rfl dX11_rises_64 ?_
              refine z_getr (pc := 67) hE fk_RX11_161 lX_20 rfl dX11_rises_67 ?_
              refine z_iload_n (pc := 70) hE 1 1 rfl rfl dX11_rises_70 ?_
              refine z_iald (pc := 71) hE lX_23 dX11_rises_71 (fun x8 => ?_)
              refine z_iload_n (pc := 72) hE 3 3 rfl rfl dX11_rises_72 ?_
              refine z_iload (pc := 73) hE 4 rfl dX11_rises_73 ?_
              refine z_isub (pc := 75) hE dX11_rises_75 ?_
              refine z_iconst (pc := 76) hE dX11_rises_76 q_iconst_0 ?_
              refine z_callVi (pc := 77) (st := []) [.int a1, .int x8, .int (x3 - v4), .int ((0 : Int32))] hE kk_RX11_310 (c_X3_liftAs 20 zfk_20 a1 x8 (x3 - v4) ((0 : Int32))) lX_20 rfl rfl rfl (Nat.le_of_ble_eq_true rfl) (by decide) dX11_rises_77 (fun x9 => ?_)
              refine z_callSi (pc := 80) (st := []) [.int x9] hE kk_RX11_182 (c_X11_highBy x9) rfl rfl (Nat.le_of_ble_eq_true rfl) (by decide) dX11_rises_80 (fun x10 => ?_)
              refine z_istore (L' := [(5, .int x10), (0, .ref (ad 0)), (1, .int a1), (2, .int a2), (3, .int x3), (4, .int v4)]) (pc := 83) hE (by decide) rfl dX11_rises_83 ?_
              refine z_iload (pc := 85) hE 0 rfl dX11_rises_85 ?_
              refine z_iload_n (pc := 87) hE 3 2 rfl rfl dX11_rises_87 ?_
              refine z_icmp_lt (pc := 88) hE 112 rfl dX11_rises_88 ?_ ?_
              · refine z_iinc (L' := [(4, .int (v4 + (1 : Int32))), (5, .int x10), (0, .ref (ad 0)), (1, .int a1), (2, .int a2), (3, .int x3)]) (pc := 112) hE 5 rfl (zinc q_iconst_1) (by decide) rfl dX11_rises_112 ?_
                refine z_goto (pc := 115) hE 52 rfl dX11_rises_115 ?_
                exact z_sub [2, 3, 4, 5, 0] rfl (hrc6 (v4 + (1 : Int32)))
              · exact z_sub [1, 5, 0] rfl (hk5 (v4, x10))
          · refine z_aload_n (pc := 91) hE 0 0 rfl rfl dX11_rises_91 ?_
            refine z_getr (pc := 92) hE fk_RX11_59 lX_0 rfl dX11_rises_92 ?_
            refine z_iconst (pc := 95) hE dX11_rises_95 q_iconst_0 ?_
            refine z_puti (pc := 96) hE fk_RX11_288 lX_48 rfl dX11_rises_96 ?_
            refine z_aload_n (pc := 99) hE 0 0 rfl rfl dX11_rises_99 ?_
            refine z_getr (pc := 100) hE fk_RX11_59 lX_0 rfl dX11_rises_100 ?_
            refine z_iload (pc := 103) hE 2 rfl dX11_rises_103 ?_
            refine z_i2l (pc := 105) hE dX11_rises_105 ?_
            refine z_callVv (pc := 106) (st := []) [.long e7.2.toInt64] hE kk_RX11_306 (c_X1_add e7.2.toInt64) lX_48 rfl rfl rfl (Nat.le_of_ble_eq_true rfl) (by decide) dX11_rises_106 (fun x11 => ?_)
            refine z_iload (pc := 109) hE 1 rfl dX11_rises_109 ?_
            exact z_ireturn (pc := 111) hE hr dX11_rises_111
        · refine z_bipush (pc := 36) hE dX11_rises_36 q_bipush_m3 ?_
          exact z_ireturn (pc := 38) hE hr dX11_rises_38
      · refine z_iconst (pc := 21) hE dX11_rises_21 q_iconst_m1 ?_
        exact z_ireturn (pc := 22) hE hr dX11_rises_22
set_option maxRecDepth 100000 in
set_option maxHeartbeats 4000000 in
theorem c_X11_berths {l : Launch} {ad : Nat → Nat} {ca : FieldType → ClassId} {D : va_G} {tt : Nat → Nat} (a1 : Int32) : zC l yX11_berths cX11_berths 4 (some .int) 105 layX ad ca D (xtX ad tt) [.ref (ad 0), .int a1] zvi (p_X11_berths a1) := by
  refine z_enter (by decide) (Nat.le_of_ble_eq_true rfl) (fun E hE hl0 hcD hr => ?_)
  have hE : zok layX ad (xtX ad tt) E cX11_berths 4 RX11 105 := hE
  show Z layX ad E 4 (zFin layX ad E zvi) 0 [(0, .ref (ad 0)), (1, .int a1)] [] (p_X11_berths a1)
  unfold p_X11_berths
  refine z_aload_n (pc := 0) hE 0 0 rfl rfl dX11_berths_0 ?_
  refine z_getr (pc := 1) hE fk_RX11_42 lX_0 rfl dX11_berths_1 ?_
  refine z_iload_n (pc := 4) hE 1 1 rfl rfl dX11_berths_4 ?_
  refine z_callVi (pc := 5) (st := []) [.int a1] hE kk_RX11_314 (c_X3_areAll 20 zfk_20 a1) lX_20 rfl rfl rfl (Nat.le_of_ble_eq_true rfl) (by decide) dX11_berths_5 (fun x1 => ?_)
  refine z_if_ne (pc := 8) hE 13 rfl dX11_berths_8 ?_ ?_
  · refine z_aload_n (pc := 13) hE 0 0 rfl rfl dX11_berths_13 ?_
    refine z_getr (pc := 14) hE fk_RX11_82 lX_0 rfl dX11_berths_14 ?_
    refine z_iload_n (pc := 17) hE 1 1 rfl rfl dX11_berths_17 ?_
    refine z_callVv (pc := 18) (st := []) [.int a1] hE kk_RX11_317 (c_X2_choose a1) lX_62 rfl rfl rfl (Nat.le_of_ble_eq_true rfl) (by decide) dX11_berths_18 (fun x2 => ?_)
    refine z_aload_n (pc := 21) hE 0 0 rfl rfl dX11_berths_21 ?_
    refine z_getr (pc := 22) hE fk_RX11_82 lX_0 rfl dX11_berths_22 ?_
    refine z_callVi (pc := 25) (st := []) [] hE kk_RX11_320 (c_X2_waysAll) lX_62 rfl rfl rfl (Nat.le_of_ble_eq_true rfl) (by decide) dX11_berths_25 (fun x3 => ?_)
    refine z_istore_n (L' := [(2, .int x3), (0, .ref (ad 0)), (1, .int a1)]) (pc := 28) hE 2 rfl (by decide) rfl dX11_berths_28 ?_
    refine z_aload_n (pc := 29) hE 1 0 rfl rfl dX11_berths_29 ?_
    refine z_getr (pc := 30) hE fk_RX11_59 lX_0 rfl dX11_berths_30 ?_
    refine z_iconst (pc := 33) hE dX11_berths_33 q_iconst_0 ?_
    refine z_puti (pc := 34) hE fk_RX11_288 lX_48 rfl dX11_berths_34 ?_
    refine z_iconst (pc := 37) hE dX11_berths_37 q_iconst_0 ?_
    refine z_istore_n (L' := [(3, .int ((0 : Int32))), (2, .int x3), (0, .ref (ad 0)), (1, .int a1)]) (pc := 38) hE 3 rfl (by decide) rfl dX11_berths_38 ?_
    refine z_sub (L' := [(0, .ref (ad 0)), (2, .int x3), (3, .int ((0 : Int32)))]) [2, 1, 0] rfl ?_
    refine z_loop (V := Int32) (X := Unit) (hd := 39) (ex := 77) (Lh := fun v4 => [(0, .ref (ad 0)), (2, .int x3), (3, .int v4)]) (Lx := fun e7 => [(2, .int x3)]) (fun rc6 k5 hrc6 hk5 v4 => ?_) zNF ((0 : Int32)) _ (fun e7 => ?_)
    · unfold p_X11_berths_b39
      refine z_iload_n (pc := 39) hE 1 2 rfl rfl dX11_berths_39 ?_
      refine z_if_le (pc := 40) hE 77 rfl dX11_berths_40 ?_ ?_
      · exact z_sub [1] rfl (hk5 ())
      · refine z_iload_n (pc := 43) hE 2 3 rfl rfl dX11_berths_43 ?_
        refine z_aload_n (pc := 44) hE 0 0 rfl rfl dX11_berths_44 ?_
        refine z_getr (pc := 45) hE fk_RX11_82 lX_0 rfl dX11_berths_45 ?_
        refine z_geti (pc := 48) hE fk_RX11_323 lX_62 rfl dX11_berths_48 (fun x8 => ?_)
        refine z_icmp_ge (pc := 51) hE 77 rfl dX11_berths_51 ?_ ?_
        · exact z_sub [1] rfl (hk5 ())
        · refine z_aload_n (pc := 54) hE 0 0 rfl rfl dX11_berths_54 ?_
          refine z_getr (pc := 55) hE fk_RX11_59 lX_0 rfl dX11_berths_55 ?_
          refine z_aload_n (pc := 58) hE 0 0 rfl rfl dX11_berths_58 ?_
          refine z_getr (pc := 59) hE fk_RX11_82 lX_0 rfl dX11_berths_59 ?_
          refine z_getr (pc := 62) hE fk_RX11_324 lX_62 rfl dX11_berths_62 ?_
          refine z_iload_n (pc := 65) hE 2 3 rfl rfl dX11_berths_65 ?_
          refine z_iald (pc := 66) hE lX_65 dX11_berths_66 (fun x9 => ?_)
          refine z_i2l (pc := 67) hE dX11_berths_67 ?_
          refine z_callVv (pc := 68) (st := []) [.long x9.toInt64] hE kk_RX11_306 (c_X1_add x9.toInt64) lX_48 rfl rfl rfl (Nat.le_of_ble_eq_true rfl) (by decide) dX11_berths_68 (fun x10 => ?_)
          refine z_iinc (L' := [(3, .int (v4 + (1 : Int32))), (0, .ref (ad 0)), (2, .int x3)]) (pc := 71) hE 2 rfl (zinc q_iconst_1) (by decide) rfl dX11_berths_71 ?_
          refine z_goto (pc := 74) hE 39 rfl dX11_berths_74 ?_
          exact z_sub [1, 2, 0] rfl (hrc6 (v4 + (1 : Int32)))
    · refine z_iload_n (pc := 77) hE 0 2 rfl rfl dX11_berths_77 ?_
      exact z_ireturn (pc := 78) hE hr dX11_berths_78
  · refine z_iconst (pc := 11) hE dX11_berths_11 q_iconst_m1 ?_
    exact z_ireturn (pc := 12) hE hr dX11_berths_12
set_option maxRecDepth 100000 in
set_option maxHeartbeats 4000000 in
theorem c_X11_served {l : Launch} {ad : Nat → Nat} {ca : FieldType → ClassId} {D : va_G} {tt : Nat → Nat} (a1 : Int32) : zC l yX11_served cX11_served 5 (some .int) 105 layX ad ca D (xtX ad tt) [.ref (ad 0), .int a1] zvi (p_X11_served a1) := by
  refine z_enter (by decide) (Nat.le_of_ble_eq_true rfl) (fun E hE hl0 hcD hr => ?_)
  have hE : zok layX ad (xtX ad tt) E cX11_served 5 RX11 105 := hE
  show Z layX ad E 5 (zFin layX ad E zvi) 0 [(0, .ref (ad 0)), (1, .int a1)] [] (p_X11_served a1)
  unfold p_X11_served
  refine z_aload_n (pc := 0) hE 0 0 rfl rfl dX11_served_0 ?_
  refine z_getr (pc := 1) hE fk_RX11_42 lX_0 rfl dX11_served_1 ?_
  refine z_iload_n (pc := 4) hE 1 1 rfl rfl dX11_served_4 ?_
  refine z_callVi (pc := 5) (st := []) [.int a1] hE kk_RX11_314 (c_X3_areAll 20 zfk_20 a1) lX_20 rfl rfl rfl (Nat.le_of_ble_eq_true rfl) (by decide) dX11_served_5 (fun x1 => ?_)
  refine z_if_ne (pc := 8) hE 13 rfl dX11_served_8 ?_ ?_
  · refine z_iconst (pc := 13) hE dX11_served_13 q_iconst_0 ?_
    refine z_istore_n (L' := [(2, .int ((0 : Int32))), (0, .ref (ad 0)), (1, .int a1)]) (pc := 14) hE 2 rfl (by decide) rfl dX11_served_14 ?_
    refine z_iconst (pc := 15) hE dX11_served_15 q_iconst_0 ?_
    refine z_istore_n (L' := [(3, .int ((0 : Int32))), (2, .int ((0 : Int32))), (0, .ref (ad 0)), (1, .int a1)]) (pc := 16) hE 3 rfl (by decide) rfl dX11_served_16 ?_
    refine z_iconst (pc := 17) hE dX11_served_17 q_iconst_1 ?_
    refine z_istore (L' := [(4, .int ((1 : Int32))), (3, .int ((0 : Int32))), (2, .int ((0 : Int32))), (0, .ref (ad 0)), (1, .int a1)]) (pc := 18) hE (by decide) rfl dX11_served_18 ?_
    refine z_sub (L' := [(0, .ref (ad 0)), (1, .int a1), (2, .int ((0 : Int32))), (3, .int ((0 : Int32))), (4, .int ((1 : Int32)))]) [3, 4, 2, 1, 0] rfl ?_
    refine z_loop (V := (Int32 × Int32 × Int32)) (X := (Int32 × Int32)) (hd := 20) (ex := 78) (Lh := fun v2 => [(0, .ref (ad 0)), (1, .int a1), (2, .int v2.1), (3, .int v2.2.1), (4, .int v2.2.2)]) (Lx := fun e5 => [(0, .ref (ad 0)), (2, .int e5.1), (3, .int e5.2)]) (fun rc4 k3 hrc4 hk3 v2 => ?_) zNF ((0 : Int32), (0 : Int32), (1 : Int32)) _ (fun e5 => ?_)
    · unfold p_X11_served_b20
      refine z_iload (pc := 20) hE 4 rfl dX11_served_20 ?_
      refine z_iload_n (pc := 22) hE 1 1 rfl rfl dX11_served_22 ?_
      refine z_icmp_gt (pc := 23) hE 78 rfl dX11_served_23 ?_ ?_
      · exact z_sub [0, 2, 3] rfl (hk3 (v2.1, v2.2.1))
      · refine z_iload (pc := 26) hE 4 rfl dX11_served_26 ?_
        refine z_iload_n (pc := 28) hE 1 1 rfl rfl dX11_served_28 ?_
        refine z_iconst (pc := 29) hE dX11_served_29 q_iconst_m1 ?_
        refine z_ixor (pc := 30) hE dX11_served_30 ?_
        refine z_iand (pc := 31) hE dX11_served_31 ?_
        refine z_join (Y := (Int32 × Int32)) (pcJ := 72) (Lj := fun y6 => [(0, .ref (ad 0)), (1, .int a1), (2, .int y6.1), (3, .int y6.2), (4, .int v2.2.2)]) (sj := fun y6 => []) (fun y6 => ?_) (fun j7 hj7 => ?_)
        · refine z_iinc (L' := [(4, .int (v2.2.2 + (1 : Int32))), (0, .ref (ad 0)), (1, .int a1), (2, .int y6.1), (3, .int y6.2)]) (pc := 72) hE 4 rfl (zinc q_iconst_1) (by decide) rfl dX11_served_72 ?_
          refine z_goto (pc := 75) hE 20 rfl dX11_served_75 ?_
          exact z_sub [1, 2, 3, 4, 0] rfl (hrc4 (y6.1, y6.2, v2.2.2 + (1 : Int32)))
        refine z_if_ne (pc := 32) hE 72 rfl dX11_served_32 ?_ ?_
        · exact z_sub [0, 1, 2, 3, 4] rfl (hj7 (v2.1, v2.2.1))
        · refine z_iload (pc := 35) hE 4 rfl dX11_served_35 ?_
          refine z_callSi (pc := 37) (st := []) [.int v2.2.2] hE kk_RX11_250 (c_J6_bitCount_0f7a4 v2.2.2) rfl rfl (Nat.le_of_ble_eq_true rfl) (by decide) dX11_served_37 (fun x8 => ?_)
          refine z_iload_n (pc := 40) hE 2 2 rfl rfl dX11_served_40 ?_
          refine z_icmp_le (pc := 41) hE 72 rfl dX11_served_41 ?_ ?_
          · exact z_sub [0, 1, 2, 3, 4] rfl (hj7 (v2.1, v2.2.1))
          · refine z_aload_n (pc := 44) hE 0 0 rfl rfl dX11_served_44 ?_
            refine z_getr (pc := 45) hE fk_RX11_82 lX_0 rfl dX11_served_45 ?_
            refine z_iload (pc := 48) hE 4 rfl dX11_served_48 ?_
            refine z_callVv (pc := 50) (st := []) [.int v2.2.2] hE kk_RX11_317 (c_X2_choose v2.2.2) lX_62 rfl rfl rfl (Nat.le_of_ble_eq_true rfl) (by decide) dX11_served_50 (fun x9 => ?_)
            refine z_aload_n (pc := 53) hE 0 0 rfl rfl dX11_served_53 ?_
            refine z_getr (pc := 54) hE fk_RX11_82 lX_0 rfl dX11_served_54 ?_
            refine z_callVi (pc := 57) (st := []) [] hE kk_RX11_327 (c_X2_canAll) lX_62 rfl rfl rfl (Nat.le_of_ble_eq_true rfl) (by decide) dX11_served_57 (fun x10 => ?_)
            refine z_if_eq (pc := 60) hE 72 rfl dX11_served_60 ?_ ?_
            · exact z_sub [0, 1, 2, 3, 4] rfl (hj7 (v2.1, v2.2.1))
            · refine z_iload (pc := 63) hE 4 rfl dX11_served_63 ?_
              refine z_callSi (pc := 65) (st := []) [.int v2.2.2] hE kk_RX11_250 (c_J6_bitCount_0f7a4 v2.2.2) rfl rfl (Nat.le_of_ble_eq_true rfl) (by decide) dX11_served_65 (fun x11 => ?_)
              refine z_istore_n (L' := [(2, .int x11), (0, .ref (ad 0)), (1, .int a1), (3, .int v2.2.1), (4, .int v2.2.2)]) (pc := 68) hE 2 rfl (by decide) rfl dX11_served_68 ?_
              refine z_iload (pc := 69) hE 4 rfl dX11_served_69 ?_
              refine z_istore_n (L' := [(3, .int v2.2.2), (2, .int x11), (0, .ref (ad 0)), (1, .int a1), (4, .int v2.2.2)]) (pc := 71) hE 3 rfl (by decide) rfl dX11_served_71 ?_
              exact z_sub [2, 3, 1, 0, 4] rfl (hj7 (x11, v2.2.2))
    · refine z_aload_n (pc := 78) hE 0 0 rfl rfl dX11_served_78 ?_
      refine z_getr (pc := 79) hE fk_RX11_59 lX_0 rfl dX11_served_79 ?_
      refine z_iconst (pc := 82) hE dX11_served_82 q_iconst_0 ?_
      refine z_puti (pc := 83) hE fk_RX11_288 lX_48 rfl dX11_served_83 ?_
      refine z_aload_n (pc := 86) hE 0 0 rfl rfl dX11_served_86 ?_
      refine z_getr (pc := 87) hE fk_RX11_59 lX_0 rfl dX11_served_87 ?_
      refine z_iload_n (pc := 90) hE 2 3 rfl rfl dX11_served_90 ?_
      refine z_i2l (pc := 91) hE dX11_served_91 ?_
      refine z_callVv (pc := 92) (st := []) [.long e5.2.toInt64] hE kk_RX11_306 (c_X1_add e5.2.toInt64) lX_48 rfl rfl rfl (Nat.le_of_ble_eq_true rfl) (by decide) dX11_served_92 (fun x12 => ?_)
      refine z_iload_n (pc := 95) hE 1 2 rfl rfl dX11_served_95 ?_
      exact z_ireturn (pc := 96) hE hr dX11_served_96
  · refine z_iconst (pc := 11) hE dX11_served_11 q_iconst_m1 ?_
    exact z_ireturn (pc := 12) hE hr dX11_served_12
set_option maxRecDepth 100000 in
set_option maxHeartbeats 4000000 in
theorem c_X11_yields {l : Launch} {ad : Nat → Nat} {ca : FieldType → ClassId} {D : va_G} {tt : Nat → Nat} (a1 : Int32) : zC l yX11_yields cX11_yields 5 (some .int) 2 layX ad ca D (xtX ad tt) [.ref (ad 0), .int a1] zvi (p_X11_yields a1) := by
  refine z_enter (by decide) (Nat.le_of_ble_eq_true rfl) (fun E hE hl0 hcD hr => ?_)
  have hE : zok layX ad (xtX ad tt) E cX11_yields 5 RX11 2 := hE
  show Z layX ad E 5 (zFin layX ad E zvi) 0 [(0, .ref (ad 0)), (1, .int a1)] [] (p_X11_yields a1)
  unfold p_X11_yields
  refine z_aload_n (pc := 0) hE 0 0 rfl rfl dX11_yields_0 ?_
  refine z_getr (pc := 1) hE fk_RX11_42 lX_0 rfl dX11_yields_1 ?_
  refine z_iload_n (pc := 4) hE 1 1 rfl rfl dX11_yields_4 ?_
  refine z_callVi (pc := 5) (st := []) [.int a1] hE kk_RX11_160 (c_X3_has 20 zfk_20 a1) lX_20 rfl rfl rfl (Nat.le_of_ble_eq_true rfl) (by decide) dX11_yields_5 (fun x1 => ?_)
  refine z_if_ne (pc := 8) hE 13 rfl dX11_yields_8 ?_ ?_
  · refine z_iconst (pc := 13) hE dX11_yields_13 q_iconst_1 ?_
    refine z_aload_n (pc := 14) hE 0 0 rfl rfl dX11_yields_14 ?_
    refine z_getr (pc := 15) hE fk_RX11_19 lX_0 rfl dX11_yields_15 ?_
    refine z_geti (pc := 18) hE fk_RX11_331 lX_3 rfl dX11_yields_18 (fun x2 => ?_)
    refine z_ishl (pc := 21) hE dX11_yields_21 ?_
    refine z_iconst (pc := 22) hE dX11_yields_22 q_iconst_1 ?_
    refine z_isub (pc := 23) hE dX11_yields_23 ?_
    refine z_istore_n (L' := [(2, .int ((((1 : Int32)) <<< (x2 &&& 31)) - ((1 : Int32)))), (0, .ref (ad 0)), (1, .int a1)]) (pc := 24) hE 2 rfl (by decide) rfl dX11_yields_24 ?_
    refine z_aload_n (pc := 25) hE 1 0 rfl rfl dX11_yields_25 ?_
    refine z_getr (pc := 26) hE fk_RX11_42 lX_0 rfl dX11_yields_26 ?_
    refine z_iload_n (pc := 29) hE 2 1 rfl rfl dX11_yields_29 ?_
    refine z_callVi (pc := 30) (st := []) [.int a1] hE kk_RX11_176 (c_X3_weightOf 20 zfk_20 a1) lX_20 rfl rfl rfl (Nat.le_of_ble_eq_true rfl) (by decide) dX11_yields_30 (fun x3 => ?_)
    refine z_istore_n (L' := [(3, .int x3), (2, .int ((((1 : Int32)) <<< (x2 &&& 31)) - ((1 : Int32)))), (0, .ref (ad 0)), (1, .int a1)]) (pc := 33) hE 3 rfl (by decide) rfl dX11_yields_33 ?_
    refine z_iconst (pc := 34) hE dX11_yields_34 q_iconst_0 ?_
    refine z_istore (L' := [(4, .int ((0 : Int32))), (3, .int x3), (2, .int ((((1 : Int32)) <<< (x2 &&& 31)) - ((1 : Int32)))), (0, .ref (ad 0)), (1, .int a1)]) (pc := 35) hE (by decide) rfl dX11_yields_35 ?_
    refine z_sub (L' := [(0, .ref (ad 0)), (1, .int a1), (2, .int ((((1 : Int32)) <<< (x2 &&& 31)) - ((1 : Int32)))), (3, .int x3), (4, .int ((0 : Int32)))]) [3, 4, 2, 1, 0] rfl ?_
    refine z_loop (V := (Int32 × Int32)) (X := Int32) (hd := 37) (ex := 124) (Lh := fun v4 => [(0, .ref (ad 0)), (1, .int a1), (2, .int v4.1), (3, .int x3), (4, .int v4.2)]) (Lx := fun e7 => [(0, .ref (ad 0)), (2, .int e7)]) (fun rc6 k5 hrc6 hk5 v4 => ?_) zNF ((((1 : Int32)) <<< (x2 &&& 31)) - ((1 : Int32)), (0 : Int32)) _ (fun e7 => ?_)
    · unfold p_X11_yields_b37
      refine z_iload (pc := 37) hE 4 rfl dX11_yields_37 ?_
      refine z_aload_n (pc := 39) hE 0 0 rfl rfl dX11_yields_39 ?_
      refine z_getr (pc := 40) hE fk_RX11_42 lX_0 rfl dX11_yields_40 ?_
      refine z_geti (pc := 43) hE fk_RX11_197 lX_20 rfl dX11_yields_43 (fun x8 => ?_)
      refine z_icmp_ge (pc := 46) hE 124 rfl dX11_yields_46 ?_ ?_
      · exact z_sub [0, 2] rfl (hk5 v4.1)
      · refine z_aload_n (pc := 49) hE 0 0 rfl rfl dX11_yields_49 ?_
        refine z_getr (pc := 50) hE fk_RX11_42 lX_0 rfl dX11_yields_50 ?_
        refine z_getr (pc := 53) hE fk_RX11_185 lX_20 rfl dX11_yields_53 ?_
        refine z_iload (pc := 56) hE 4 rfl dX11_yields_56 ?_
        refine z_iald (pc := 58) hE lX_28 dX11_yields_58 (fun x9 => ?_)
        refine z_iconst (pc := 59) hE dX11_yields_59 q_iconst_2 ?_
        refine z_join (Y := Int32) (pcJ := 118) (Lj := fun y10 => [(0, .ref (ad 0)), (1, .int a1), (2, .int y10), (3, .int x3), (4, .int v4.2)]) (sj := fun y10 => []) (fun y10 => ?_) (fun j11 hj11 => ?_)
        · refine z_iinc (L' := [(4, .int (v4.2 + (1 : Int32))), (0, .ref (ad 0)), (1, .int a1), (2, .int y10), (3, .int x3)]) (pc := 118) hE 4 rfl (zinc q_iconst_1) (by decide) rfl dX11_yields_118 ?_
          refine z_goto (pc := 121) hE 37 rfl dX11_yields_121 ?_
          exact z_sub [1, 2, 3, 4, 0] rfl (hrc6 (y10, v4.2 + (1 : Int32)))
        refine z_icmp_ne (pc := 60) hE 118 rfl dX11_yields_60 ?_ ?_
        · exact z_sub [0, 1, 2, 3, 4] rfl (hj11 v4.1)
        · refine z_iload_n (pc := 63) hE 2 2 rfl rfl dX11_yields_63 ?_
          refine z_iconst (pc := 64) hE dX11_yields_64 q_iconst_1 ?_
          refine z_aload_n (pc := 65) hE 0 0 rfl rfl dX11_yields_65 ?_
          refine z_getr (pc := 66) hE fk_RX11_42 lX_0 rfl dX11_yields_66 ?_
          refine z_getr (pc := 69) hE fk_RX11_276 lX_20 rfl dX11_yields_69 ?_
          refine z_iload (pc := 72) hE 4 rfl dX11_yields_72 ?_
          refine z_iald (pc := 74) hE lX_29 dX11_yields_74 (fun x12 => ?_)
          refine z_ishl (pc := 75) hE dX11_yields_75 ?_
          refine z_iconst (pc := 76) hE dX11_yields_76 q_iconst_m1 ?_
          refine z_ixor (pc := 77) hE dX11_yields_77 ?_
          refine z_iand (pc := 78) hE dX11_yields_78 ?_
          refine z_istore_n (L' := [(2, .int (v4.1 &&& ((((1 : Int32)) <<< (x12 &&& 31)) ^^^ ((-1 : Int32))))), (0, .ref (ad 0)), (1, .int a1), (3, .int x3), (4, .int v4.2)]) (pc := 79) hE 2 rfl (by decide) rfl dX11_yields_79 ?_
          refine z_iload (pc := 80) hE 4 rfl dX11_yields_80 ?_
          refine z_iload_n (pc := 82) hE 2 1 rfl rfl dX11_yields_82 ?_
          refine z_icmp_eq (pc := 83) hE 118 rfl dX11_yields_83 ?_ ?_
          · exact z_sub [1, 2, 0, 3, 4] rfl (hj11 (v4.1 &&& ((((1 : Int32)) <<< (x12 &&& 31)) ^^^ ((-1 : Int32)))))
          · refine z_iload_n (pc := 86) hE 0 2 rfl rfl dX11_yields_86 ?_
            refine z_aload_n (pc := 87) hE 1 0 rfl rfl dX11_yields_87 ?_
            refine z_getr (pc := 88) hE fk_RX11_19 lX_0 rfl dX11_yields_88 ?_
            refine z_aload_n (pc := 91) hE 1 0 rfl rfl dX11_yields_91 ?_
            refine z_getr (pc := 92) hE fk_RX11_42 lX_0 rfl dX11_yields_92 ?_
            refine z_getr (pc := 95) hE fk_RX11_276 lX_20 rfl dX11_yields_95 ?_
            refine z_iload (pc := 98) hE 4 rfl dX11_yields_98 ?_
            refine z_iald (pc := 100) hE lX_29 dX11_yields_100 (fun x13 => ?_)
            refine z_aload_n (pc := 101) hE 1 0 rfl rfl dX11_yields_101 ?_
            refine z_getr (pc := 102) hE fk_RX11_42 lX_0 rfl dX11_yields_102 ?_
            refine z_iload (pc := 105) hE 4 rfl dX11_yields_105 ?_
            refine z_callVi (pc := 107) (st := [.int x13, .ref (ad 3), .int (v4.1 &&& ((((1 : Int32)) <<< (x12 &&& 31)) ^^^ ((-1 : Int32))))]) [.int v4.2] hE kk_RX11_176 (c_X3_weightOf 20 zfk_20 v4.2) lX_20 rfl rfl rfl (Nat.le_of_ble_eq_true rfl) (by decide) dX11_yields_107 (fun x14 => ?_)
            refine z_iload_n (pc := 110) hE 3 3 rfl rfl dX11_yields_110 ?_
            refine z_callVi (pc := 111) (st := [.int (v4.1 &&& ((((1 : Int32)) <<< (x12 &&& 31)) ^^^ ((-1 : Int32))))]) [.int x13, .int x14, .int x3] hE kk_RX11_332 (c_X9_barredBy x13 x14 x3) lX_3 rfl rfl rfl (Nat.le_of_ble_eq_true rfl) (by decide) dX11_yields_111 (fun x15 => ?_)
            refine z_iconst (pc := 114) hE dX11_yields_114 q_iconst_m1 ?_
            refine z_ixor (pc := 115) hE dX11_yields_115 ?_
            refine z_iand (pc := 116) hE dX11_yields_116 ?_
            refine z_istore_n (L' := [(2, .int ((v4.1 &&& ((((1 : Int32)) <<< (x12 &&& 31)) ^^^ ((-1 : Int32)))) &&& (x15 ^^^ ((-1 : Int32))))), (0, .ref (ad 0)), (1, .int a1), (3, .int x3), (4, .int v4.2)]) (pc := 117) hE 2 rfl (by decide) rfl dX11_yields_117 ?_
            exact z_sub [1, 2, 0, 3, 4] rfl (hj11 ((v4.1 &&& ((((1 : Int32)) <<< (x12 &&& 31)) ^^^ ((-1 : Int32)))) &&& (x15 ^^^ ((-1 : Int32)))))
    · refine z_aload_n (pc := 124) hE 0 0 rfl rfl dX11_yields_124 ?_
      refine z_getr (pc := 125) hE fk_RX11_59 lX_0 rfl dX11_yields_125 ?_
      refine z_iconst (pc := 128) hE dX11_yields_128 q_iconst_0 ?_
      refine z_puti (pc := 129) hE fk_RX11_288 lX_48 rfl dX11_yields_129 ?_
      refine z_aload_n (pc := 132) hE 0 0 rfl rfl dX11_yields_132 ?_
      refine z_getr (pc := 133) hE fk_RX11_59 lX_0 rfl dX11_yields_133 ?_
      refine z_iload_n (pc := 136) hE 1 2 rfl rfl dX11_yields_136 ?_
      refine z_callSi (pc := 137) (st := [.ref (ad 48)]) [.int e7] hE kk_RX11_250 (c_J6_bitCount_0f7a4 e7) rfl rfl (Nat.le_of_ble_eq_true rfl) (by decide) dX11_yields_137 (fun x16 => ?_)
      refine z_i2l (pc := 140) hE dX11_yields_140 ?_
      refine z_callVv (pc := 141) (st := []) [.long x16.toInt64] hE kk_RX11_306 (c_X1_add x16.toInt64) lX_48 rfl rfl rfl (Nat.le_of_ble_eq_true rfl) (by decide) dX11_yields_141 (fun x17 => ?_)
      refine z_iload_n (pc := 144) hE 1 2 rfl rfl dX11_yields_144 ?_
      exact z_ireturn (pc := 145) hE hr dX11_yields_145
  · refine z_iconst (pc := 11) hE dX11_yields_11 q_iconst_m1 ?_
    exact z_ireturn (pc := 12) hE hr dX11_yields_12
set_option maxRecDepth 100000 in
set_option maxHeartbeats 4000000 in
theorem c_X11_lands {l : Launch} {ad : Nat → Nat} {ca : FieldType → ClassId} {D : va_G} {tt : Nat → Nat} (a1 : Int32) (a2 : Int32) (a3 : Int32) : zC l yX11_lands cX11_lands 5 (some .int) 104 layX ad ca D (xtX ad tt) [.ref (ad 0), .int a1, .int a2, .int a3] zvi (p_X11_lands a1 a2 a3) := by
  refine z_enter (by decide) (Nat.le_of_ble_eq_true rfl) (fun E hE hl0 hcD hr => ?_)
  have hE : zok layX ad (xtX ad tt) E cX11_lands 5 RX11 104 := hE
  show Z layX ad E 5 (zFin layX ad E zvi) 0 [(0, .ref (ad 0)), (1, .int a1), (2, .int a2), (3, .int a3)] [] (p_X11_lands a1 a2 a3)
  unfold p_X11_lands
  refine z_aload_n (pc := 0) hE 0 0 rfl rfl dX11_lands_0 ?_
  refine z_getr (pc := 1) hE fk_RX11_42 lX_0 rfl dX11_lands_1 ?_
  refine z_iload_n (pc := 4) hE 1 1 rfl rfl dX11_lands_4 ?_
  refine z_callVi (pc := 5) (st := []) [.int a1] hE kk_RX11_160 (c_X3_has 20 zfk_20 a1) lX_20 rfl rfl rfl (Nat.le_of_ble_eq_true rfl) (by decide) dX11_lands_5 (fun x1 => ?_)
  refine z_if_eq (pc := 8) hE 32 rfl dX11_lands_8 ?_ ?_
  · refine z_iconst (pc := 32) hE dX11_lands_32 q_iconst_m1 ?_
    exact z_ireturn (pc := 33) hE hr dX11_lands_33
  · refine z_aload_n (pc := 11) hE 0 0 rfl rfl dX11_lands_11 ?_
    refine z_getr (pc := 12) hE fk_RX11_19 lX_0 rfl dX11_lands_12 ?_
    refine z_iload_n (pc := 15) hE 2 2 rfl rfl dX11_lands_15 ?_
    refine z_callVi (pc := 16) (st := []) [.int a2] hE kk_RX11_136 (c_X9_has a2) lX_3 rfl rfl rfl (Nat.le_of_ble_eq_true rfl) (by decide) dX11_lands_16 (fun x2 => ?_)
    refine z_if_eq (pc := 19) hE 32 rfl dX11_lands_19 ?_ ?_
    · refine z_iconst (pc := 32) hE dX11_lands_32 q_iconst_m1 ?_
      exact z_ireturn (pc := 33) hE hr dX11_lands_33
    · refine z_iload_n (pc := 22) hE 3 3 rfl rfl dX11_lands_22 ?_
      refine z_if_lt (pc := 23) hE 32 rfl dX11_lands_23 ?_ ?_
      · refine z_iconst (pc := 32) hE dX11_lands_32 q_iconst_m1 ?_
        exact z_ireturn (pc := 33) hE hr dX11_lands_33
      · refine z_iload_n (pc := 26) hE 3 3 rfl rfl dX11_lands_26 ?_
        refine z_bipush (pc := 27) hE dX11_lands_27 q_bipush_6 ?_
        refine z_icmp_le (pc := 29) hE 34 rfl dX11_lands_29 ?_ ?_
        · refine z_aload_n (pc := 34) hE 0 0 rfl rfl dX11_lands_34 ?_
          refine z_getr (pc := 35) hE fk_RX11_42 lX_0 rfl dX11_lands_35 ?_
          refine z_getr (pc := 38) hE fk_RX11_185 lX_20 rfl dX11_lands_38 ?_
          refine z_iload_n (pc := 41) hE 1 1 rfl rfl dX11_lands_41 ?_
          refine z_iald (pc := 42) hE lX_28 dX11_lands_42 (fun x3 => ?_)
          refine z_iconst (pc := 43) hE dX11_lands_43 q_iconst_1 ?_
          refine z_icmp_eq (pc := 44) hE 50 rfl dX11_lands_44 ?_ ?_
          · refine z_aload_n (pc := 50) hE 0 0 rfl rfl dX11_lands_50 ?_
            refine z_getr (pc := 51) hE fk_RX11_42 lX_0 rfl dX11_lands_51 ?_
            refine z_iload_n (pc := 54) hE 2 2 rfl rfl dX11_lands_54 ?_
            refine z_callVi (pc := 55) (st := []) [.int a2] hE kk_RX11_150 (c_X3_guestAt 20 zfk_20 a2) lX_20 rfl rfl rfl (Nat.le_of_ble_eq_true rfl) (by decide) dX11_lands_55 (fun x4 => ?_)
            refine z_iconst (pc := 58) hE dX11_lands_58 q_iconst_m1 ?_
            refine z_icmp_eq (pc := 59) hE 65 rfl dX11_lands_59 ?_ ?_
            · refine z_aload_n (pc := 65) hE 0 0 rfl rfl dX11_lands_65 ?_
              refine z_getr (pc := 66) hE fk_RX11_91 lX_0 rfl dX11_lands_66 ?_
              refine z_iload_n (pc := 69) hE 1 1 rfl rfl dX11_lands_69 ?_
              refine z_iload_n (pc := 70) hE 3 3 rfl rfl dX11_lands_70 ?_
              refine z_callVv (pc := 71) (st := []) [.int a1, .int a3] hE kk_RX11_336 (c_X4_survey a1 a3) lX_66 rfl rfl rfl (Nat.le_of_ble_eq_true rfl) (by decide) dX11_lands_71 (fun x5 => ?_)
              refine z_aload_n (pc := 74) hE 0 0 rfl rfl dX11_lands_74 ?_
              refine z_getr (pc := 75) hE fk_RX11_91 lX_0 rfl dX11_lands_75 ?_
              refine z_aload_n (pc := 78) hE 0 0 rfl rfl dX11_lands_78 ?_
              refine z_getr (pc := 79) hE fk_RX11_19 lX_0 rfl dX11_lands_79 ?_
              refine z_getr (pc := 82) hE fk_RX11_143 lX_3 rfl dX11_lands_82 ?_
              refine z_iload_n (pc := 85) hE 2 2 rfl rfl dX11_lands_85 ?_
              refine z_iald (pc := 86) hE lX_4 dX11_lands_86 (fun x6 => ?_)
              refine z_callVi (pc := 87) (st := []) [.int x6] hE kk_RX11_340 (c_X4_plan x6) lX_66 rfl rfl rfl (Nat.le_of_ble_eq_true rfl) (by decide) dX11_lands_87 (fun x7 => ?_)
              refine z_if_eq (pc := 90) hE 103 rfl dX11_lands_90 ?_ ?_
              · refine z_bipush (pc := 103) hE dX11_lands_103 q_bipush_m2 ?_
                exact z_ireturn (pc := 105) hE hr dX11_lands_105
              · refine z_aload_n (pc := 93) hE 0 0 rfl rfl dX11_lands_93 ?_
                refine z_getr (pc := 94) hE fk_RX11_91 lX_0 rfl dX11_lands_94 ?_
                refine z_callVi (pc := 97) (st := []) [] hE kk_RX11_343 (c_X4_retrace) lX_66 rfl rfl rfl (Nat.le_of_ble_eq_true rfl) (by decide) dX11_lands_97 (fun x8 => ?_)
                refine z_if_ne (pc := 100) hE 106 rfl dX11_lands_100 ?_ ?_
                · refine z_aload_n (pc := 106) hE 0 0 rfl rfl dX11_lands_106 ?_
                  refine z_aload_n (pc := 107) hE 0 0 rfl rfl dX11_lands_107 ?_
                  refine z_getr (pc := 108) hE fk_RX11_91 lX_0 rfl dX11_lands_108 ?_
                  refine z_geti (pc := 111) hE fk_RX11_346 lX_66 rfl dX11_lands_111 (fun x9 => ?_)
                  refine z_i2l (pc := 114) hE dX11_lands_114 ?_
                  refine z_aload_n (pc := 115) hE 0 0 rfl rfl dX11_lands_115 ?_
                  refine z_getr (pc := 116) hE fk_RX11_91 lX_0 rfl dX11_lands_116 ?_
                  refine z_getr (pc := 119) hE fk_RX11_349 lX_66 rfl dX11_lands_119 ?_
                  refine z_iconst (pc := 122) hE dX11_lands_122 q_iconst_0 ?_
                  refine z_iald (pc := 123) hE lX_70 dX11_lands_123 (fun x10 => ?_)
                  refine z_i2l (pc := 124) hE dX11_lands_124 ?_
                  refine z_callVv (pc := 125) (st := []) [.long x9.toInt64, .long x10.toInt64] hE kk_RX11_242 (c_X11_tell x9.toInt64 x10.toInt64) lX_0 rfl rfl rfl (Nat.le_of_ble_eq_true rfl) (by decide) dX11_lands_125 (fun x11 => ?_)
                  refine z_iconst (pc := 128) hE dX11_lands_128 q_iconst_1 ?_
                  refine z_istore (L' := [(4, .int ((1 : Int32))), (0, .ref (ad 0)), (1, .int a1), (2, .int a2), (3, .int a3)]) (pc := 129) hE (by decide) rfl dX11_lands_129 ?_
                  refine z_sub (L' := [(0, .ref (ad 0)), (4, .int ((1 : Int32)))]) [1, 0] rfl ?_
                  refine z_loop (V := Int32) (X := Unit) (hd := 131) (ex := 167) (Lh := fun v12 => [(0, .ref (ad 0)), (4, .int v12)]) (Lx := fun e15 => [(0, .ref (ad 0))]) (fun rc14 k13 hrc14 hk13 v12 => ?_) zNF ((1 : Int32)) _ (fun e15 => ?_)
                  · unfold p_X11_lands_b131
                    refine z_iload (pc := 131) hE 1 rfl dX11_lands_131 ?_
                    refine z_aload_n (pc := 133) hE 0 0 rfl rfl dX11_lands_133 ?_
                    refine z_getr (pc := 134) hE fk_RX11_91 lX_0 rfl dX11_lands_134 ?_
                    refine z_geti (pc := 137) hE fk_RX11_346 lX_66 rfl dX11_lands_137 (fun x16 => ?_)
                    refine z_icmp_gt (pc := 140) hE 167 rfl dX11_lands_140 ?_ ?_
                    · exact z_sub [0] rfl (hk13 ())
                    · refine z_aload_n (pc := 143) hE 0 0 rfl rfl dX11_lands_143 ?_
                      refine z_getr (pc := 144) hE fk_RX11_59 lX_0 rfl dX11_lands_144 ?_
                      refine z_aload_n (pc := 147) hE 0 0 rfl rfl dX11_lands_147 ?_
                      refine z_getr (pc := 148) hE fk_RX11_91 lX_0 rfl dX11_lands_148 ?_
                      refine z_getr (pc := 151) hE fk_RX11_349 lX_66 rfl dX11_lands_151 ?_
                      refine z_iload (pc := 154) hE 1 rfl dX11_lands_154 ?_
                      refine z_iald (pc := 156) hE lX_70 dX11_lands_156 (fun x17 => ?_)
                      refine z_i2l (pc := 157) hE dX11_lands_157 ?_
                      refine z_callVv (pc := 158) (st := []) [.long x17.toInt64] hE kk_RX11_306 (c_X1_add x17.toInt64) lX_48 rfl rfl rfl (Nat.le_of_ble_eq_true rfl) (by decide) dX11_lands_158 (fun x18 => ?_)
                      refine z_iinc (L' := [(4, .int (v12 + (1 : Int32))), (0, .ref (ad 0))]) (pc := 161) hE 1 rfl (zinc q_iconst_1) (by decide) rfl dX11_lands_161 ?_
                      refine z_goto (pc := 164) hE 131 rfl dX11_lands_164 ?_
                      exact z_sub [1, 0] rfl (hrc14 (v12 + (1 : Int32)))
                  · refine z_aload_n (pc := 167) hE 0 0 rfl rfl dX11_lands_167 ?_
                    refine z_getr (pc := 168) hE fk_RX11_91 lX_0 rfl dX11_lands_168 ?_
                    refine z_geti (pc := 171) hE fk_RX11_352 lX_66 rfl dX11_lands_171 (fun x19 => ?_)
                    exact z_ireturn (pc := 174) hE hr dX11_lands_174
                · refine z_bipush (pc := 103) hE dX11_lands_103 q_bipush_m2 ?_
                  exact z_ireturn (pc := 105) hE hr dX11_lands_105
            · refine z_bipush (pc := 62) hE dX11_lands_62 q_bipush_m4 ?_
              exact z_ireturn (pc := 64) hE hr dX11_lands_64
          · refine z_bipush (pc := 47) hE dX11_lands_47 q_bipush_m3 ?_
            exact z_ireturn (pc := 49) hE hr dX11_lands_49
        · refine z_iconst (pc := 32) hE dX11_lands_32 q_iconst_m1 ?_
          exact z_ireturn (pc := 33) hE hr dX11_lands_33
set_option maxRecDepth 100000 in
set_option maxHeartbeats 4000000 in
theorem c_X11_nearest {l : Launch} {ad : Nat → Nat} {ca : FieldType → ClassId} {D : va_G} {tt : Nat → Nat} (a1 : Int32) (a2 : Int32) : zC l yX11_nearest cX11_nearest 7 (some .int) 104 layX ad ca D (xtX ad tt) [.ref (ad 0), .int a1, .int a2] zvi (p_X11_nearest a1 a2) := by
  refine z_enter (by decide) (Nat.le_of_ble_eq_true rfl) (fun E hE hl0 hcD hr => ?_)
  have hE : zok layX ad (xtX ad tt) E cX11_nearest 7 RX11 104 := hE
  show Z layX ad E 7 (zFin layX ad E zvi) 0 [(0, .ref (ad 0)), (1, .int a1), (2, .int a2)] [] (p_X11_nearest a1 a2)
  unfold p_X11_nearest
  refine z_aload_n (pc := 0) hE 0 0 rfl rfl dX11_nearest_0 ?_
  refine z_getr (pc := 1) hE fk_RX11_42 lX_0 rfl dX11_nearest_1 ?_
  refine z_iload_n (pc := 4) hE 1 1 rfl rfl dX11_nearest_4 ?_
  refine z_callVi (pc := 5) (st := []) [.int a1] hE kk_RX11_160 (c_X3_has 20 zfk_20 a1) lX_20 rfl rfl rfl (Nat.le_of_ble_eq_true rfl) (by decide) dX11_nearest_5 (fun x1 => ?_)
  refine z_if_eq (pc := 8) hE 21 rfl dX11_nearest_8 ?_ ?_
  · refine z_iconst (pc := 21) hE dX11_nearest_21 q_iconst_m1 ?_
    exact z_ireturn (pc := 22) hE hr dX11_nearest_22
  · refine z_iload_n (pc := 11) hE 2 2 rfl rfl dX11_nearest_11 ?_
    refine z_if_lt (pc := 12) hE 21 rfl dX11_nearest_12 ?_ ?_
    · refine z_iconst (pc := 21) hE dX11_nearest_21 q_iconst_m1 ?_
      exact z_ireturn (pc := 22) hE hr dX11_nearest_22
    · refine z_iload_n (pc := 15) hE 2 2 rfl rfl dX11_nearest_15 ?_
      refine z_bipush (pc := 16) hE dX11_nearest_16 q_bipush_6 ?_
      refine z_icmp_le (pc := 18) hE 23 rfl dX11_nearest_18 ?_ ?_
      · refine z_aload_n (pc := 23) hE 0 0 rfl rfl dX11_nearest_23 ?_
        refine z_getr (pc := 24) hE fk_RX11_42 lX_0 rfl dX11_nearest_24 ?_
        refine z_getr (pc := 27) hE fk_RX11_185 lX_20 rfl dX11_nearest_27 ?_
        refine z_iload_n (pc := 30) hE 1 1 rfl rfl dX11_nearest_30 ?_
        refine z_iald (pc := 31) hE lX_28 dX11_nearest_31 (fun x2 => ?_)
        refine z_iconst (pc := 32) hE dX11_nearest_32 q_iconst_1 ?_
        refine z_icmp_eq (pc := 33) hE 39 rfl dX11_nearest_33 ?_ ?_
        · refine z_aload_n (pc := 39) hE 0 0 rfl rfl dX11_nearest_39 ?_
          refine z_getr (pc := 40) hE fk_RX11_91 lX_0 rfl dX11_nearest_40 ?_
          refine z_iload_n (pc := 43) hE 1 1 rfl rfl dX11_nearest_43 ?_
          refine z_iload_n (pc := 44) hE 2 2 rfl rfl dX11_nearest_44 ?_
          refine z_callVv (pc := 45) (st := []) [.int a1, .int a2] hE kk_RX11_336 (c_X4_survey a1 a2) lX_66 rfl rfl rfl (Nat.le_of_ble_eq_true rfl) (by decide) dX11_nearest_45 (fun x3 => ?_)
          refine z_iconst (pc := 48) hE dX11_nearest_48 q_iconst_m1 ?_
          refine z_istore_n (L' := [(3, .int ((-1 : Int32))), (0, .ref (ad 0)), (1, .int a1), (2, .int a2)]) (pc := 49) hE 3 rfl (by decide) rfl dX11_nearest_49 ?_
          refine z_iconst (pc := 50) hE dX11_nearest_50 q_iconst_0 ?_
          refine z_istore (L' := [(4, .int ((0 : Int32))), (3, .int ((-1 : Int32))), (0, .ref (ad 0)), (1, .int a1), (2, .int a2)]) (pc := 51) hE (by decide) rfl dX11_nearest_51 ?_
          refine z_iconst (pc := 53) hE dX11_nearest_53 q_iconst_0 ?_
          refine z_istore (L' := [(5, .int ((0 : Int32))), (4, .int ((0 : Int32))), (3, .int ((-1 : Int32))), (0, .ref (ad 0)), (1, .int a1), (2, .int a2)]) (pc := 54) hE (by decide) rfl dX11_nearest_54 ?_
          refine z_iconst (pc := 56) hE dX11_nearest_56 q_iconst_0 ?_
          refine z_istore (L' := [(6, .int ((0 : Int32))), (5, .int ((0 : Int32))), (4, .int ((0 : Int32))), (3, .int ((-1 : Int32))), (0, .ref (ad 0)), (1, .int a1), (2, .int a2)]) (pc := 57) hE (by decide) rfl dX11_nearest_57 ?_
          refine z_sub (L' := [(0, .ref (ad 0)), (3, .int ((-1 : Int32))), (4, .int ((0 : Int32))), (5, .int ((0 : Int32))), (6, .int ((0 : Int32)))]) [4, 3, 2, 1, 0] rfl ?_
          refine z_loop (V := (Int32 × Int32 × Int32 × Int32)) (X := (Int32 × Int32 × Int32)) (hd := 59) (ex := 150) (Lh := fun v4 => [(0, .ref (ad 0)), (3, .int v4.1), (4, .int v4.2.1), (5, .int v4.2.2.1), (6, .int v4.2.2.2)]) (Lx := fun e7 => [(0, .ref (ad 0)), (3, .int e7.1), (4, .int e7.2.1), (5, .int e7.2.2)]) (fun rc6 k5 hrc6 hk5 v4 => ?_) zNF ((-1 : Int32), (0 : Int32), (0 : Int32), (0 : Int32)) _ (fun e7 => ?_)
          · unfold p_X11_nearest_b59
            refine z_iload (pc := 59) hE 4 rfl dX11_nearest_59 ?_
            refine z_aload_n (pc := 61) hE 0 0 rfl rfl dX11_nearest_61 ?_
            refine z_getr (pc := 62) hE fk_RX11_19 lX_0 rfl dX11_nearest_62 ?_
            refine z_geti (pc := 65) hE fk_RX11_331 lX_3 rfl dX11_nearest_65 (fun x8 => ?_)
            refine z_icmp_ge (pc := 68) hE 150 rfl dX11_nearest_68 ?_ ?_
            · exact z_sub [0, 1, 2, 3] rfl (hk5 (v4.1, v4.2.1, v4.2.2.1))
            · refine z_aload_n (pc := 71) hE 0 0 rfl rfl dX11_nearest_71 ?_
              refine z_getr (pc := 72) hE fk_RX11_42 lX_0 rfl dX11_nearest_72 ?_
              refine z_iload (pc := 75) hE 4 rfl dX11_nearest_75 ?_
              refine z_callVi (pc := 77) (st := []) [.int v4.2.2.2] hE kk_RX11_150 (c_X3_guestAt 20 zfk_20 v4.2.2.2) lX_20 rfl rfl rfl (Nat.le_of_ble_eq_true rfl) (by decide) dX11_nearest_77 (fun x9 => ?_)
              refine z_iconst (pc := 80) hE dX11_nearest_80 q_iconst_m1 ?_
              refine z_join (Y := (Int32 × Int32 × Int32)) (pcJ := 144) (Lj := fun y10 => [(0, .ref (ad 0)), (3, .int y10.1), (4, .int y10.2.1), (5, .int y10.2.2), (6, .int v4.2.2.2)]) (sj := fun y10 => []) (fun y10 => ?_) (fun j11 hj11 => ?_)
              · refine z_iinc (L' := [(6, .int (v4.2.2.2 + (1 : Int32))), (0, .ref (ad 0)), (3, .int y10.1), (4, .int y10.2.1), (5, .int y10.2.2)]) (pc := 144) hE 4 rfl (zinc q_iconst_1) (by decide) rfl dX11_nearest_144 ?_
                refine z_goto (pc := 147) hE 59 rfl dX11_nearest_147 ?_
                exact z_sub [1, 2, 3, 4, 0] rfl (hrc6 (y10.1, y10.2.1, y10.2.2, v4.2.2.2 + (1 : Int32)))
              refine z_icmp_ne (pc := 81) hE 144 rfl dX11_nearest_81 ?_ ?_
              · exact z_sub [0, 1, 2, 3, 4] rfl (hj11 (v4.1, v4.2.1, v4.2.2.1))
              · refine z_aload_n (pc := 84) hE 0 0 rfl rfl dX11_nearest_84 ?_
                refine z_getr (pc := 85) hE fk_RX11_91 lX_0 rfl dX11_nearest_85 ?_
                refine z_aload_n (pc := 88) hE 0 0 rfl rfl dX11_nearest_88 ?_
                refine z_getr (pc := 89) hE fk_RX11_19 lX_0 rfl dX11_nearest_89 ?_
                refine z_getr (pc := 92) hE fk_RX11_143 lX_3 rfl dX11_nearest_92 ?_
                refine z_iload (pc := 95) hE 4 rfl dX11_nearest_95 ?_
                refine z_iald (pc := 97) hE lX_4 dX11_nearest_97 (fun x12 => ?_)
                refine z_callVi (pc := 98) (st := []) [.int x12] hE kk_RX11_340 (c_X4_plan x12) lX_66 rfl rfl rfl (Nat.le_of_ble_eq_true rfl) (by decide) dX11_nearest_98 (fun x13 => ?_)
                refine z_if_eq (pc := 101) hE 144 rfl dX11_nearest_101 ?_ ?_
                · exact z_sub [0, 1, 2, 3, 4] rfl (hj11 (v4.1, v4.2.1, v4.2.2.1))
                · refine z_iload_n (pc := 104) hE 1 3 rfl rfl dX11_nearest_104 ?_
                  refine z_iconst (pc := 105) hE dX11_nearest_105 q_iconst_m1 ?_
                  refine z_join (Y := Unit) (pcJ := 123) (Lj := fun y14 => [(0, .ref (ad 0)), (6, .int v4.2.2.2)]) (sj := fun y14 => []) (fun y14 => ?_) (fun j15 hj15 => ?_)
                  · refine z_iload (pc := 123) hE 1 rfl dX11_nearest_123 ?_
                    refine z_istore_n (L' := [(3, .int v4.2.2.2), (0, .ref (ad 0)), (6, .int v4.2.2.2)]) (pc := 125) hE 3 rfl (by decide) rfl dX11_nearest_125 ?_
                    refine z_aload_n (pc := 126) hE 1 0 rfl rfl dX11_nearest_126 ?_
                    refine z_getr (pc := 127) hE fk_RX11_91 lX_0 rfl dX11_nearest_127 ?_
                    refine z_geti (pc := 130) hE fk_RX11_352 lX_66 rfl dX11_nearest_130 (fun x16 => ?_)
                    refine z_istore (L' := [(4, .int x16), (3, .int v4.2.2.2), (0, .ref (ad 0)), (6, .int v4.2.2.2)]) (pc := 133) hE (by decide) rfl dX11_nearest_133 ?_
                    refine z_aload_n (pc := 135) hE 2 0 rfl rfl dX11_nearest_135 ?_
                    refine z_getr (pc := 136) hE fk_RX11_91 lX_0 rfl dX11_nearest_136 ?_
                    refine z_geti (pc := 139) hE fk_RX11_346 lX_66 rfl dX11_nearest_139 (fun x17 => ?_)
                    refine z_istore (L' := [(5, .int x17), (4, .int x16), (3, .int v4.2.2.2), (0, .ref (ad 0)), (6, .int v4.2.2.2)]) (pc := 142) hE (by decide) rfl dX11_nearest_142 ?_
                    exact z_sub [3, 2, 1, 0, 4] rfl (hj11 (v4.2.2.2, x16, x17))
                  refine z_icmp_eq (pc := 106) hE 123 rfl dX11_nearest_106 ?_ ?_
                  · exact z_sub [0, 4] rfl (hj15 ())
                  · refine z_aload_n (pc := 109) hE 0 0 rfl rfl dX11_nearest_109 ?_
                    refine z_getr (pc := 110) hE fk_RX11_91 lX_0 rfl dX11_nearest_110 ?_
                    refine z_iload (pc := 113) hE 2 rfl dX11_nearest_113 ?_
                    refine z_iload (pc := 115) hE 3 rfl dX11_nearest_115 ?_
                    refine z_callVi (pc := 117) (st := []) [.int v4.2.1, .int v4.2.2.1] hE kk_RX11_354 (c_X4_beats v4.2.1 v4.2.2.1) lX_66 rfl rfl rfl (Nat.le_of_ble_eq_true rfl) (by decide) dX11_nearest_117 (fun x18 => ?_)
                    refine z_if_eq (pc := 120) hE 144 rfl dX11_nearest_120 ?_ ?_
                    · exact z_sub [0, 1, 2, 3, 4] rfl (hj11 (v4.1, v4.2.1, v4.2.2.1))
                    · exact z_sub [0, 4] rfl (hj15 ())
          · refine z_iload_n (pc := 150) hE 1 3 rfl rfl dX11_nearest_150 ?_
            refine z_iconst (pc := 151) hE dX11_nearest_151 q_iconst_m1 ?_
            refine z_icmp_ne (pc := 152) hE 158 rfl dX11_nearest_152 ?_ ?_
            · refine z_aload_n (pc := 158) hE 0 0 rfl rfl dX11_nearest_158 ?_
              refine z_iload (pc := 159) hE 2 rfl dX11_nearest_159 ?_
              refine z_i2l (pc := 161) hE dX11_nearest_161 ?_
              refine z_iload (pc := 162) hE 3 rfl dX11_nearest_162 ?_
              refine z_i2l (pc := 164) hE dX11_nearest_164 ?_
              refine z_callVv (pc := 165) (st := []) [.long e7.2.1.toInt64, .long e7.2.2.toInt64] hE kk_RX11_242 (c_X11_tell e7.2.1.toInt64 e7.2.2.toInt64) lX_0 rfl rfl rfl (Nat.le_of_ble_eq_true rfl) (by decide) dX11_nearest_165 (fun x19 => ?_)
              refine z_iload_n (pc := 168) hE 1 3 rfl rfl dX11_nearest_168 ?_
              exact z_ireturn (pc := 169) hE hr dX11_nearest_169
            · refine z_bipush (pc := 155) hE dX11_nearest_155 q_bipush_m2 ?_
              exact z_ireturn (pc := 157) hE hr dX11_nearest_157
        · refine z_bipush (pc := 36) hE dX11_nearest_36 q_bipush_m3 ?_
          exact z_ireturn (pc := 38) hE hr dX11_nearest_38
      · refine z_iconst (pc := 21) hE dX11_nearest_21 q_iconst_m1 ?_
        exact z_ireturn (pc := 22) hE hr dX11_nearest_22
set_option maxRecDepth 100000 in
set_option maxHeartbeats 4000000 in
theorem c_X11_withRope {l : Launch} {ad : Nat → Nat} {ca : FieldType → ClassId} {D : va_G} {tt : Nat → Nat} (a1 : Int32) (a2 : Int32) : zC l yX11_withRope cX11_withRope 5 (some .int) 0 layX ad ca D (xtX ad tt) [.ref (ad 0), .int a1, .int a2] zvi (p_X11_withRope a1 a2) := by
  refine z_enter (by decide) (Nat.le_of_ble_eq_true rfl) (fun E hE hl0 hcD hr => ?_)
  have hE : zok layX ad (xtX ad tt) E cX11_withRope 5 RX11 0 := hE
  show Z layX ad E 5 (zFin layX ad E zvi) 0 [(0, .ref (ad 0)), (1, .int a1), (2, .int a2)] [] (p_X11_withRope a1 a2)
  unfold p_X11_withRope
  refine z_iconst (pc := 0) hE dX11_withRope_0 q_iconst_0 ?_
  refine z_istore_n (L' := [(3, .int ((0 : Int32))), (0, .ref (ad 0)), (1, .int a1), (2, .int a2)]) (pc := 1) hE 3 rfl (by decide) rfl dX11_withRope_1 ?_
  refine z_iconst (pc := 2) hE dX11_withRope_2 q_iconst_0 ?_
  refine z_istore (L' := [(4, .int ((0 : Int32))), (3, .int ((0 : Int32))), (0, .ref (ad 0)), (1, .int a1), (2, .int a2)]) (pc := 3) hE (by decide) rfl dX11_withRope_3 ?_
  refine z_sub (L' := [(0, .ref (ad 0)), (1, .int a1), (2, .int a2), (3, .int ((0 : Int32))), (4, .int ((0 : Int32)))]) [2, 3, 4, 1, 0] rfl ?_
  refine z_loop (V := (Int32 × Int32)) (X := Int32) (hd := 5) (ex := 50) (Lh := fun v1 => [(0, .ref (ad 0)), (1, .int a1), (2, .int a2), (3, .int v1.1), (4, .int v1.2)]) (Lx := fun e4 => [(3, .int e4)]) (fun rc3 k2 hrc3 hk2 v1 => ?_) zNF ((0 : Int32), (0 : Int32)) _ (fun e4 => ?_)
  · unfold p_X11_withRope_b5
    refine z_iload (pc := 5) hE 4 rfl dX11_withRope_5 ?_
    refine z_aload_n (pc := 7) hE 0 0 rfl rfl dX11_withRope_7 ?_
    refine z_getr (pc := 8) hE fk_RX11_42 lX_0 rfl dX11_withRope_8 ?_
    refine z_geti (pc := 11) hE fk_RX11_197 lX_20 rfl dX11_withRope_11 (fun x5 => ?_)
    refine z_icmp_ge (pc := 14) hE 50 rfl dX11_withRope_14 ?_ ?_
    · exact z_sub [3] rfl (hk2 v1.1)
    · refine z_iload_n (pc := 17) hE 1 1 rfl rfl dX11_withRope_17 ?_
      refine z_iload (pc := 18) hE 4 rfl dX11_withRope_18 ?_
      refine z_ishr (pc := 20) hE dX11_withRope_20 ?_
      refine z_iconst (pc := 21) hE dX11_withRope_21 q_iconst_1 ?_
      refine z_iand (pc := 22) hE dX11_withRope_22 ?_
      refine z_iconst (pc := 23) hE dX11_withRope_23 q_iconst_1 ?_
      refine z_join (Y := Int32) (pcJ := 44) (Lj := fun y6 => [(0, .ref (ad 0)), (1, .int a1), (2, .int a2), (3, .int y6), (4, .int v1.2)]) (sj := fun y6 => []) (fun y6 => ?_) (fun j7 hj7 => ?_)
      · refine z_iinc (L' := [(4, .int (v1.2 + (1 : Int32))), (0, .ref (ad 0)), (1, .int a1), (2, .int a2), (3, .int y6)]) (pc := 44) hE 4 rfl (zinc q_iconst_1) (by decide) rfl dX11_withRope_44 ?_
        refine z_goto (pc := 47) hE 5 rfl dX11_withRope_47 ?_
        exact z_sub [1, 2, 3, 4, 0] rfl (hrc3 (y6, v1.2 + (1 : Int32)))
      refine z_icmp_ne (pc := 24) hE 44 rfl dX11_withRope_24 ?_ ?_
      · exact z_sub [0, 1, 2, 3, 4] rfl (hj7 v1.1)
      · refine z_aload_n (pc := 27) hE 0 0 rfl rfl dX11_withRope_27 ?_
        refine z_getr (pc := 28) hE fk_RX11_42 lX_0 rfl dX11_withRope_28 ?_
        refine z_getr (pc := 31) hE fk_RX11_170 lX_20 rfl dX11_withRope_31 ?_
        refine z_iload (pc := 34) hE 4 rfl dX11_withRope_34 ?_
        refine z_iald (pc := 36) hE lX_26 dX11_withRope_36 (fun x8 => ?_)
        refine z_iload_n (pc := 37) hE 2 2 rfl rfl dX11_withRope_37 ?_
        refine z_icmp_ne (pc := 38) hE 44 rfl dX11_withRope_38 ?_ ?_
        · exact z_sub [0, 1, 2, 3, 4] rfl (hj7 v1.1)
        · refine z_iinc (L' := [(3, .int (v1.1 + (1 : Int32))), (0, .ref (ad 0)), (1, .int a1), (2, .int a2), (4, .int v1.2)]) (pc := 41) hE 3 rfl (zinc q_iconst_1) (by decide) rfl dX11_withRope_41 ?_
          exact z_sub [1, 2, 3, 0, 4] rfl (hj7 (v1.1 + (1 : Int32)))
  · refine z_iload_n (pc := 50) hE 0 3 rfl rfl dX11_withRope_50 ?_
    exact z_ireturn (pc := 51) hE hr dX11_withRope_51
set_option maxRecDepth 100000 in
set_option maxHeartbeats 4000000 in
theorem c_X11_savable {l : Launch} {ad : Nat → Nat} {ca : FieldType → ClassId} {D : va_G} {tt : Nat → Nat} (a1 : Int32) (a2 : Int32) : zC l yX11_savable cX11_savable 5 (some .int) 1 layX ad ca D (xtX ad tt) [.ref (ad 0), .int a1, .int a2] zvi (p_X11_savable a1 a2) := by
  refine z_enter (by decide) (Nat.le_of_ble_eq_true rfl) (fun E hE hl0 hcD hr => ?_)
  have hE : zok layX ad (xtX ad tt) E cX11_savable 5 RX11 1 := hE
  show Z layX ad E 5 (zFin layX ad E zvi) 0 [(0, .ref (ad 0)), (1, .int a1), (2, .int a2)] [] (p_X11_savable a1 a2)
  unfold p_X11_savable
  refine z_iconst (pc := 0) hE dX11_savable_0 q_iconst_0 ?_
  refine z_istore_n (L' := [(3, .int ((0 : Int32))), (0, .ref (ad 0)), (1, .int a1), (2, .int a2)]) (pc := 1) hE 3 rfl (by decide) rfl dX11_savable_1 ?_
  refine z_iload_n (pc := 2) hE 3 2 rfl rfl dX11_savable_2 ?_
  refine z_iconst (pc := 3) hE dX11_savable_3 q_iconst_1 ?_
  refine z_iadd (pc := 4) hE dX11_savable_4 ?_
  refine z_istore (L' := [(4, .int (a2 + ((1 : Int32)))), (3, .int ((0 : Int32))), (0, .ref (ad 0)), (1, .int a1), (2, .int a2)]) (pc := 5) hE (by decide) rfl dX11_savable_5 ?_
  refine z_sub (L' := [(0, .ref (ad 0)), (1, .int a1), (2, .int a2), (3, .int ((0 : Int32))), (4, .int (a2 + ((1 : Int32))))]) [2, 3, 4, 1, 0] rfl ?_
  refine z_loop (V := (Int32 × Int32)) (X := Int32) (hd := 7) (ex := 37) (Lh := fun v1 => [(0, .ref (ad 0)), (1, .int a1), (2, .int a2), (3, .int v1.1), (4, .int v1.2)]) (Lx := fun e4 => [(3, .int e4)]) (fun rc3 k2 hrc3 hk2 v1 => ?_) zNF ((0 : Int32), a2 + ((1 : Int32))) _ (fun e4 => ?_)
  · unfold p_X11_savable_b7
    refine z_iload (pc := 7) hE 4 rfl dX11_savable_7 ?_
    refine z_bipush (pc := 9) hE dX11_savable_9 q_bipush_9 ?_
    refine z_icmp_gt (pc := 11) hE 37 rfl dX11_savable_11 ?_ ?_
    · exact z_sub [3] rfl (hk2 v1.1)
    · refine z_iload_n (pc := 14) hE 3 3 rfl rfl dX11_savable_14 ?_
      refine z_aload_n (pc := 15) hE 0 0 rfl rfl dX11_savable_15 ?_
      refine z_iload_n (pc := 16) hE 1 1 rfl rfl dX11_savable_16 ?_
      refine z_iload (pc := 17) hE 4 rfl dX11_savable_17 ?_
      refine z_callVi (pc := 19) (st := [.int v1.1]) [.int a1, .int v1.2] hE kk_RX11_363 (c_X11_withRope a1 v1.2) lX_0 rfl rfl rfl (Nat.le_of_ble_eq_true rfl) (by decide) dX11_savable_19 (fun x5 => ?_)
      refine z_iadd (pc := 22) hE dX11_savable_22 ?_
      refine z_iload (pc := 23) hE 4 rfl dX11_savable_23 ?_
      refine z_iload_n (pc := 25) hE 2 2 rfl rfl dX11_savable_25 ?_
      refine z_isub (pc := 26) hE dX11_savable_26 ?_
      refine z_min (pc := 27) hE kk_RX11_202 (Nat.le_of_ble_eq_true rfl) (by decide) dX11_savable_27 ?_
      refine z_istore_n (L' := [(3, .int (zmn (v1.1 + x5) (v1.2 - a2))), (0, .ref (ad 0)), (1, .int a1), (2, .int a2), (4, .int v1.2)]) (pc := 30) hE 3 rfl (by decide) rfl dX11_savable_30 ?_
      refine z_iinc (L' := [(4, .int (v1.2 + (1 : Int32))), (3, .int (zmn (v1.1 + x5) (v1.2 - a2))), (0, .ref (ad 0)), (1, .int a1), (2, .int a2)]) (pc := 31) hE 4 rfl (zinc q_iconst_1) (by decide) rfl dX11_savable_31 ?_
      refine z_goto (pc := 34) hE 7 rfl dX11_savable_34 ?_
      exact z_sub [2, 3, 4, 1, 0] rfl (hrc3 (zmn (v1.1 + x5) (v1.2 - a2), v1.2 + (1 : Int32)))
  · refine z_iload_n (pc := 37) hE 0 3 rfl rfl dX11_savable_37 ?_
    exact z_ireturn (pc := 38) hE hr dX11_savable_38
set_option maxRecDepth 100000 in
set_option maxHeartbeats 4000000 in
theorem c_X11_firstDown {l : Launch} {ad : Nat → Nat} {ca : FieldType → ClassId} {D : va_G} {tt : Nat → Nat} (a1 : Int32) (a2 : Int32) (a3 : Int32) : zC l yX11_firstDown cX11_firstDown 5 (some .int) 2 layX ad ca D (xtX ad tt) [.ref (ad 0), .int a1, .int a2, .int a3] zvi (p_X11_firstDown a1 a2 a3) := by
  refine z_enter (by decide) (Nat.le_of_ble_eq_true rfl) (fun E hE hl0 hcD hr => ?_)
  have hE : zok layX ad (xtX ad tt) E cX11_firstDown 5 RX11 2 := hE
  show Z layX ad E 5 (zFin layX ad E zvi) 0 [(0, .ref (ad 0)), (1, .int a1), (2, .int a2), (3, .int a3)] [] (p_X11_firstDown a1 a2 a3)
  unfold p_X11_firstDown
  refine z_iconst (pc := 0) hE dX11_firstDown_0 q_iconst_0 ?_
  refine z_istore (L' := [(4, .int ((0 : Int32))), (0, .ref (ad 0)), (1, .int a1), (2, .int a2), (3, .int a3)]) (pc := 1) hE (by decide) rfl dX11_firstDown_1 ?_
  refine z_sub (L' := [(0, .ref (ad 0)), (1, .int a1), (2, .int a2), (3, .int a3), (4, .int ((0 : Int32)))]) [1, 2, 3, 4, 0] rfl ?_
  refine z_loop (V := Int32) (X := Unit) (hd := 3) (ex := 67) (Lh := fun v1 => [(0, .ref (ad 0)), (1, .int a1), (2, .int a2), (3, .int a3), (4, .int v1)]) (Lx := fun e4 => []) (fun rc3 k2 hrc3 hk2 v1 => ?_) zNF ((0 : Int32)) _ (fun e4 => ?_)
  · unfold p_X11_firstDown_b3
    refine z_iload (pc := 3) hE 4 rfl dX11_firstDown_3 ?_
    refine z_aload_n (pc := 5) hE 0 0 rfl rfl dX11_firstDown_5 ?_
    refine z_getr (pc := 6) hE fk_RX11_42 lX_0 rfl dX11_firstDown_6 ?_
    refine z_geti (pc := 9) hE fk_RX11_197 lX_20 rfl dX11_firstDown_9 (fun x5 => ?_)
    refine z_icmp_ge (pc := 12) hE 67 rfl dX11_firstDown_12 ?_ ?_
    · exact z_sub [] rfl (hk2 ())
    · refine z_iload_n (pc := 15) hE 1 1 rfl rfl dX11_firstDown_15 ?_
      refine z_iload (pc := 16) hE 4 rfl dX11_firstDown_16 ?_
      refine z_ishr (pc := 18) hE dX11_firstDown_18 ?_
      refine z_iconst (pc := 19) hE dX11_firstDown_19 q_iconst_1 ?_
      refine z_iand (pc := 20) hE dX11_firstDown_20 ?_
      refine z_iconst (pc := 21) hE dX11_firstDown_21 q_iconst_1 ?_
      refine z_join (Y := Unit) (pcJ := 61) (Lj := fun y6 => [(0, .ref (ad 0)), (1, .int a1), (2, .int a2), (3, .int a3), (4, .int v1)]) (sj := fun y6 => []) (fun y6 => ?_) (fun j7 hj7 => ?_)
      · refine z_iinc (L' := [(4, .int (v1 + (1 : Int32))), (0, .ref (ad 0)), (1, .int a1), (2, .int a2), (3, .int a3)]) (pc := 61) hE 4 rfl (zinc q_iconst_1) (by decide) rfl dX11_firstDown_61 ?_
        refine z_goto (pc := 64) hE 3 rfl dX11_firstDown_64 ?_
        exact z_sub [1, 2, 3, 4, 0] rfl (hrc3 (v1 + (1 : Int32)))
      refine z_icmp_ne (pc := 22) hE 61 rfl dX11_firstDown_22 ?_ ?_
      · exact z_sub [0, 1, 2, 3, 4] rfl (hj7 ())
      · refine z_aload_n (pc := 25) hE 0 0 rfl rfl dX11_firstDown_25 ?_
        refine z_getr (pc := 26) hE fk_RX11_42 lX_0 rfl dX11_firstDown_26 ?_
        refine z_getr (pc := 29) hE fk_RX11_170 lX_20 rfl dX11_firstDown_29 ?_
        refine z_iload (pc := 32) hE 4 rfl dX11_firstDown_32 ?_
        refine z_iald (pc := 34) hE lX_26 dX11_firstDown_34 (fun x8 => ?_)
        refine z_iload_n (pc := 35) hE 2 2 rfl rfl dX11_firstDown_35 ?_
        refine z_icmp_lt (pc := 36) hE 61 rfl dX11_firstDown_36 ?_ ?_
        · exact z_sub [0, 1, 2, 3, 4] rfl (hj7 ())
        · refine z_iload_n (pc := 39) hE 2 2 rfl rfl dX11_firstDown_39 ?_
          refine z_aload_n (pc := 40) hE 0 0 rfl rfl dX11_firstDown_40 ?_
          refine z_iload_n (pc := 41) hE 1 1 rfl rfl dX11_firstDown_41 ?_
          refine z_iconst (pc := 42) hE dX11_firstDown_42 q_iconst_1 ?_
          refine z_iload (pc := 43) hE 4 rfl dX11_firstDown_43 ?_
          refine z_ishl (pc := 45) hE dX11_firstDown_45 ?_
          refine z_iconst (pc := 46) hE dX11_firstDown_46 q_iconst_m1 ?_
          refine z_ixor (pc := 47) hE dX11_firstDown_47 ?_
          refine z_iand (pc := 48) hE dX11_firstDown_48 ?_
          refine z_iload_n (pc := 49) hE 2 2 rfl rfl dX11_firstDown_49 ?_
          refine z_callVi (pc := 50) (st := [.int a2]) [.int (a1 &&& ((((1 : Int32)) <<< (v1 &&& 31)) ^^^ ((-1 : Int32)))), .int a2] hE kk_RX11_357 (c_X11_savable (a1 &&& ((((1 : Int32)) <<< (v1 &&& 31)) ^^^ ((-1 : Int32)))) a2) lX_0 rfl rfl rfl (Nat.le_of_ble_eq_true rfl) (by decide) dX11_firstDown_50 (fun x9 => ?_)
          refine z_iadd (pc := 53) hE dX11_firstDown_53 ?_
          refine z_iload_n (pc := 54) hE 3 3 rfl rfl dX11_firstDown_54 ?_
          refine z_icmp_ne (pc := 55) hE 61 rfl dX11_firstDown_55 ?_ ?_
          · exact z_sub [0, 1, 2, 3, 4] rfl (hj7 ())
          · refine z_iload (pc := 58) hE 4 rfl dX11_firstDown_58 ?_
            exact z_ireturn (pc := 60) hE hr dX11_firstDown_60
  · refine z_iconst (pc := 67) hE dX11_firstDown_67 q_iconst_m1 ?_
    exact z_ireturn (pc := 68) hE hr dX11_firstDown_68
set_option maxRecDepth 100000 in
set_option maxHeartbeats 4000000 in
theorem c_X11_storm {l : Launch} {ad : Nat → Nat} {ca : FieldType → ClassId} {D : va_G} {tt : Nat → Nat}  : zC l yX11_storm cX11_storm 5 (some .int) 3 layX ad ca D (xtX ad tt) [.ref (ad 0)] zvi (p_X11_storm) := by
  refine z_enter (by decide) (Nat.le_of_ble_eq_true rfl) (fun E hE hl0 hcD hr => ?_)
  have hE : zok layX ad (xtX ad tt) E cX11_storm 5 RX11 3 := hE
  show Z layX ad E 5 (zFin layX ad E zvi) 0 [(0, .ref (ad 0))] [] (p_X11_storm)
  unfold p_X11_storm
  refine z_aload_n (pc := 0) hE 0 0 rfl rfl dX11_storm_0 ?_
  refine z_getr (pc := 1) hE fk_RX11_42 lX_0 rfl dX11_storm_1 ?_
  refine z_iconst (pc := 4) hE dX11_storm_4 q_iconst_2 ?_
  refine z_callVi (pc := 5) (st := []) [.int ((2 : Int32))] hE kk_RX11_247 (c_X3_those 20 zfk_20 ((2 : Int32))) lX_20 rfl rfl rfl (Nat.le_of_ble_eq_true rfl) (by decide) dX11_storm_5 (fun x1 => ?_)
  refine z_istore_n (L' := [(1, .int x1), (0, .ref (ad 0))]) (pc := 8) hE 1 rfl (by decide) rfl dX11_storm_8 ?_
  refine z_aload_n (pc := 9) hE 1 0 rfl rfl dX11_storm_9 ?_
  refine z_iload_n (pc := 10) hE 0 1 rfl rfl dX11_storm_10 ?_
  refine z_iconst (pc := 11) hE dX11_storm_11 q_iconst_0 ?_
  refine z_callVi (pc := 12) (st := []) [.int x1, .int ((0 : Int32))] hE kk_RX11_357 (c_X11_savable x1 ((0 : Int32))) lX_0 rfl rfl rfl (Nat.le_of_ble_eq_true rfl) (by decide) dX11_storm_12 (fun x2 => ?_)
  refine z_istore_n (L' := [(2, .int x2), (1, .int x1), (0, .ref (ad 0))]) (pc := 15) hE 2 rfl (by decide) rfl dX11_storm_15 ?_
  refine z_aload_n (pc := 16) hE 2 0 rfl rfl dX11_storm_16 ?_
  refine z_getr (pc := 17) hE fk_RX11_59 lX_0 rfl dX11_storm_17 ?_
  refine z_iconst (pc := 20) hE dX11_storm_20 q_iconst_0 ?_
  refine z_puti (pc := 21) hE fk_RX11_288 lX_48 rfl dX11_storm_21 ?_
  refine z_iconst (pc := 24) hE dX11_storm_24 q_iconst_1 ?_
  refine z_istore_n (L' := [(3, .int ((1 : Int32))), (2, .int x2), (1, .int x1), (0, .ref (ad 0))]) (pc := 25) hE 3 rfl (by decide) rfl dX11_storm_25 ?_
  refine z_sub (L' := [(0, .ref (ad 0)), (1, .int x1), (2, .int x2), (3, .int ((1 : Int32)))]) [3, 2, 1, 0] rfl ?_
  refine z_loop (V := (Int32 × Int32)) (X := Unit) (hd := 26) (ex := 71) (Lh := fun v3 => [(0, .ref (ad 0)), (1, .int v3.1), (2, .int x2), (3, .int v3.2)]) (Lx := fun e6 => [(2, .int x2)]) (fun rc5 k4 hrc5 hk4 v3 => ?_) zNF (x1, (1 : Int32)) _ (fun e6 => ?_)
  · unfold p_X11_storm_b26
    refine z_iload_n (pc := 26) hE 3 3 rfl rfl dX11_storm_26 ?_
    refine z_iload_n (pc := 27) hE 2 2 rfl rfl dX11_storm_27 ?_
    refine z_icmp_gt (pc := 28) hE 71 rfl dX11_storm_28 ?_ ?_
    · exact z_sub [2] rfl (hk4 ())
    · refine z_aload_n (pc := 31) hE 0 0 rfl rfl dX11_storm_31 ?_
      refine z_iload_n (pc := 32) hE 1 1 rfl rfl dX11_storm_32 ?_
      refine z_iload_n (pc := 33) hE 3 3 rfl rfl dX11_storm_33 ?_
      refine z_iload_n (pc := 34) hE 2 2 rfl rfl dX11_storm_34 ?_
      refine z_callVi (pc := 35) (st := []) [.int v3.1, .int v3.2, .int x2] hE kk_RX11_360 (c_X11_firstDown v3.1 v3.2 x2) lX_0 rfl rfl rfl (Nat.le_of_ble_eq_true rfl) (by decide) dX11_storm_35 (fun x7 => ?_)
      refine z_istore (L' := [(4, .int x7), (0, .ref (ad 0)), (1, .int v3.1), (2, .int x2), (3, .int v3.2)]) (pc := 38) hE (by decide) rfl dX11_storm_38 ?_
      refine z_iload (pc := 40) hE 0 rfl dX11_storm_40 ?_
      refine z_iconst (pc := 42) hE dX11_storm_42 q_iconst_m1 ?_
      refine z_join (Y := Int32) (pcJ := 65) (Lj := fun y8 => [(0, .ref (ad 0)), (1, .int y8), (2, .int x2), (3, .int v3.2)]) (sj := fun y8 => []) (fun y8 => ?_) (fun j9 hj9 => ?_)
      · refine z_iinc (L' := [(3, .int (v3.2 + (1 : Int32))), (0, .ref (ad 0)), (1, .int y8), (2, .int x2)]) (pc := 65) hE 3 rfl (zinc q_iconst_1) (by decide) rfl dX11_storm_65 ?_
        refine z_goto (pc := 68) hE 26 rfl dX11_storm_68 ?_
        exact z_sub [1, 2, 3, 0] rfl (hrc5 (y8, v3.2 + (1 : Int32)))
      refine z_icmp_eq (pc := 43) hE 65 rfl dX11_storm_43 ?_ ?_
      · exact z_sub [1, 2, 3, 4] rfl (hj9 v3.1)
      · refine z_aload_n (pc := 46) hE 1 0 rfl rfl dX11_storm_46 ?_
        refine z_getr (pc := 47) hE fk_RX11_59 lX_0 rfl dX11_storm_47 ?_
        refine z_iload (pc := 50) hE 0 rfl dX11_storm_50 ?_
        refine z_i2l (pc := 52) hE dX11_storm_52 ?_
        refine z_callVv (pc := 53) (st := []) [.long x7.toInt64] hE kk_RX11_306 (c_X1_add x7.toInt64) lX_48 rfl rfl rfl (Nat.le_of_ble_eq_true rfl) (by decide) dX11_storm_53 (fun x10 => ?_)
        refine z_iload_n (pc := 56) hE 2 1 rfl rfl dX11_storm_56 ?_
        refine z_iconst (pc := 57) hE dX11_storm_57 q_iconst_1 ?_
        refine z_iload (pc := 58) hE 0 rfl dX11_storm_58 ?_
        refine z_ishl (pc := 60) hE dX11_storm_60 ?_
        refine z_iconst (pc := 61) hE dX11_storm_61 q_iconst_m1 ?_
        refine z_ixor (pc := 62) hE dX11_storm_62 ?_
        refine z_iand (pc := 63) hE dX11_storm_63 ?_
        refine z_istore_n (L' := [(1, .int (v3.1 &&& ((((1 : Int32)) <<< (x7 &&& 31)) ^^^ ((-1 : Int32))))), (4, .int x7), (0, .ref (ad 0)), (2, .int x2), (3, .int v3.2)]) (pc := 64) hE 1 rfl (by decide) rfl dX11_storm_64 ?_
        exact z_sub [2, 0, 3, 4] rfl (hj9 (v3.1 &&& ((((1 : Int32)) <<< (x7 &&& 31)) ^^^ ((-1 : Int32)))))
  · refine z_iload_n (pc := 71) hE 0 2 rfl rfl dX11_storm_71 ?_
    exact z_ireturn (pc := 72) hE hr dX11_storm_72
set_option maxRecDepth 100000 in
set_option maxHeartbeats 4000000 in
theorem c_X11_gain {l : Launch} {ad : Nat → Nat} {ca : FieldType → ClassId} {D : va_G} {tt : Nat → Nat} (a1 : Int32) (a2 : Int32) (a3 : Int32) : zC l yX11_gain cX11_gain 4 (some .int) 0 layX ad ca D (xtX ad tt) [.int a1, .int a2, .int a3] zvi (p_X11_gain a1 a2 a3) := by
  refine z_enter (by decide) (Nat.le_of_ble_eq_true rfl) (fun E hE hl0 hcD hr => ?_)
  have hE : zok layX ad (xtX ad tt) E cX11_gain 4 RX11 0 := hE
  show Z layX ad E 4 (zFin layX ad E zvi) 0 [(0, .int a1), (1, .int a2), (2, .int a3)] [] (p_X11_gain a1 a2 a3)
  unfold p_X11_gain
  refine z_iload_n (pc := 0) hE 0 0 rfl rfl dX11_gain_0 ?_
  refine z_iload_n (pc := 1) hE 1 1 rfl rfl dX11_gain_1 ?_
  refine z_join (Y := Int32) (pcJ := 20) (Lj := fun y1 => [(0, .int a1), (2, .int a3)]) (sj := fun y1 => [.int y1]) (fun y1 => ?_) (fun j2 hj2 => ?_)
  · refine z_istore_n (L' := [(3, .int y1), (0, .int a1), (2, .int a3)]) (pc := 20) hE 3 rfl (by decide) rfl dX11_gain_20 ?_
    refine z_iload_n (pc := 21) hE 1 0 rfl rfl dX11_gain_21 ?_
    refine z_iload_n (pc := 22) hE 2 2 rfl rfl dX11_gain_22 ?_
    refine z_isub (pc := 23) hE dX11_gain_23 ?_
    refine z_iload_n (pc := 24) hE 0 3 rfl rfl dX11_gain_24 ?_
    refine z_imul (pc := 25) hE dX11_gain_25 ?_
    exact z_ireturn (pc := 26) hE hr dX11_gain_26
  refine z_icmp_ge (pc := 2) hE 10 rfl dX11_gain_2 ?_ ?_
  · refine z_iload_n (pc := 10) hE 0 0 rfl rfl dX11_gain_10 ?_
    refine z_iload_n (pc := 11) hE 1 1 rfl rfl dX11_gain_11 ?_
    refine z_icmp_ne (pc := 12) hE 19 rfl dX11_gain_12 ?_ ?_
    · refine z_iconst (pc := 19) hE dX11_gain_19 q_iconst_0 ?_
      exact z_sub [0, 2] rfl (hj2 ((0 : Int32)))
    · refine z_iconst (pc := 15) hE dX11_gain_15 q_iconst_3 ?_
      refine z_goto (pc := 16) hE 20 rfl dX11_gain_16 ?_
      exact z_sub [0, 2] rfl (hj2 ((3 : Int32)))
  · refine z_bipush (pc := 5) hE dX11_gain_5 q_bipush_6 ?_
    refine z_goto (pc := 7) hE 20 rfl dX11_gain_7 ?_
    exact z_sub [0, 2] rfl (hj2 ((6 : Int32)))
set_option maxRecDepth 100000 in
set_option maxHeartbeats 4000000 in
theorem c_X11_isContent {l : Launch} {ad : Nat → Nat} {ca : FieldType → ClassId} {D : va_G} {tt : Nat → Nat} (a1 : Int32) (a2 : Int32) (a3 : Int32) : zC l yX11_isContent cX11_isContent 4 (some .boolean) 1 layX ad ca D (xtX ad tt) [.int a1, .int a2, .int a3] zvi (p_X11_isContent a1 a2 a3) := by
  refine z_enter (by decide) (Nat.le_of_ble_eq_true rfl) (fun E hE hl0 hcD hr => ?_)
  have hE : zok layX ad (xtX ad tt) E cX11_isContent 4 RX11 1 := hE
  show Z layX ad E 4 (zFin layX ad E zvi) 0 [(0, .int a1), (1, .int a2), (2, .int a3)] [] (p_X11_isContent a1 a2 a3)
  unfold p_X11_isContent
  refine z_iconst (pc := 0) hE dX11_isContent_0 q_iconst_1 ?_
  refine z_istore_n (L' := [(3, .int ((1 : Int32))), (0, .int a1), (1, .int a2), (2, .int a3)]) (pc := 1) hE 3 rfl (by decide) rfl dX11_isContent_1 ?_
  refine z_sub (L' := [(0, .int a1), (1, .int a2), (2, .int a3), (3, .int ((1 : Int32)))]) [1, 2, 3, 0] rfl ?_
  refine z_loop (V := Int32) (X := Unit) (hd := 2) (ex := 31) (Lh := fun v1 => [(0, .int a1), (1, .int a2), (2, .int a3), (3, .int v1)]) (Lx := fun e4 => []) (fun rc3 k2 hrc3 hk2 v1 => ?_) zNF ((1 : Int32)) _ (fun e4 => ?_)
  · unfold p_X11_isContent_b2
    refine z_iload_n (pc := 2) hE 3 3 rfl rfl dX11_isContent_2 ?_
    refine z_bipush (pc := 3) hE dX11_isContent_3 q_bipush_9 ?_
    refine z_icmp_gt (pc := 5) hE 31 rfl dX11_isContent_5 ?_ ?_
    · exact z_sub [] rfl (hk2 ())
    · refine z_iload_n (pc := 8) hE 3 3 rfl rfl dX11_isContent_8 ?_
      refine z_iload_n (pc := 9) hE 1 1 rfl rfl dX11_isContent_9 ?_
      refine z_iload_n (pc := 10) hE 2 2 rfl rfl dX11_isContent_10 ?_
      refine z_callSi (pc := 11) (st := []) [.int v1, .int a2, .int a3] hE kk_RX11_370 (c_X11_gain v1 a2 a3) rfl rfl (Nat.le_of_ble_eq_true rfl) (by decide) dX11_isContent_11 (fun x5 => ?_)
      refine z_iload_n (pc := 14) hE 0 0 rfl rfl dX11_isContent_14 ?_
      refine z_iload_n (pc := 15) hE 1 1 rfl rfl dX11_isContent_15 ?_
      refine z_iload_n (pc := 16) hE 2 2 rfl rfl dX11_isContent_16 ?_
      refine z_callSi (pc := 17) (st := [.int x5]) [.int a1, .int a2, .int a3] hE kk_RX11_370 (c_X11_gain a1 a2 a3) rfl rfl (Nat.le_of_ble_eq_true rfl) (by decide) dX11_isContent_17 (fun x6 => ?_)
      refine z_icmp_le (pc := 20) hE 25 rfl dX11_isContent_20 ?_ ?_
      · refine z_iinc (L' := [(3, .int (v1 + (1 : Int32))), (0, .int a1), (1, .int a2), (2, .int a3)]) (pc := 25) hE 3 rfl (zinc q_iconst_1) (by decide) rfl dX11_isContent_25 ?_
        refine z_goto (pc := 28) hE 2 rfl dX11_isContent_28 ?_
        exact z_sub [1, 2, 3, 0] rfl (hrc3 (v1 + (1 : Int32)))
      · refine z_iconst (pc := 23) hE dX11_isContent_23 q_iconst_0 ?_
        exact z_zreturn (pc := 24) hE hr dX11_isContent_24
  · refine z_iconst (pc := 31) hE dX11_isContent_31 q_iconst_1 ?_
    exact z_zreturn (pc := 32) hE hr dX11_isContent_32
set_option maxRecDepth 100000 in
set_option maxHeartbeats 4000000 in
theorem c_X11_rests {l : Launch} {ad : Nat → Nat} {ca : FieldType → ClassId} {D : va_G} {tt : Nat → Nat} (a1 : Int32) : zC l yX11_rests cX11_rests 5 (some .int) 3 layX ad ca D (xtX ad tt) [.ref (ad 0), .int a1] zvi (p_X11_rests a1) := by
  refine z_enter (by decide) (Nat.le_of_ble_eq_true rfl) (fun E hE hl0 hcD hr => ?_)
  have hE : zok layX ad (xtX ad tt) E cX11_rests 5 RX11 3 := hE
  show Z layX ad E 5 (zFin layX ad E zvi) 0 [(0, .ref (ad 0)), (1, .int a1)] [] (p_X11_rests a1)
  unfold p_X11_rests
  refine z_iload_n (pc := 0) hE 1 1 rfl rfl dX11_rests_0 ?_
  refine z_if_lt (pc := 1) hE 10 rfl dX11_rests_1 ?_ ?_
  · refine z_iconst (pc := 10) hE dX11_rests_10 q_iconst_m1 ?_
    exact z_ireturn (pc := 11) hE hr dX11_rests_11
  · refine z_iload_n (pc := 4) hE 1 1 rfl rfl dX11_rests_4 ?_
    refine z_bipush (pc := 5) hE dX11_rests_5 q_bipush_9 ?_
    refine z_icmp_le (pc := 7) hE 12 rfl dX11_rests_7 ?_ ?_
    · refine z_aload_n (pc := 12) hE 0 0 rfl rfl dX11_rests_12 ?_
      refine z_getr (pc := 13) hE fk_RX11_59 lX_0 rfl dX11_rests_13 ?_
      refine z_iconst (pc := 16) hE dX11_rests_16 q_iconst_0 ?_
      refine z_puti (pc := 17) hE fk_RX11_288 lX_48 rfl dX11_rests_17 ?_
      refine z_iconst (pc := 20) hE dX11_rests_20 q_iconst_0 ?_
      refine z_istore_n (L' := [(2, .int ((0 : Int32))), (0, .ref (ad 0)), (1, .int a1)]) (pc := 21) hE 2 rfl (by decide) rfl dX11_rests_21 ?_
      refine z_iconst (pc := 22) hE dX11_rests_22 q_iconst_1 ?_
      refine z_istore_n (L' := [(3, .int ((1 : Int32))), (2, .int ((0 : Int32))), (0, .ref (ad 0)), (1, .int a1)]) (pc := 23) hE 3 rfl (by decide) rfl dX11_rests_23 ?_
      refine z_sub (L' := [(0, .ref (ad 0)), (1, .int a1), (2, .int ((0 : Int32))), (3, .int ((1 : Int32)))]) [2, 3, 1, 0] rfl ?_
      refine z_loop (V := (Int32 × Int32)) (X := Int32) (hd := 24) (ex := 83) (Lh := fun v1 => [(0, .ref (ad 0)), (1, .int a1), (2, .int v1.1), (3, .int v1.2)]) (Lx := fun e4 => [(2, .int e4)]) (fun rc3 k2 hrc3 hk2 v1 => ?_) zNF ((0 : Int32), (1 : Int32)) _ (fun e4 => ?_)
      · unfold p_X11_rests_b24
        refine z_iload_n (pc := 24) hE 3 3 rfl rfl dX11_rests_24 ?_
        refine z_bipush (pc := 25) hE dX11_rests_25 q_bipush_9 ?_
        refine z_icmp_gt (pc := 27) hE 83 rfl dX11_rests_27 ?_ ?_
        · exact z_sub [2] rfl (hk2 v1.1)
        · refine z_iconst (pc := 30) hE dX11_rests_30 q_iconst_1 ?_
          refine z_istore (L' := [(4, .int ((1 : Int32))), (0, .ref (ad 0)), (1, .int a1), (2, .int v1.1), (3, .int v1.2)]) (pc := 31) hE (by decide) rfl dX11_rests_31 ?_
          refine z_sub (L' := [(0, .ref (ad 0)), (1, .int a1), (2, .int v1.1), (3, .int v1.2), (4, .int ((1 : Int32)))]) [1, 2, 3, 4, 0] rfl ?_
          refine z_loop (V := (Int32 × Int32)) (X := Int32) (hd := 33) (ex := 77) (Lh := fun v5 => [(0, .ref (ad 0)), (1, .int a1), (2, .int v5.1), (3, .int v1.2), (4, .int v5.2)]) (Lx := fun e8 => [(0, .ref (ad 0)), (1, .int a1), (2, .int e8), (3, .int v1.2)]) (fun rc7 k6 hrc7 hk6 v5 => ?_) zNF (v1.1, (1 : Int32)) _ (fun e8 => ?_)
          · unfold p_X11_rests_b33
            refine z_iload (pc := 33) hE 4 rfl dX11_rests_33 ?_
            refine z_bipush (pc := 35) hE dX11_rests_35 q_bipush_9 ?_
            refine z_icmp_gt (pc := 37) hE 77 rfl dX11_rests_37 ?_ ?_
            · exact z_sub [0, 1, 2, 3] rfl (hk6 v5.1)
            · refine z_iload_n (pc := 40) hE 3 3 rfl rfl dX11_rests_40 ?_
              refine z_iload (pc := 41) hE 4 rfl dX11_rests_41 ?_
              refine z_iload_n (pc := 43) hE 1 1 rfl rfl dX11_rests_43 ?_
              refine z_callSi (pc := 44) (st := []) [.int v1.2, .int v5.2, .int a1] hE kk_RX11_366 (c_X11_isContent v1.2 v5.2 a1) rfl rfl (Nat.le_of_ble_eq_true rfl) (by decide) dX11_rests_44 (fun x9 => ?_)
              refine z_join (Y := Int32) (pcJ := 71) (Lj := fun y10 => [(0, .ref (ad 0)), (1, .int a1), (2, .int y10), (3, .int v1.2), (4, .int v5.2)]) (sj := fun y10 => []) (fun y10 => ?_) (fun j11 hj11 => ?_)
              · refine z_iinc (L' := [(4, .int (v5.2 + (1 : Int32))), (0, .ref (ad 0)), (1, .int a1), (2, .int y10), (3, .int v1.2)]) (pc := 71) hE 4 rfl (zinc q_iconst_1) (by decide) rfl dX11_rests_71 ?_
                refine z_goto (pc := 74) hE 33 rfl dX11_rests_74 ?_
                exact z_sub [1, 2, 3, 4, 0] rfl (hrc7 (y10, v5.2 + (1 : Int32)))
              refine z_if_eq (pc := 47) hE 71 rfl dX11_rests_47 ?_ ?_
              · exact z_sub [0, 1, 2, 3, 4] rfl (hj11 v5.1)
              · refine z_iload (pc := 50) hE 4 rfl dX11_rests_50 ?_
                refine z_iload_n (pc := 52) hE 3 3 rfl rfl dX11_rests_52 ?_
                refine z_iload_n (pc := 53) hE 1 1 rfl rfl dX11_rests_53 ?_
                refine z_callSi (pc := 54) (st := []) [.int v5.2, .int v1.2, .int a1] hE kk_RX11_366 (c_X11_isContent v5.2 v1.2 a1) rfl rfl (Nat.le_of_ble_eq_true rfl) (by decide) dX11_rests_54 (fun x12 => ?_)
                refine z_if_eq (pc := 57) hE 71 rfl dX11_rests_57 ?_ ?_
                · exact z_sub [0, 1, 2, 3, 4] rfl (hj11 v5.1)
                · refine z_iinc (L' := [(2, .int (v5.1 + (1 : Int32))), (0, .ref (ad 0)), (1, .int a1), (3, .int v1.2), (4, .int v5.2)]) (pc := 60) hE 2 rfl (zinc q_iconst_1) (by decide) rfl dX11_rests_60 ?_
                  refine z_aload_n (pc := 63) hE 1 0 rfl rfl dX11_rests_63 ?_
                  refine z_iload_n (pc := 64) hE 0 2 rfl rfl dX11_rests_64 ?_
                  refine z_iload_n (pc := 65) hE 3 3 rfl rfl dX11_rests_65 ?_
                  refine z_iload (pc := 66) hE 4 rfl dX11_rests_66 ?_
                  refine z_callVv (pc := 68) (st := []) [.int (v5.1 + (1 : Int32)), .int v1.2, .int v5.2] hE kk_RX11_293 (c_X11_tellFirst (v5.1 + (1 : Int32)) v1.2 v5.2) lX_0 rfl rfl rfl (Nat.le_of_ble_eq_true rfl) (by decide) dX11_rests_68 (fun x13 => ?_)
                  exact z_sub [1, 2, 0, 3, 4] rfl (hj11 (v5.1 + (1 : Int32)))
          · refine z_iinc (L' := [(3, .int (v1.2 + (1 : Int32))), (0, .ref (ad 0)), (1, .int a1), (2, .int e8)]) (pc := 77) hE 3 rfl (zinc q_iconst_1) (by decide) rfl dX11_rests_77 ?_
            refine z_goto (pc := 80) hE 24 rfl dX11_rests_80 ?_
            exact z_sub [1, 2, 3, 0] rfl (hrc3 (e8, v1.2 + (1 : Int32)))
      · refine z_iload_n (pc := 83) hE 0 2 rfl rfl dX11_rests_83 ?_
        exact z_ireturn (pc := 84) hE hr dX11_rests_84
    · refine z_iconst (pc := 10) hE dX11_rests_10 q_iconst_m1 ?_
      exact z_ireturn (pc := 11) hE hr dX11_rests_11
