set_option maxRecDepth 100000 in
set_option maxHeartbeats 4000000 in
theorem c_X3_unpack {l : Launch} {ad : Nat → Nat} {ca : FieldType → ClassId} {D : va_G} {tt : Nat → Nat} (b : Nat) (hb : zfk b) (r n : Nat) (hr0 : layX[r]? = some (.inr (.int, n))) (a2 : Int32) : zC l yX3_unpack cX3_unpack 5 none 0 layX ad ca D (xtX ad tt) [.ref (ad b), .ref (ad r), .int a2] zvn (p_X3_unpack b r n a2) := by
  refine z_enter (by decide) (Nat.le_of_ble_eq_true rfl) (fun E hE hl0 hcD hr => ?_)
  have hE : zok layX ad (xtX ad tt) E cX3_unpack 5 RX3 0 := hE
  show Z layX ad E 5 (zFin layX ad E zvn) 0 [(0, .ref (ad b)), (1, .ref (ad r)), (2, .int a2)] [] (p_X3_unpack b r n a2)
  unfold p_X3_unpack
  refine z_iload_n (pc := 0) hE 2 2 rfl rfl dX3_unpack_0 ?_
  refine z_if_lt (pc := 1) hE 13 rfl dX3_unpack_1 ?_ ?_
  · exact z_return (pc := 13) hE hr dX3_unpack_13
  · refine z_iload_n (pc := 4) hE 2 2 rfl rfl dX3_unpack_4 ?_
    refine z_aload_n (pc := 5) hE 1 1 rfl rfl dX3_unpack_5 ?_
    refine z_aleni (pc := 6) hE hr0 rfl dX3_unpack_6 ?_
    refine z_bipush (pc := 7) hE dX3_unpack_7 q_bipush_43 ?_
    refine z_isub (pc := 9) hE dX3_unpack_9 ?_
    refine z_icmp_le (pc := 10) hE 14 rfl dX3_unpack_10 ?_ ?_
    · refine z_iload_n (pc := 14) hE 2 2 rfl rfl dX3_unpack_14 ?_
      refine z_istore_n (L' := [(3, .int a2), (0, .ref (ad b)), (1, .ref (ad r)), (2, .int a2)]) (pc := 15) hE 3 rfl (by decide) rfl dX3_unpack_15 ?_
      refine z_iconst (pc := 16) hE dX3_unpack_16 q_iconst_0 ?_
      refine z_istore (L' := [(4, .int ((0 : Int32))), (3, .int a2), (0, .ref (ad b)), (1, .ref (ad r)), (2, .int a2)]) (pc := 17) hE (by decide) rfl dX3_unpack_17 ?_
      refine z_sub (L' := [(0, .ref (ad b)), (1, .ref (ad r)), (3, .int a2), (4, .int ((0 : Int32)))]) [2, 3, 1, 0] rfl ?_
      refine z_loop (V := (Int32 × Int32)) (X := Int32) (hd := 19) (ex := 118) (Lh := fun v1 => [(0, .ref (ad b)), (1, .ref (ad r)), (3, .int v1.1), (4, .int v1.2)]) (Lx := fun e4 => [(0, .ref (ad b)), (1, .ref (ad r)), (3, .int e4)]) (fun rc3 k2 hrc3 hk2 v1 => ?_) zNF (a2, (0 : Int32)) _ (fun e4 => ?_)
      · unfold p_X3_unpack_b19
        refine z_iload (pc := 19) hE 3 rfl dX3_unpack_19 ?_
        refine z_bipush (pc := 21) hE dX3_unpack_21 q_bipush_6 ?_
        refine z_icmp_ge (pc := 23) hE 118 rfl dX3_unpack_23 ?_ ?_
        · exact z_sub [0, 1, 2] rfl (hk2 v1.1)
        · refine z_aload_n (pc := 26) hE 0 0 rfl rfl dX3_unpack_26 ?_
          refine z_getr (pc := 27) hE fk_RX3_20 hb.1 rfl dX3_unpack_27 ?_
          refine z_iload (pc := 30) hE 3 rfl dX3_unpack_30 ?_
          refine z_aload_n (pc := 32) hE 1 1 rfl rfl dX3_unpack_32 ?_
          refine z_iload_n (pc := 33) hE 2 3 rfl rfl dX3_unpack_33 ?_
          refine z_iald (pc := 34) hE hr0 dX3_unpack_34 (fun x5 => ?_)
          refine z_iast (pc := 35) hE hb.2.2.2.1 dX3_unpack_35 ?_
          refine z_aload_n (pc := 36) hE 0 0 rfl rfl dX3_unpack_36 ?_
          refine z_getr (pc := 37) hE fk_RX3_23 hb.1 rfl dX3_unpack_37 ?_
          refine z_iload (pc := 40) hE 3 rfl dX3_unpack_40 ?_
          refine z_aload_n (pc := 42) hE 1 1 rfl rfl dX3_unpack_42 ?_
          refine z_iload_n (pc := 43) hE 2 3 rfl rfl dX3_unpack_43 ?_
          refine z_iconst (pc := 44) hE dX3_unpack_44 q_iconst_1 ?_
          refine z_iadd (pc := 45) hE dX3_unpack_45 ?_
          refine z_iald (pc := 46) hE hr0 dX3_unpack_46 (fun x6 => ?_)
          refine z_iast (pc := 47) hE hb.2.2.2.2.1 dX3_unpack_47 ?_
          refine z_aload_n (pc := 48) hE 0 0 rfl rfl dX3_unpack_48 ?_
          refine z_getr (pc := 49) hE fk_RX3_26 hb.1 rfl dX3_unpack_49 ?_
          refine z_iload (pc := 52) hE 3 rfl dX3_unpack_52 ?_
          refine z_aload_n (pc := 54) hE 1 1 rfl rfl dX3_unpack_54 ?_
          refine z_iload_n (pc := 55) hE 2 3 rfl rfl dX3_unpack_55 ?_
          refine z_iconst (pc := 56) hE dX3_unpack_56 q_iconst_2 ?_
          refine z_iadd (pc := 57) hE dX3_unpack_57 ?_
          refine z_iald (pc := 58) hE hr0 dX3_unpack_58 (fun x7 => ?_)
          refine z_iast (pc := 59) hE hb.2.2.2.2.2.1 dX3_unpack_59 ?_
          refine z_aload_n (pc := 60) hE 0 0 rfl rfl dX3_unpack_60 ?_
          refine z_getr (pc := 61) hE fk_RX3_35 hb.1 rfl dX3_unpack_61 ?_
          refine z_iload (pc := 64) hE 3 rfl dX3_unpack_64 ?_
          refine z_aload_n (pc := 66) hE 1 1 rfl rfl dX3_unpack_66 ?_
          refine z_iload_n (pc := 67) hE 2 3 rfl rfl dX3_unpack_67 ?_
          refine z_iconst (pc := 68) hE dX3_unpack_68 q_iconst_3 ?_
          refine z_iadd (pc := 69) hE dX3_unpack_69 ?_
          refine z_iald (pc := 70) hE hr0 dX3_unpack_70 (fun x8 => ?_)
          refine z_iast (pc := 71) hE hb.2.2.2.2.2.2.2.2.1 dX3_unpack_71 ?_
          refine z_aload_n (pc := 72) hE 0 0 rfl rfl dX3_unpack_72 ?_
          refine z_getr (pc := 73) hE fk_RX3_38 hb.1 rfl dX3_unpack_73 ?_
          refine z_iload (pc := 76) hE 3 rfl dX3_unpack_76 ?_
          refine z_aload_n (pc := 78) hE 1 1 rfl rfl dX3_unpack_78 ?_
          refine z_iload_n (pc := 79) hE 2 3 rfl rfl dX3_unpack_79 ?_
          refine z_iconst (pc := 80) hE dX3_unpack_80 q_iconst_4 ?_
          refine z_iadd (pc := 81) hE dX3_unpack_81 ?_
          refine z_iald (pc := 82) hE hr0 dX3_unpack_82 (fun x9 => ?_)
          refine z_iast (pc := 83) hE hb.2.2.2.2.2.2.2.2.2.1 dX3_unpack_83 ?_
          refine z_aload_n (pc := 84) hE 0 0 rfl rfl dX3_unpack_84 ?_
          refine z_getr (pc := 85) hE fk_RX3_41 hb.1 rfl dX3_unpack_85 ?_
          refine z_iload (pc := 88) hE 3 rfl dX3_unpack_88 ?_
          refine z_aload_n (pc := 90) hE 1 1 rfl rfl dX3_unpack_90 ?_
          refine z_iload_n (pc := 91) hE 2 3 rfl rfl dX3_unpack_91 ?_
          refine z_iconst (pc := 92) hE dX3_unpack_92 q_iconst_5 ?_
          refine z_iadd (pc := 93) hE dX3_unpack_93 ?_
          refine z_iald (pc := 94) hE hr0 dX3_unpack_94 (fun x10 => ?_)
          refine z_iast (pc := 95) hE hb.2.2.2.2.2.2.2.2.2.2.1 dX3_unpack_95 ?_
          refine z_aload_n (pc := 96) hE 0 0 rfl rfl dX3_unpack_96 ?_
          refine z_getr (pc := 97) hE fk_RX3_44 hb.1 rfl dX3_unpack_97 ?_
          refine z_iload (pc := 100) hE 3 rfl dX3_unpack_100 ?_
          refine z_aload_n (pc := 102) hE 1 1 rfl rfl dX3_unpack_102 ?_
          refine z_iload_n (pc := 103) hE 2 3 rfl rfl dX3_unpack_103 ?_
          refine z_bipush (pc := 104) hE dX3_unpack_104 q_bipush_6 ?_
          refine z_iadd (pc := 106) hE dX3_unpack_106 ?_
          refine z_iald (pc := 107) hE hr0 dX3_unpack_107 (fun x11 => ?_)
          refine z_iast (pc := 108) hE hb.2.2.2.2.2.2.2.2.2.2.2 dX3_unpack_108 ?_
          refine z_iinc (L' := [(3, .int (v1.1 + (7 : Int32))), (0, .ref (ad b)), (1, .ref (ad r)), (4, .int v1.2)]) (pc := 109) hE 2 rfl (zinc q_iconst_7) (by decide) rfl dX3_unpack_109 ?_
          refine z_iinc (L' := [(4, .int (v1.2 + (1 : Int32))), (3, .int (v1.1 + (7 : Int32))), (0, .ref (ad b)), (1, .ref (ad r))]) (pc := 112) hE 3 rfl (zinc q_iconst_1) (by decide) rfl dX3_unpack_112 ?_
          refine z_goto (pc := 115) hE 19 rfl dX3_unpack_115 ?_
          exact z_sub [2, 3, 1, 0] rfl (hrc3 (v1.1 + (7 : Int32), v1.2 + (1 : Int32)))
      · refine z_aload_n (pc := 118) hE 0 0 rfl rfl dX3_unpack_118 ?_
        refine z_aload_n (pc := 119) hE 1 1 rfl rfl dX3_unpack_119 ?_
        refine z_iload_n (pc := 120) hE 2 3 rfl rfl dX3_unpack_120 ?_
        refine z_iald (pc := 121) hE hr0 dX3_unpack_121 (fun x12 => ?_)
        refine z_puti (pc := 122) hE fk_RX3_63 hb.1 rfl dX3_unpack_122 ?_
        exact z_return (pc := 125) hE hr dX3_unpack_125
    · exact z_return (pc := 13) hE hr dX3_unpack_13
set_option maxRecDepth 100000 in
set_option maxHeartbeats 4000000 in
theorem c_J7_fill_d0a16 {l : Launch} {ad : Nat → Nat} {ca : FieldType → ClassId} {D : va_G} {lay : List zY} {Xt : State → Prop} (r n : Nat) (hr0 : lay[r]? = some (.inr (.long, n))) (a2 : Int64) : zC l yJ7_fill_d0a16 cJ7_fill_d0a16 5 none 0 lay ad ca D Xt [.ref (ad r), .long a2] zvn (p_J7_fill_d0a16 r n a2) := by
  refine z_enter (by decide) (Nat.le_of_ble_eq_true rfl) (fun E hE hl0 hcD hr => ?_)
  have hE : zok lay ad Xt E cJ7_fill_d0a16 5 RJ7 0 := hE
  show Z lay ad E 5 (zFin lay ad E zvn) 0 [(0, .ref (ad r)), (1, .long a2)] [] (p_J7_fill_d0a16 r n a2)
  unfold p_J7_fill_d0a16
  refine z_iconst (pc := 0) hE dJ7_fill_d0a16_0 q_iconst_0 ?_
  refine z_istore_n (L' := [(3, .int ((0 : Int32))), (0, .ref (ad r)), (1, .long a2)]) (pc := 1) hE 3 rfl (by decide) rfl dJ7_fill_d0a16_1 ?_
  refine z_aload_n (pc := 2) hE 1 0 rfl rfl dJ7_fill_d0a16_2 ?_
  refine z_alenl (pc := 3) hE hr0 rfl dJ7_fill_d0a16_3 ?_
  refine z_istore (L' := [(4, .int (Int32.ofNat n)), (3, .int ((0 : Int32))), (0, .ref (ad r)), (1, .long a2)]) (pc := 4) hE (by decide) rfl dJ7_fill_d0a16_4 ?_
  refine z_sub (L' := [(0, .ref (ad r)), (1, .long a2), (3, .int ((0 : Int32))), (4, .int (Int32.ofNat n))]) [2, 3, 1, 0] rfl ?_
  refine z_loop (V := Int32) (X := Unit) (hd := 6) (ex := 22) (Lh := fun v1 => [(0, .ref (ad r)), (1, .long a2), (3, .int v1), (4, .int (Int32.ofNat n))]) (Lx := fun e4 => []) (fun rc3 k2 hrc3 hk2 v1 => ?_) zNF ((0 : Int32)) _ (fun e4 => ?_)
  · unfold p_J7_fill_d0a16_b6
    refine z_iload_n (pc := 6) hE 2 3 rfl rfl dJ7_fill_d0a16_6 ?_
    refine z_iload (pc := 7) hE 3 rfl dJ7_fill_d0a16_7 ?_
    refine z_icmp_ge (pc := 9) hE 22 rfl dJ7_fill_d0a16_9 ?_ ?_
    · exact z_sub [] rfl (hk2 ())
    · refine z_aload_n (pc := 12) hE 0 0 rfl rfl dJ7_fill_d0a16_12 ?_
      refine z_iload_n (pc := 13) hE 2 3 rfl rfl dJ7_fill_d0a16_13 ?_
      refine z_lload_n (pc := 14) hE 1 1 rfl rfl dJ7_fill_d0a16_14 ?_
      refine z_last (pc := 15) hE hr0 dJ7_fill_d0a16_15 ?_
      refine z_iinc (L' := [(3, .int (v1 + (1 : Int32))), (0, .ref (ad r)), (1, .long a2), (4, .int (Int32.ofNat n))]) (pc := 16) hE 2 rfl (zinc q_iconst_1) (by decide) rfl dJ7_fill_d0a16_16 ?_
      refine z_goto (pc := 19) hE 6 rfl dJ7_fill_d0a16_19 ?_
      exact z_sub [1, 2, 0, 3] rfl (hrc3 (v1 + (1 : Int32)))
  · exact z_return (pc := 22) hE hr dJ7_fill_d0a16_22
set_option maxRecDepth 100000 in
set_option maxHeartbeats 4000000 in
theorem c_X4_wasSeen {l : Launch} {ad : Nat → Nat} {ca : FieldType → ClassId} {D : va_G} {tt : Nat → Nat} (a1 : Int32) (a2 : Int32) (a3 : Int32) (a4 : Int32) : zC l yX4_wasSeen cX4_wasSeen 10 (some .boolean) 0 layX ad ca D (xtX ad tt) [.ref (ad 66), .int a1, .int a2, .int a3, .int a4] zvi (p_X4_wasSeen a1 a2 a3 a4) := by
  refine z_enter (by decide) (Nat.le_of_ble_eq_true rfl) (fun E hE hl0 hcD hr => ?_)
  have hE : zok layX ad (xtX ad tt) E cX4_wasSeen 10 RX4 0 := hE
  show Z layX ad E 10 (zFin layX ad E zvi) 0 [(0, .ref (ad 66)), (1, .int a1), (2, .int a2), (3, .int a3), (4, .int a4)] [] (p_X4_wasSeen a1 a2 a3 a4)
  unfold p_X4_wasSeen
  refine z_bipush (pc := 0) hE dX4_wasSeen_0 q_bipush_19 ?_
  refine z_iload (pc := 2) hE 4 rfl dX4_wasSeen_2 ?_
  refine z_bipush (pc := 4) hE dX4_wasSeen_4 q_bipush_9 ?_
  refine z_iadd (pc := 6) hE dX4_wasSeen_6 ?_
  refine z_imul (pc := 7) hE dX4_wasSeen_7 ?_
  refine z_iload_n (pc := 8) hE 3 3 rfl rfl dX4_wasSeen_8 ?_
  refine z_iadd (pc := 9) hE dX4_wasSeen_9 ?_
  refine z_bipush (pc := 10) hE dX4_wasSeen_10 q_bipush_9 ?_
  refine z_iadd (pc := 12) hE dX4_wasSeen_12 ?_
  refine z_istore (L' := [(5, .int (((((19 : Int32)) * (a4 + ((9 : Int32)))) + a3) + ((9 : Int32)))), (0, .ref (ad 66)), (1, .int a1), (2, .int a2), (3, .int a3), (4, .int a4)]) (pc := 13) hE (by decide) rfl dX4_wasSeen_13 ?_
  refine z_iload_n (pc := 15) hE 2 1 rfl rfl dX4_wasSeen_15 ?_
  refine z_bipush (pc := 16) hE dX4_wasSeen_16 q_bipush_10 ?_
  refine z_imul (pc := 18) hE dX4_wasSeen_18 ?_
  refine z_iload_n (pc := 19) hE 3 2 rfl rfl dX4_wasSeen_19 ?_
  refine z_iadd (pc := 20) hE dX4_wasSeen_20 ?_
  refine z_bipush (pc := 21) hE dX4_wasSeen_21 q_bipush_6 ?_
  refine z_imul (pc := 23) hE dX4_wasSeen_23 ?_
  refine z_iload (pc := 24) hE 0 rfl dX4_wasSeen_24 ?_
  refine z_bipush (pc := 26) hE dX4_wasSeen_26 q_bipush_6 ?_
  refine z_ishr (pc := 28) hE dX4_wasSeen_28 ?_
  refine z_iadd (pc := 29) hE dX4_wasSeen_29 ?_
  refine z_istore (L' := [(6, .int ((((a1 * ((10 : Int32))) + a2) * ((6 : Int32))) + ((((((19 : Int32)) * (a4 + ((9 : Int32)))) + a3) + ((9 : Int32))) >>> (((6 : Int32)) &&& 31)))), (5, .int (((((19 : Int32)) * (a4 + ((9 : Int32)))) + a3) + ((9 : Int32)))), (0, .ref (ad 66)), (1, .int a1), (2, .int a2), (3, .int a3), (4, .int a4)]) (pc := 30) hE (by decide) rfl dX4_wasSeen_30 ?_
  refine z_iload (pc := 32) hE 0 rfl dX4_wasSeen_32 ?_
  refine z_if_lt (pc := 34) hE 47 rfl dX4_wasSeen_34 ?_ ?_
  · refine z_iconst (pc := 47) hE dX4_wasSeen_47 q_iconst_1 ?_
    exact z_zreturn (pc := 48) hE hr dX4_wasSeen_48
  · refine z_iload (pc := 37) hE 0 rfl dX4_wasSeen_37 ?_
    refine z_aload_n (pc := 39) hE 2 0 rfl rfl dX4_wasSeen_39 ?_
    refine z_getr (pc := 40) hE fk_RX4_19 lX_66 rfl dX4_wasSeen_40 ?_
    refine z_alenl (v := (420 : Int32)) (pc := 43) hE lX_69 (by decide) dX4_wasSeen_43 ?_
    refine z_icmp_lt (pc := 44) hE 49 rfl dX4_wasSeen_44 ?_ ?_
    · refine z_lconst (v := (1 : Int64)) (pc := 49) hE dX4_wasSeen_49 (by decide) ?_
      refine z_iload (pc := 50) hE 1 rfl dX4_wasSeen_50 ?_
      refine z_bipush (pc := 52) hE dX4_wasSeen_52 q_bipush_63 ?_
      refine z_iand (pc := 54) hE dX4_wasSeen_54 ?_
      refine z_lshl (pc := 55) hE dX4_wasSeen_55 ?_
      refine z_lstore (L' := [(7, .long (((1 : Int64)) <<< (((((((19 : Int32)) * (a4 + ((9 : Int32)))) + a3) + ((9 : Int32))) &&& ((63 : Int32))).toInt64 &&& 63))), (6, .int ((((a1 * ((10 : Int32))) + a2) * ((6 : Int32))) + ((((((19 : Int32)) * (a4 + ((9 : Int32)))) + a3) + ((9 : Int32))) >>> (((6 : Int32)) &&& 31)))), (5, .int (((((19 : Int32)) * (a4 + ((9 : Int32)))) + a3) + ((9 : Int32)))), (0, .ref (ad 66)), (1, .int a1), (2, .int a2), (3, .int a3), (4, .int a4)]) (pc := 56) hE (by decide) rfl dX4_wasSeen_56 ?_
      refine z_aload_n (pc := 58) hE 3 0 rfl rfl dX4_wasSeen_58 ?_
      refine z_getr (pc := 59) hE fk_RX4_19 lX_66 rfl dX4_wasSeen_59 ?_
      refine z_iload (pc := 62) hE 1 rfl dX4_wasSeen_62 ?_
      refine z_lald (pc := 64) hE lX_69 dX4_wasSeen_64 (fun x1 => ?_)
      refine z_lload (pc := 65) hE 0 rfl dX4_wasSeen_65 ?_
      refine z_land (pc := 67) hE dX4_wasSeen_67 ?_
      refine z_lconst (v := (0 : Int64)) (pc := 68) hE dX4_wasSeen_68 (by decide) ?_
      refine z_lcmp (pc := 69) hE dX4_wasSeen_69 ?_
      refine z_join (Y := Int32) (pcJ := 78) (Lj := fun y2 => [(0, .ref (ad 66)), (6, .int ((((a1 * ((10 : Int32))) + a2) * ((6 : Int32))) + ((((((19 : Int32)) * (a4 + ((9 : Int32)))) + a3) + ((9 : Int32))) >>> (((6 : Int32)) &&& 31)))), (7, .long (((1 : Int64)) <<< (((((((19 : Int32)) * (a4 + ((9 : Int32)))) + a3) + ((9 : Int32))) &&& ((63 : Int32))).toInt64 &&& 63)))]) (sj := fun y2 => [.int y2]) (fun y2 => ?_) (fun j3 hj3 => ?_)
      · refine z_istore (L' := [(9, .int y2), (0, .ref (ad 66)), (6, .int ((((a1 * ((10 : Int32))) + a2) * ((6 : Int32))) + ((((((19 : Int32)) * (a4 + ((9 : Int32)))) + a3) + ((9 : Int32))) >>> (((6 : Int32)) &&& 31)))), (7, .long (((1 : Int64)) <<< (((((((19 : Int32)) * (a4 + ((9 : Int32)))) + a3) + ((9 : Int32))) &&& ((63 : Int32))).toInt64 &&& 63)))]) (pc := 78) hE (by decide) rfl dX4_wasSeen_78 ?_
        refine z_aload_n (pc := 80) hE 1 0 rfl rfl dX4_wasSeen_80 ?_
        refine z_getr (pc := 81) hE fk_RX4_19 lX_66 rfl dX4_wasSeen_81 ?_
        refine z_iload (pc := 84) hE 2 rfl dX4_wasSeen_84 ?_
        refine z_dup2 (pc := 86) hE dX4_wasSeen_86 rfl rfl ?_
        refine z_lald (pc := 87) hE lX_69 dX4_wasSeen_87 (fun x4 => ?_)
        refine z_lload (pc := 88) hE 3 rfl dX4_wasSeen_88 ?_
        refine z_lor (pc := 90) hE dX4_wasSeen_90 ?_
        refine z_last (pc := 91) hE lX_69 dX4_wasSeen_91 ?_
        refine z_iload (pc := 92) hE 0 rfl dX4_wasSeen_92 ?_
        exact z_zreturn (pc := 94) hE hr dX4_wasSeen_94
      refine z_if_eq (pc := 70) hE 77 rfl dX4_wasSeen_70 ?_ ?_
      · refine z_iconst (pc := 77) hE dX4_wasSeen_77 q_iconst_0 ?_
        exact z_sub [3, 1, 0] rfl (hj3 ((0 : Int32)))
      · refine z_iconst (pc := 73) hE dX4_wasSeen_73 q_iconst_1 ?_
        refine z_goto (pc := 74) hE 78 rfl dX4_wasSeen_74 ?_
        exact z_sub [3, 1, 0] rfl (hj3 ((1 : Int32)))
    · refine z_iconst (pc := 47) hE dX4_wasSeen_47 q_iconst_1 ?_
      exact z_zreturn (pc := 48) hE hr dX4_wasSeen_48
set_option maxRecDepth 100000 in
set_option maxHeartbeats 4000000 in
theorem c_X4_explore_s (G : ((Int32 × Int32 × Int32 × Int32) → zM Unit) × ((Int32 × Int32 × Int32 × Int32) → zM Unit)) (d : Nat) (hd : 3 ≤ d) (hG : (∀ (l : Launch) (ad : Nat → Nat) (ca : FieldType → ClassId) (D : va_G) (tt : Nat → Nat) (a1 : Int32) (a2 : Int32) (a3 : Int32) (a4 : Int32), zC l yX4_explore cX4_explore 6 none (d - 1) layX ad ca D (xtX ad tt) [.ref (ad 66), .int a1, .int a2, .int a3, .int a4] zvn (G.1 (a1, a2, a3, a4))) ∧ (∀ (l : Launch) (ad : Nat → Nat) (ca : FieldType → ClassId) (D : va_G) (tt : Nat → Nat) (a1 : Int32) (a2 : Int32) (a3 : Int32) (a4 : Int32), zC l yX4_exploreHour cX4_exploreHour 6 none (d - 1) layX ad ca D (xtX ad tt) [.ref (ad 66), .int a1, .int a2, .int a3, .int a4] zvn (G.2 (a1, a2, a3, a4)))) {l : Launch} {ad : Nat → Nat} {ca : FieldType → ClassId} {D : va_G} {tt : Nat → Nat} (a1 : Int32) (a2 : Int32) (a3 : Int32) (a4 : Int32) : zC l yX4_explore cX4_explore 6 none d layX ad ca D (xtX ad tt) [.ref (ad 66), .int a1, .int a2, .int a3, .int a4] zvn (p_X4_explore_s G a1 a2 a3 a4) := by
  refine z_enter (by decide) (Nat.le_of_ble_eq_true rfl) (fun E hE hl0 hcD hr => ?_)
  have hE : zok layX ad (xtX ad tt) E cX4_explore 6 RX4 d := hE
  show Z layX ad E 6 (zFin layX ad E zvn) 0 [(0, .ref (ad 66)), (1, .int a1), (2, .int a2), (3, .int a3), (4, .int a4)] [] (p_X4_explore_s G a1 a2 a3 a4)
  unfold p_X4_explore_s
  refine z_iload_n (pc := 0) hE 1 1 rfl rfl dX4_explore_0 ?_
  refine z_aload_n (pc := 1) hE 0 0 rfl rfl dX4_explore_1 ?_
  refine z_geti (pc := 2) hE fk_RX4_44 lX_66 rfl dX4_explore_2 (fun x1 => ?_)
  refine z_icmp_gt (pc := 5) hE 29 rfl dX4_explore_5 ?_ ?_
  · exact z_return (pc := 29) hE hr dX4_explore_29
  · refine z_iload_n (pc := 8) hE 3 3 rfl rfl dX4_explore_8 ?_
    refine z_iload (pc := 9) hE 4 rfl dX4_explore_9 ?_
    refine z_callNi (pc := 11) (st := []) [.int a3, .int a4] hE kk_RX4_90 (c_X11_isOver a3 a4) rfl rfl (Nat.le_of_ble_eq_true rfl) (by omega) dX4_explore_11 (fun x2 => ?_)
    refine z_if_ne (pc := 14) hE 29 rfl dX4_explore_14 ?_ ?_
    · exact z_return (pc := 29) hE hr dX4_explore_29
    · refine z_aload_n (pc := 17) hE 0 0 rfl rfl dX4_explore_17 ?_
      refine z_iload_n (pc := 18) hE 1 1 rfl rfl dX4_explore_18 ?_
      refine z_iload_n (pc := 19) hE 2 2 rfl rfl dX4_explore_19 ?_
      refine z_iload_n (pc := 20) hE 3 3 rfl rfl dX4_explore_20 ?_
      refine z_iload (pc := 21) hE 4 rfl dX4_explore_21 ?_
      refine z_callVi (pc := 23) (st := []) [.int a1, .int a2, .int a3, .int a4] hE kk_RX4_94 (c_X4_wasSeen a1 a2 a3 a4) lX_66 rfl rfl rfl (Nat.le_of_ble_eq_true rfl) (by omega) dX4_explore_23 (fun x3 => ?_)
      refine z_if_eq (pc := 26) hE 30 rfl dX4_explore_26 ?_ ?_
      · refine z_iload_n (pc := 30) hE 3 3 rfl rfl dX4_explore_30 ?_
        refine z_abs (pc := 31) hE kk_RX4_98 (Nat.le_of_ble_eq_true rfl) (by omega) dX4_explore_31 ?_
        refine z_iload (pc := 34) hE 4 rfl dX4_explore_34 ?_
        refine z_abs (pc := 36) hE kk_RX4_98 (Nat.le_of_ble_eq_true rfl) (by omega) dX4_explore_36 ?_
        refine z_iadd (pc := 39) hE dX4_explore_39 ?_
        refine z_aload_n (pc := 40) hE 0 0 rfl rfl dX4_explore_40 ?_
        refine z_geti (pc := 41) hE fk_RX4_56 lX_66 rfl dX4_explore_41 (fun x4 => ?_)
        refine z_join (Y := Unit) (pcJ := 59) (Lj := fun y5 => [(0, .ref (ad 66)), (1, .int a1), (2, .int a2), (3, .int a3), (4, .int a4)]) (sj := fun y5 => []) (fun y5 => ?_) (fun j6 hj6 => ?_)
        · refine z_iload_n (pc := 59) hE 2 2 rfl rfl dX4_explore_59 ?_
          refine z_istore (L' := [(5, .int a2), (0, .ref (ad 66)), (1, .int a1), (2, .int a2), (3, .int a3), (4, .int a4)]) (pc := 60) hE (by decide) rfl dX4_explore_60 ?_
          refine z_sub (L' := [(0, .ref (ad 66)), (1, .int a1), (3, .int a3), (4, .int a4), (5, .int a2)]) [1, 2, 4, 5, 0] rfl ?_
          refine z_loop (V := Int32) (X := Unit) (hd := 62) (ex := 95) (Lh := fun v7 => [(0, .ref (ad 66)), (1, .int a1), (3, .int a3), (4, .int a4), (5, .int v7)]) (Lx := fun e10 => []) (fun rc9 k8 hrc9 hk8 v7 => ?_) zNF a2 _ (fun e10 => ?_)
          · unfold p_X4_explore_b62
            refine z_iload_n (pc := 62) hE 1 1 rfl rfl dX4_explore_62 ?_
            refine z_aload_n (pc := 63) hE 0 0 rfl rfl dX4_explore_63 ?_
            refine z_geti (pc := 64) hE fk_RX4_44 lX_66 rfl dX4_explore_64 (fun x11 => ?_)
            refine z_icmp_ge (pc := 67) hE 95 rfl dX4_explore_67 ?_ ?_
            · exact z_sub [] rfl (hk8 ())
            · refine z_iload (pc := 70) hE 4 rfl dX4_explore_70 ?_
              refine z_aload_n (pc := 72) hE 0 0 rfl rfl dX4_explore_72 ?_
              refine z_geti (pc := 73) hE fk_RX4_50 lX_66 rfl dX4_explore_73 (fun x12 => ?_)
              refine z_icmp_gt (pc := 76) hE 95 rfl dX4_explore_76 ?_ ?_
              · exact z_sub [] rfl (hk8 ())
              · refine z_aload_n (pc := 79) hE 0 0 rfl rfl dX4_explore_79 ?_
                refine z_iload_n (pc := 80) hE 1 1 rfl rfl dX4_explore_80 ?_
                refine z_iload (pc := 81) hE 4 rfl dX4_explore_81 ?_
                refine z_iload_n (pc := 83) hE 2 3 rfl rfl dX4_explore_83 ?_
                refine z_iload (pc := 84) hE 3 rfl dX4_explore_84 ?_
                refine z_callVv (pc := 86) (st := []) [.int a1, .int v7, .int a3, .int a4] hE kk_RX4_102 (hG.2 _ _ _ _ _ a1 v7 a3 a4) lX_66 rfl rfl rfl (Nat.le_of_ble_eq_true rfl) (by omega) dX4_explore_86 (fun x13 => ?_)
                refine z_iinc (L' := [(5, .int (v7 + (1 : Int32))), (0, .ref (ad 66)), (1, .int a1), (3, .int a3), (4, .int a4)]) (pc := 89) hE 4 rfl (zinc q_iconst_1) (by decide) rfl dX4_explore_89 ?_
                refine z_goto (pc := 92) hE 62 rfl dX4_explore_92 ?_
                exact z_sub [1, 2, 3, 4, 0] rfl (hrc9 (v7 + (1 : Int32)))
          · exact z_return (pc := 95) hE hr dX4_explore_95
        refine z_icmp_gt (pc := 44) hE 59 rfl dX4_explore_44 ?_ ?_
        · exact z_sub [0, 1, 2, 3, 4] rfl (hj6 ())
        · refine z_aload_n (pc := 47) hE 0 0 rfl rfl dX4_explore_47 ?_
          refine z_getr (pc := 48) hE fk_RX4_15 lX_66 rfl dX4_explore_48 ?_
          refine z_iload_n (pc := 51) hE 1 1 rfl rfl dX4_explore_51 ?_
          refine z_bipush (pc := 52) hE dX4_explore_52 q_bipush_10 ?_
          refine z_imul (pc := 54) hE dX4_explore_54 ?_
          refine z_iload_n (pc := 55) hE 2 2 rfl rfl dX4_explore_55 ?_
          refine z_iadd (pc := 56) hE dX4_explore_56 ?_
          refine z_iconst (pc := 57) hE dX4_explore_57 q_iconst_1 ?_
          refine z_zast (pc := 58) hE lX_68 dX4_explore_58 ?_
          exact z_sub [0, 1, 2, 3, 4] rfl (hj6 ())
      · exact z_return (pc := 29) hE hr dX4_explore_29
set_option maxRecDepth 100000 in
set_option maxHeartbeats 4000000 in
theorem c_X4_exploreHour_s (G : ((Int32 × Int32 × Int32 × Int32) → zM Unit) × ((Int32 × Int32 × Int32 × Int32) → zM Unit)) (d : Nat) (hd : 3 ≤ d) (hG : (∀ (l : Launch) (ad : Nat → Nat) (ca : FieldType → ClassId) (D : va_G) (tt : Nat → Nat) (a1 : Int32) (a2 : Int32) (a3 : Int32) (a4 : Int32), zC l yX4_explore cX4_explore 6 none (d - 1) layX ad ca D (xtX ad tt) [.ref (ad 66), .int a1, .int a2, .int a3, .int a4] zvn (G.1 (a1, a2, a3, a4))) ∧ (∀ (l : Launch) (ad : Nat → Nat) (ca : FieldType → ClassId) (D : va_G) (tt : Nat → Nat) (a1 : Int32) (a2 : Int32) (a3 : Int32) (a4 : Int32), zC l yX4_exploreHour cX4_exploreHour 6 none (d - 1) layX ad ca D (xtX ad tt) [.ref (ad 66), .int a1, .int a2, .int a3, .int a4] zvn (G.2 (a1, a2, a3, a4)))) {l : Launch} {ad : Nat → Nat} {ca : FieldType → ClassId} {D : va_G} {tt : Nat → Nat} (a1 : Int32) (a2 : Int32) (a3 : Int32) (a4 : Int32) : zC l yX4_exploreHour cX4_exploreHour 6 none d layX ad ca D (xtX ad tt) [.ref (ad 66), .int a1, .int a2, .int a3, .int a4] zvn (p_X4_exploreHour_s G a1 a2 a3 a4) := by
  refine z_enter (by decide) (Nat.le_of_ble_eq_true rfl) (fun E hE hl0 hcD hr => ?_)
  have hE : zok layX ad (xtX ad tt) E cX4_exploreHour 6 RX4 d := hE
  show Z layX ad E 6 (zFin layX ad E zvn) 0 [(0, .ref (ad 66)), (1, .int a1), (2, .int a2), (3, .int a3), (4, .int a4)] [] (p_X4_exploreHour_s G a1 a2 a3 a4)
  unfold p_X4_exploreHour_s
  refine z_aload_n (pc := 0) hE 0 0 rfl rfl dX4_exploreHour_0 ?_
  refine z_getr (pc := 1) hE fk_RX4_11 lX_66 rfl dX4_exploreHour_1 ?_
  refine z_iload_n (pc := 4) hE 1 1 rfl rfl dX4_exploreHour_4 ?_
  refine z_iconst (pc := 5) hE dX4_exploreHour_5 q_iconst_1 ?_
  refine z_iadd (pc := 6) hE dX4_exploreHour_6 ?_
  refine z_bipush (pc := 7) hE dX4_exploreHour_7 q_bipush_10 ?_
  refine z_imul (pc := 9) hE dX4_exploreHour_9 ?_
  refine z_iload_n (pc := 10) hE 2 2 rfl rfl dX4_exploreHour_10 ?_
  refine z_iadd (pc := 11) hE dX4_exploreHour_11 ?_
  refine z_iald (pc := 12) hE lX_67 dX4_exploreHour_12 (fun x1 => ?_)
  refine z_if_lt (pc := 13) hE 65 rfl dX4_exploreHour_13 ?_ ?_
  · exact z_return (pc := 65) hE hr dX4_exploreHour_65
  · refine z_aload_n (pc := 16) hE 0 0 rfl rfl dX4_exploreHour_16 ?_
    refine z_getr (pc := 17) hE fk_RX4_11 lX_66 rfl dX4_exploreHour_17 ?_
    refine z_iload_n (pc := 20) hE 1 1 rfl rfl dX4_exploreHour_20 ?_
    refine z_bipush (pc := 21) hE dX4_exploreHour_21 q_bipush_10 ?_
    refine z_imul (pc := 23) hE dX4_exploreHour_23 ?_
    refine z_iload_n (pc := 24) hE 2 2 rfl rfl dX4_exploreHour_24 ?_
    refine z_iadd (pc := 25) hE dX4_exploreHour_25 ?_
    refine z_iald (pc := 26) hE lX_67 dX4_exploreHour_26 (fun x2 => ?_)
    refine z_callNi (pc := 27) (st := []) [.int x2] hE kk_RX4_105 (c_X11_highBy x2) rfl rfl (Nat.le_of_ble_eq_true rfl) (by omega) dX4_exploreHour_27 (fun x3 => ?_)
    refine z_istore (L' := [(5, .int x3), (0, .ref (ad 66)), (1, .int a1), (2, .int a2), (3, .int a3), (4, .int a4)]) (pc := 30) hE (by decide) rfl dX4_exploreHour_30 ?_
    refine z_aload_n (pc := 32) hE 1 0 rfl rfl dX4_exploreHour_32 ?_
    refine z_iload_n (pc := 33) hE 2 1 rfl rfl dX4_exploreHour_33 ?_
    refine z_iconst (pc := 34) hE dX4_exploreHour_34 q_iconst_1 ?_
    refine z_iadd (pc := 35) hE dX4_exploreHour_35 ?_
    refine z_iload_n (pc := 36) hE 3 2 rfl rfl dX4_exploreHour_36 ?_
    refine z_iload_n (pc := 37) hE 4 3 rfl rfl dX4_exploreHour_37 ?_
    refine z_aload_n (pc := 38) hE 1 0 rfl rfl dX4_exploreHour_38 ?_
    refine z_getr (pc := 39) hE fk_RX4_30 lX_66 rfl dX4_exploreHour_39 ?_
    refine z_getr (pc := 42) hE fk_RX4_108 lX_10 rfl dX4_exploreHour_42 ?_
    refine z_iload (pc := 45) hE 0 rfl dX4_exploreHour_45 ?_
    refine z_iald (pc := 47) hE lX_13 dX4_exploreHour_47 (fun x4 => ?_)
    refine z_iadd (pc := 48) hE dX4_exploreHour_48 ?_
    refine z_iload (pc := 49) hE 5 rfl dX4_exploreHour_49 ?_
    refine z_aload_n (pc := 51) hE 1 0 rfl rfl dX4_exploreHour_51 ?_
    refine z_getr (pc := 52) hE fk_RX4_30 lX_66 rfl dX4_exploreHour_52 ?_
    refine z_getr (pc := 55) hE fk_RX4_113 lX_10 rfl dX4_exploreHour_55 ?_
    refine z_iload (pc := 58) hE 0 rfl dX4_exploreHour_58 ?_
    refine z_iald (pc := 60) hE lX_14 dX4_exploreHour_60 (fun x5 => ?_)
    refine z_iadd (pc := 61) hE dX4_exploreHour_61 ?_
    refine z_callVv (pc := 62) (st := []) [.int (a1 + ((1 : Int32))), .int a2, .int (a3 + x4), .int (a4 + x5)] hE kk_RX4_86 (hG.1 _ _ _ _ _ (a1 + ((1 : Int32))) a2 (a3 + x4) (a4 + x5)) lX_66 rfl rfl rfl (Nat.le_of_ble_eq_true rfl) (by omega) dX4_exploreHour_62 (fun x6 => ?_)
    exact z_return (pc := 65) hE hr dX4_exploreHour_65
theorem c_X4_explore_g : ∀ (n d : Nat), 2 + n ≤ d → (∀ (l : Launch) (ad : Nat → Nat) (ca : FieldType → ClassId) (D : va_G) (tt : Nat → Nat) (a1 : Int32) (a2 : Int32) (a3 : Int32) (a4 : Int32), zC l yX4_explore cX4_explore 6 none d layX ad ca D (xtX ad tt) [.ref (ad 66), .int a1, .int a2, .int a3, .int a4] zvn ((p_X4_explore_g n).1 (a1, a2, a3, a4))) ∧ (∀ (l : Launch) (ad : Nat → Nat) (ca : FieldType → ClassId) (D : va_G) (tt : Nat → Nat) (a1 : Int32) (a2 : Int32) (a3 : Int32) (a4 : Int32), zC l yX4_exploreHour cX4_exploreHour 6 none d layX ad ca D (xtX ad tt) [.ref (ad 66), .int a1, .int a2, .int a3, .int a4] zvn ((p_X4_explore_g n).2 (a1, a2, a3, a4)))
  | 0, d, h => ⟨fun _ _ _ _ _ _ _ _ _ S r S2 h => (by cases h), fun _ _ _ _ _ _ _ _ _ S r S2 h => (by cases h)⟩
  | n + 1, d, h => by
    have hG := c_X4_explore_g n (d - 1) (by omega)
    exact ⟨fun l ad ca D tt a1 a2 a3 a4 => c_X4_explore_s _ d (by omega) hG a1 a2 a3 a4, fun l ad ca D tt a1 a2 a3 a4 => c_X4_exploreHour_s _ d (by omega) hG a1 a2 a3 a4⟩
theorem c_X4_explore {l : Launch} {ad : Nat → Nat} {ca : FieldType → ClassId} {D : va_G} {tt : Nat → Nat} (a1 : Int32) (a2 : Int32) (a3 : Int32) (a4 : Int32) : zC l yX4_explore cX4_explore 6 none 102 layX ad ca D (xtX ad tt) [.ref (ad 66), .int a1, .int a2, .int a3, .int a4] zvn (p_X4_explore a1 a2 a3 a4) := (c_X4_explore_g zDP 102 (Nat.le_of_eq (by rw [zDP_eq]))).1 _ _ _ _ _ a1 a2 a3 a4
theorem c_X4_exploreHour {l : Launch} {ad : Nat → Nat} {ca : FieldType → ClassId} {D : va_G} {tt : Nat → Nat} (a1 : Int32) (a2 : Int32) (a3 : Int32) (a4 : Int32) : zC l yX4_exploreHour cX4_exploreHour 6 none 102 layX ad ca D (xtX ad tt) [.ref (ad 66), .int a1, .int a2, .int a3, .int a4] zvn (p_X4_exploreHour a1 a2 a3 a4) := (c_X4_explore_g zDP 102 (Nat.le_of_eq (by rw [zDP_eq]))).2 _ _ _ _ _ a1 a2 a3 a4
set_option maxRecDepth 100000 in
set_option maxHeartbeats 4000000 in
theorem c_X4_survey {l : Launch} {ad : Nat → Nat} {ca : FieldType → ClassId} {D : va_G} {tt : Nat → Nat} (a1 : Int32) (a2 : Int32) : zC l yX4_survey cX4_survey 6 none 103 layX ad ca D (xtX ad tt) [.ref (ad 66), .int a1, .int a2] zvn (p_X4_survey a1 a2) := by
  refine z_enter (by decide) (Nat.le_of_ble_eq_true rfl) (fun E hE hl0 hcD hr => ?_)
  have hE : zok layX ad (xtX ad tt) E cX4_survey 6 RX4 103 := hE
  show Z layX ad E 6 (zFin layX ad E zvn) 0 [(0, .ref (ad 66)), (1, .int a1), (2, .int a2)] [] (p_X4_survey a1 a2)
  unfold p_X4_survey
  refine z_aload_n (pc := 0) hE 0 0 rfl rfl dX4_survey_0 ?_
  refine z_getr (pc := 1) hE fk_RX4_26 lX_66 rfl dX4_survey_1 ?_
  refine z_iload_n (pc := 4) hE 1 1 rfl rfl dX4_survey_4 ?_
  refine z_callVi (pc := 5) (st := []) [.int a1] hE kk_RX4_34 (c_X3_has 20 zfk_20 a1) lX_20 rfl rfl rfl (Nat.le_of_ble_eq_true rfl) (by decide) dX4_survey_5 (fun x1 => ?_)
  refine z_if_eq (pc := 8) hE 21 rfl dX4_survey_8 ?_ ?_
  · exact z_return (pc := 21) hE hr dX4_survey_21
  · refine z_iload_n (pc := 11) hE 2 2 rfl rfl dX4_survey_11 ?_
    refine z_if_lt (pc := 12) hE 21 rfl dX4_survey_12 ?_ ?_
    · exact z_return (pc := 21) hE hr dX4_survey_21
    · refine z_iload_n (pc := 15) hE 2 2 rfl rfl dX4_survey_15 ?_
      refine z_bipush (pc := 16) hE dX4_survey_16 q_bipush_6 ?_
      refine z_icmp_le (pc := 18) hE 22 rfl dX4_survey_18 ?_ ?_
      · refine z_aload_n (pc := 22) hE 0 0 rfl rfl dX4_survey_22 ?_
        refine z_iload_n (pc := 23) hE 1 1 rfl rfl dX4_survey_23 ?_
        refine z_puti (pc := 24) hE fk_RX4_40 lX_66 rfl dX4_survey_24 ?_
        refine z_aload_n (pc := 27) hE 0 0 rfl rfl dX4_survey_27 ?_
        refine z_iload_n (pc := 28) hE 2 2 rfl rfl dX4_survey_28 ?_
        refine z_puti (pc := 29) hE fk_RX4_44 lX_66 rfl dX4_survey_29 ?_
        refine z_aload_n (pc := 32) hE 0 0 rfl rfl dX4_survey_32 ?_
        refine z_aload_n (pc := 33) hE 0 0 rfl rfl dX4_survey_33 ?_
        refine z_getr (pc := 34) hE fk_RX4_26 lX_66 rfl dX4_survey_34 ?_
        refine z_getr (pc := 37) hE fk_RX4_47 lX_20 rfl dX4_survey_37 ?_
        refine z_iload_n (pc := 40) hE 1 1 rfl rfl dX4_survey_40 ?_
        refine z_iald (pc := 41) hE lX_24 dX4_survey_41 (fun x2 => ?_)
        refine z_puti (pc := 42) hE fk_RX4_50 lX_66 rfl dX4_survey_42 ?_
        refine z_aload_n (pc := 45) hE 0 0 rfl rfl dX4_survey_45 ?_
        refine z_aload_n (pc := 46) hE 0 0 rfl rfl dX4_survey_46 ?_
        refine z_getr (pc := 47) hE fk_RX4_26 lX_66 rfl dX4_survey_47 ?_
        refine z_getr (pc := 50) hE fk_RX4_53 lX_20 rfl dX4_survey_50 ?_
        refine z_iload_n (pc := 53) hE 1 1 rfl rfl dX4_survey_53 ?_
        refine z_iald (pc := 54) hE lX_26 dX4_survey_54 (fun x3 => ?_)
        refine z_puti (pc := 55) hE fk_RX4_56 lX_66 rfl dX4_survey_55 ?_
        refine z_iconst (pc := 58) hE dX4_survey_58 q_iconst_0 ?_
        refine z_istore_n (L' := [(3, .int ((0 : Int32))), (0, .ref (ad 66)), (1, .int a1), (2, .int a2)]) (pc := 59) hE 3 rfl (by decide) rfl dX4_survey_59 ?_
        refine z_sub (L' := [(0, .ref (ad 66)), (1, .int a1), (2, .int a2), (3, .int ((0 : Int32)))]) [1, 2, 3, 0] rfl ?_
        refine z_loop (V := Int32) (X := Unit) (hd := 60) (ex := 146) (Lh := fun v4 => [(0, .ref (ad 66)), (1, .int a1), (2, .int a2), (3, .int v4)]) (Lx := fun e7 => [(0, .ref (ad 66)), (1, .int a1)]) (fun rc6 k5 hrc6 hk5 v4 => ?_) zNF ((0 : Int32)) _ (fun e7 => ?_)
        · unfold p_X4_survey_b60
          refine z_iload_n (pc := 60) hE 3 3 rfl rfl dX4_survey_60 ?_
          refine z_iload_n (pc := 61) hE 2 2 rfl rfl dX4_survey_61 ?_
          refine z_icmp_gt (pc := 62) hE 146 rfl dX4_survey_62 ?_ ?_
          · exact z_sub [0, 1] rfl (hk5 ())
          · refine z_iconst (pc := 65) hE dX4_survey_65 q_iconst_0 ?_
            refine z_aload_n (pc := 66) hE 0 0 rfl rfl dX4_survey_66 ?_
            refine z_getr (pc := 67) hE fk_RX4_26 lX_66 rfl dX4_survey_67 ?_
            refine z_getr (pc := 70) hE fk_RX4_58 lX_20 rfl dX4_survey_70 ?_
            refine z_iload_n (pc := 73) hE 1 1 rfl rfl dX4_survey_73 ?_
            refine z_iald (pc := 74) hE lX_23 dX4_survey_74 (fun x8 => ?_)
            refine z_iload_n (pc := 75) hE 3 3 rfl rfl dX4_survey_75 ?_
            refine z_aload_n (pc := 76) hE 0 0 rfl rfl dX4_survey_76 ?_
            refine z_getr (pc := 77) hE fk_RX4_26 lX_66 rfl dX4_survey_77 ?_
            refine z_getr (pc := 80) hE fk_RX4_61 lX_20 rfl dX4_survey_80 ?_
            refine z_iload_n (pc := 83) hE 1 1 rfl rfl dX4_survey_83 ?_
            refine z_iald (pc := 84) hE lX_27 dX4_survey_84 (fun x9 => ?_)
            refine z_imul (pc := 85) hE dX4_survey_85 ?_
            refine z_isub (pc := 86) hE dX4_survey_86 ?_
            refine z_max (pc := 87) hE kk_RX4_64 (Nat.le_of_ble_eq_true rfl) (by decide) dX4_survey_87 ?_
            refine z_istore (L' := [(4, .int (zmx ((0 : Int32)) (x8 - (v4 * x9)))), (0, .ref (ad 66)), (1, .int a1), (2, .int a2), (3, .int v4)]) (pc := 90) hE (by decide) rfl dX4_survey_90 ?_
            refine z_iconst (pc := 92) hE dX4_survey_92 q_iconst_0 ?_
            refine z_istore (L' := [(5, .int ((0 : Int32))), (4, .int (zmx ((0 : Int32)) (x8 - (v4 * x9)))), (0, .ref (ad 66)), (1, .int a1), (2, .int a2), (3, .int v4)]) (pc := 93) hE (by decide) rfl dX4_survey_93 ?_
            refine z_sub (L' := [(0, .ref (ad 66)), (1, .int a1), (2, .int a2), (3, .int v4), (4, .int (zmx ((0 : Int32)) (x8 - (v4 * x9)))), (5, .int ((0 : Int32)))]) [2, 3, 4, 5, 1, 0] rfl ?_
            refine z_loop (V := Int32) (X := Unit) (hd := 95) (ex := 140) (Lh := fun v10 => [(0, .ref (ad 66)), (1, .int a1), (2, .int a2), (3, .int v4), (4, .int (zmx ((0 : Int32)) (x8 - (v4 * x9)))), (5, .int v10)]) (Lx := fun e13 => [(0, .ref (ad 66)), (1, .int a1), (2, .int a2), (3, .int v4)]) (fun rc12 k11 hrc12 hk11 v10 => ?_) zNF ((0 : Int32)) _ (fun e13 => ?_)
            · unfold p_X4_survey_b95
              refine z_iload (pc := 95) hE 5 rfl dX4_survey_95 ?_
              refine z_aload_n (pc := 97) hE 0 0 rfl rfl dX4_survey_97 ?_
              refine z_geti (pc := 98) hE fk_RX4_50 lX_66 rfl dX4_survey_98 (fun x14 => ?_)
              refine z_icmp_gt (pc := 101) hE 140 rfl dX4_survey_101 ?_ ?_
              · exact z_sub [0, 1, 2, 3] rfl (hk11 ())
              · refine z_aload_n (pc := 104) hE 0 0 rfl rfl dX4_survey_104 ?_
                refine z_getr (pc := 105) hE fk_RX4_11 lX_66 rfl dX4_survey_105 ?_
                refine z_iload_n (pc := 108) hE 3 3 rfl rfl dX4_survey_108 ?_
                refine z_bipush (pc := 109) hE dX4_survey_109 q_bipush_10 ?_
                refine z_imul (pc := 111) hE dX4_survey_111 ?_
                refine z_iload (pc := 112) hE 5 rfl dX4_survey_112 ?_
                refine z_iadd (pc := 114) hE dX4_survey_114 ?_
                refine z_aload_n (pc := 115) hE 0 0 rfl rfl dX4_survey_115 ?_
                refine z_getr (pc := 116) hE fk_RX4_26 lX_66 rfl dX4_survey_116 ?_
                refine z_iload_n (pc := 119) hE 1 1 rfl rfl dX4_survey_119 ?_
                refine z_iload (pc := 120) hE 4 rfl dX4_survey_120 ?_
                refine z_aload_n (pc := 122) hE 0 0 rfl rfl dX4_survey_122 ?_
                refine z_geti (pc := 123) hE fk_RX4_50 lX_66 rfl dX4_survey_123 (fun x15 => ?_)
                refine z_iload (pc := 126) hE 5 rfl dX4_survey_126 ?_
                refine z_isub (pc := 128) hE dX4_survey_128 ?_
                refine z_iload_n (pc := 129) hE 3 3 rfl rfl dX4_survey_129 ?_
                refine z_callVi (pc := 130) (st := [.int ((v4 * ((10 : Int32))) + v10), .ref (ad 67)]) [.int a1, .int (zmx ((0 : Int32)) (x8 - (v4 * x9))), .int (x15 - v10), .int v4] hE kk_RX4_70 (c_X3_liftAs 20 zfk_20 a1 (zmx ((0 : Int32)) (x8 - (v4 * x9))) (x15 - v10) v4) lX_20 rfl rfl rfl (Nat.le_of_ble_eq_true rfl) (by decide) dX4_survey_130 (fun x16 => ?_)
                refine z_iast (pc := 133) hE lX_67 dX4_survey_133 ?_
                refine z_iinc (L' := [(5, .int (v10 + (1 : Int32))), (0, .ref (ad 66)), (1, .int a1), (2, .int a2), (3, .int v4), (4, .int (zmx ((0 : Int32)) (x8 - (v4 * x9))))]) (pc := 134) hE 5 rfl (zinc q_iconst_1) (by decide) rfl dX4_survey_134 ?_
                refine z_goto (pc := 137) hE 95 rfl dX4_survey_137 ?_
                exact z_sub [1, 2, 3, 4, 5, 0] rfl (hrc12 (v10 + (1 : Int32)))
            · refine z_iinc (L' := [(3, .int (v4 + (1 : Int32))), (0, .ref (ad 66)), (1, .int a1), (2, .int a2)]) (pc := 140) hE 3 rfl (zinc q_iconst_1) (by decide) rfl dX4_survey_140 ?_
              refine z_goto (pc := 143) hE 60 rfl dX4_survey_143 ?_
              exact z_sub [1, 2, 3, 0] rfl (hrc6 (v4 + (1 : Int32)))
        · refine z_aload_n (pc := 146) hE 0 0 rfl rfl dX4_survey_146 ?_
          refine z_getr (pc := 147) hE fk_RX4_19 lX_66 rfl dX4_survey_147 ?_
          refine z_lconst (v := (0 : Int64)) (pc := 150) hE dX4_survey_150 (by decide) ?_
          refine z_callSv (pc := 151) (st := []) [.ref (ad 69), .long ((0 : Int64))] hE kk_RX4_74 (c_J7_fill_d0a16 69 420 lX_69 ((0 : Int64))) rfl rfl (Nat.le_of_ble_eq_true rfl) (by decide) dX4_survey_151 (fun x17 => ?_)
          refine z_iconst (pc := 154) hE dX4_survey_154 q_iconst_0 ?_
          refine z_istore_n (L' := [(3, .int ((0 : Int32))), (0, .ref (ad 66)), (1, .int a1)]) (pc := 155) hE 3 rfl (by decide) rfl dX4_survey_155 ?_
          refine z_sub (L' := [(0, .ref (ad 66)), (1, .int a1), (3, .int ((0 : Int32)))]) [1, 2, 0] rfl ?_
          refine z_loop (V := Int32) (X := Unit) (hd := 156) (ex := 178) (Lh := fun v18 => [(0, .ref (ad 66)), (1, .int a1), (3, .int v18)]) (Lx := fun e21 => [(0, .ref (ad 66)), (1, .int a1)]) (fun rc20 k19 hrc20 hk19 v18 => ?_) zNF ((0 : Int32)) _ (fun e21 => ?_)
          · unfold p_X4_survey_b156
            refine z_iload_n (pc := 156) hE 2 3 rfl rfl dX4_survey_156 ?_
            refine z_aload_n (pc := 157) hE 0 0 rfl rfl dX4_survey_157 ?_
            refine z_getr (pc := 158) hE fk_RX4_15 lX_66 rfl dX4_survey_158 ?_
            refine z_alenz (v := (70 : Int32)) (pc := 161) hE lX_68 (by decide) dX4_survey_161 ?_
            refine z_icmp_ge (pc := 162) hE 178 rfl dX4_survey_162 ?_ ?_
            · exact z_sub [0, 1] rfl (hk19 ())
            · refine z_aload_n (pc := 165) hE 0 0 rfl rfl dX4_survey_165 ?_
              refine z_getr (pc := 166) hE fk_RX4_15 lX_66 rfl dX4_survey_166 ?_
              refine z_iload_n (pc := 169) hE 2 3 rfl rfl dX4_survey_169 ?_
              refine z_iconst (pc := 170) hE dX4_survey_170 q_iconst_0 ?_
              refine z_zast (pc := 171) hE lX_68 dX4_survey_171 ?_
              refine z_iinc (L' := [(3, .int (v18 + (1 : Int32))), (0, .ref (ad 66)), (1, .int a1)]) (pc := 172) hE 2 rfl (zinc q_iconst_1) (by decide) rfl dX4_survey_172 ?_
              refine z_goto (pc := 175) hE 156 rfl dX4_survey_175 ?_
              exact z_sub [1, 2, 0] rfl (hrc20 (v18 + (1 : Int32)))
          · refine z_aload_n (pc := 178) hE 0 0 rfl rfl dX4_survey_178 ?_
            refine z_iconst (pc := 179) hE dX4_survey_179 q_iconst_0 ?_
            refine z_iconst (pc := 180) hE dX4_survey_180 q_iconst_0 ?_
            refine z_aload_n (pc := 181) hE 0 0 rfl rfl dX4_survey_181 ?_
            refine z_getr (pc := 182) hE fk_RX4_26 lX_66 rfl dX4_survey_182 ?_
            refine z_getr (pc := 185) hE fk_RX4_80 lX_20 rfl dX4_survey_185 ?_
            refine z_iload_n (pc := 188) hE 1 1 rfl rfl dX4_survey_188 ?_
            refine z_iald (pc := 189) hE lX_30 dX4_survey_189 (fun x22 => ?_)
            refine z_aload_n (pc := 190) hE 0 0 rfl rfl dX4_survey_190 ?_
            refine z_getr (pc := 191) hE fk_RX4_26 lX_66 rfl dX4_survey_191 ?_
            refine z_getr (pc := 194) hE fk_RX4_83 lX_20 rfl dX4_survey_194 ?_
            refine z_iload_n (pc := 197) hE 1 1 rfl rfl dX4_survey_197 ?_
            refine z_iald (pc := 198) hE lX_31 dX4_survey_198 (fun x23 => ?_)
            refine z_callVv (pc := 199) (st := []) [.int ((0 : Int32)), .int ((0 : Int32)), .int x22, .int x23] hE kk_RX4_86 (c_X4_explore ((0 : Int32)) ((0 : Int32)) x22 x23) lX_66 rfl rfl rfl (Nat.le_of_ble_eq_true rfl) (by decide) dX4_survey_199 (fun x24 => ?_)
            exact z_return (pc := 202) hE hr dX4_survey_202
      · exact z_return (pc := 21) hE hr dX4_survey_21
set_option maxRecDepth 100000 in
set_option maxHeartbeats 4000000 in
theorem c_X4_canBeNear {l : Launch} {ad : Nat → Nat} {ca : FieldType → ClassId} {D : va_G} {tt : Nat → Nat} (a1 : Int32) (a2 : Int32) : zC l yX4_canBeNear cX4_canBeNear 4 (some .boolean) 0 layX ad ca D (xtX ad tt) [.ref (ad 66), .int a1, .int a2] zvi (p_X4_canBeNear a1 a2) := by
  refine z_enter (by decide) (Nat.le_of_ble_eq_true rfl) (fun E hE hl0 hcD hr => ?_)
  have hE : zok layX ad (xtX ad tt) E cX4_canBeNear 4 RX4 0 := hE
  show Z layX ad E 4 (zFin layX ad E zvi) 0 [(0, .ref (ad 66)), (1, .int a1), (2, .int a2)] [] (p_X4_canBeNear a1 a2)
  unfold p_X4_canBeNear
  refine z_iconst (pc := 0) hE dX4_canBeNear_0 q_iconst_0 ?_
  refine z_istore_n (L' := [(3, .int ((0 : Int32))), (0, .ref (ad 66)), (1, .int a1), (2, .int a2)]) (pc := 1) hE 3 rfl (by decide) rfl dX4_canBeNear_1 ?_
  refine z_sub (L' := [(0, .ref (ad 66)), (1, .int a1), (2, .int a2), (3, .int ((0 : Int32)))]) [1, 2, 3, 0] rfl ?_
  refine z_loop (V := Int32) (X := Unit) (hd := 2) (ex := 29) (Lh := fun v1 => [(0, .ref (ad 66)), (1, .int a1), (2, .int a2), (3, .int v1)]) (Lx := fun e4 => []) (fun rc3 k2 hrc3 hk2 v1 => ?_) zNF ((0 : Int32)) _ (fun e4 => ?_)
  · unfold p_X4_canBeNear_b2
    refine z_iload_n (pc := 2) hE 3 3 rfl rfl dX4_canBeNear_2 ?_
    refine z_iload_n (pc := 3) hE 2 2 rfl rfl dX4_canBeNear_3 ?_
    refine z_icmp_gt (pc := 4) hE 29 rfl dX4_canBeNear_4 ?_ ?_
    · exact z_sub [] rfl (hk2 ())
    · refine z_aload_n (pc := 7) hE 0 0 rfl rfl dX4_canBeNear_7 ?_
      refine z_getr (pc := 8) hE fk_RX4_15 lX_66 rfl dX4_canBeNear_8 ?_
      refine z_iload_n (pc := 11) hE 1 1 rfl rfl dX4_canBeNear_11 ?_
      refine z_bipush (pc := 12) hE dX4_canBeNear_12 q_bipush_10 ?_
      refine z_imul (pc := 14) hE dX4_canBeNear_14 ?_
      refine z_iload_n (pc := 15) hE 3 3 rfl rfl dX4_canBeNear_15 ?_
      refine z_iadd (pc := 16) hE dX4_canBeNear_16 ?_
      refine z_zald (pc := 17) hE lX_68 dX4_canBeNear_17 (fun x5 => ?_)
      refine z_if_eq (pc := 18) hE 23 rfl dX4_canBeNear_18 ?_ ?_
      · refine z_iinc (L' := [(3, .int (v1 + (1 : Int32))), (0, .ref (ad 66)), (1, .int a1), (2, .int a2)]) (pc := 23) hE 3 rfl (zinc q_iconst_1) (by decide) rfl dX4_canBeNear_23 ?_
        refine z_goto (pc := 26) hE 2 rfl dX4_canBeNear_26 ?_
        exact z_sub [1, 2, 3, 0] rfl (hrc3 (v1 + (1 : Int32)))
      · refine z_iconst (pc := 21) hE dX4_canBeNear_21 q_iconst_1 ?_
        exact z_zreturn (pc := 22) hE hr dX4_canBeNear_22
  · refine z_iconst (pc := 29) hE dX4_canBeNear_29 q_iconst_0 ?_
    exact z_zreturn (pc := 30) hE hr dX4_canBeNear_30
set_option maxRecDepth 100000 in
set_option maxHeartbeats 4000000 in
theorem c_X4_plan {l : Launch} {ad : Nat → Nat} {ca : FieldType → ClassId} {D : va_G} {tt : Nat → Nat} (a1 : Int32) : zC l yX4_plan cX4_plan 4 (some .boolean) 2 layX ad ca D (xtX ad tt) [.ref (ad 66), .int a1] zvi (p_X4_plan a1) := by
  refine z_enter (by decide) (Nat.le_of_ble_eq_true rfl) (fun E hE hl0 hcD hr => ?_)
  have hE : zok layX ad (xtX ad tt) E cX4_plan 4 RX4 2 := hE
  show Z layX ad E 4 (zFin layX ad E zvi) 0 [(0, .ref (ad 66)), (1, .int a1)] [] (p_X4_plan a1)
  unfold p_X4_plan
  refine z_iconst (pc := 0) hE dX4_plan_0 q_iconst_0 ?_
  refine z_istore_n (L' := [(2, .int ((0 : Int32))), (0, .ref (ad 66)), (1, .int a1)]) (pc := 1) hE 2 rfl (by decide) rfl dX4_plan_1 ?_
  refine z_sub (L' := [(0, .ref (ad 66)), (1, .int a1), (2, .int ((0 : Int32)))]) [1, 2, 0] rfl ?_
  refine z_loop (V := Int32) (X := (Int32 × Int32)) (hd := 2) (ex := 52) (Lh := fun v1 => [(0, .ref (ad 66)), (1, .int a1), (2, .int v1)]) (Lx := fun e4 => [(0, .ref (ad 66)), (2, .int e4.1), (3, .int e4.2)]) (fun rc3 k2 hrc3 hk2 v1 => ?_) zNF ((0 : Int32)) _ (fun e4 => ?_)
  · unfold p_X4_plan_b2
    refine z_iload_n (pc := 2) hE 2 2 rfl rfl dX4_plan_2 ?_
    refine z_aload_n (pc := 3) hE 0 0 rfl rfl dX4_plan_3 ?_
    refine z_geti (pc := 4) hE fk_RX4_50 lX_66 rfl dX4_plan_4 (fun x5 => ?_)
    refine z_icmp_gt (pc := 7) hE 76 rfl dX4_plan_7 ?_ ?_
    · refine z_iconst (pc := 76) hE dX4_plan_76 q_iconst_0 ?_
      exact z_zreturn (pc := 77) hE hr dX4_plan_77
    · refine z_iconst (pc := 10) hE dX4_plan_10 q_iconst_0 ?_
      refine z_istore_n (L' := [(3, .int ((0 : Int32))), (0, .ref (ad 66)), (1, .int a1), (2, .int v1)]) (pc := 11) hE 3 rfl (by decide) rfl dX4_plan_11 ?_
      refine z_sub (L' := [(0, .ref (ad 66)), (1, .int a1), (2, .int v1), (3, .int ((0 : Int32)))]) [1, 2, 3, 0] rfl ?_
      refine z_loop (V := Int32) (X := Unit) (hd := 12) (ex := 70) (Lh := fun v6 => [(0, .ref (ad 66)), (1, .int a1), (2, .int v1), (3, .int v6)]) (Lx := fun e9 => [(0, .ref (ad 66)), (1, .int a1), (2, .int v1)]) (fun rc8 k7 hrc8 hk7 v6 => ?_) zNF ((0 : Int32)) _ (fun e9 => ?_)
      · unfold p_X4_plan_b12
        refine z_iload_n (pc := 12) hE 3 3 rfl rfl dX4_plan_12 ?_
        refine z_aload_n (pc := 13) hE 0 0 rfl rfl dX4_plan_13 ?_
        refine z_geti (pc := 14) hE fk_RX4_44 lX_66 rfl dX4_plan_14 (fun x10 => ?_)
        refine z_icmp_gt (pc := 17) hE 70 rfl dX4_plan_17 ?_ ?_
        · exact z_sub [0, 1, 2] rfl (hk7 ())
        · refine z_aload_n (pc := 20) hE 0 0 rfl rfl dX4_plan_20 ?_
          refine z_iload_n (pc := 21) hE 3 3 rfl rfl dX4_plan_21 ?_
          refine z_iload_n (pc := 22) hE 2 2 rfl rfl dX4_plan_22 ?_
          refine z_callVi (pc := 23) (st := []) [.int v6, .int v1] hE kk_RX4_116 (c_X4_canBeNear v6 v1) lX_66 rfl rfl rfl (Nat.le_of_ble_eq_true rfl) (by decide) dX4_plan_23 (fun x11 => ?_)
          refine z_join (Y := Unit) (pcJ := 64) (Lj := fun y12 => [(0, .ref (ad 66)), (1, .int a1), (2, .int v1), (3, .int v6)]) (sj := fun y12 => []) (fun y12 => ?_) (fun j13 hj13 => ?_)
          · refine z_iinc (L' := [(3, .int (v6 + (1 : Int32))), (0, .ref (ad 66)), (1, .int a1), (2, .int v1)]) (pc := 64) hE 3 rfl (zinc q_iconst_1) (by decide) rfl dX4_plan_64 ?_
            refine z_goto (pc := 67) hE 12 rfl dX4_plan_67 ?_
            exact z_sub [1, 2, 3, 0] rfl (hrc8 (v6 + (1 : Int32)))
          refine z_if_eq (pc := 26) hE 64 rfl dX4_plan_26 ?_ ?_
          · exact z_sub [0, 1, 2, 3] rfl (hj13 ())
          · refine z_aload_n (pc := 29) hE 0 0 rfl rfl dX4_plan_29 ?_
            refine z_getr (pc := 30) hE fk_RX4_11 lX_66 rfl dX4_plan_30 ?_
            refine z_iload_n (pc := 33) hE 3 3 rfl rfl dX4_plan_33 ?_
            refine z_bipush (pc := 34) hE dX4_plan_34 q_bipush_10 ?_
            refine z_imul (pc := 36) hE dX4_plan_36 ?_
            refine z_iload_n (pc := 37) hE 2 2 rfl rfl dX4_plan_37 ?_
            refine z_iadd (pc := 38) hE dX4_plan_38 ?_
            refine z_iald (pc := 39) hE lX_67 dX4_plan_39 (fun x14 => ?_)
            refine z_callNi (pc := 40) (st := []) [.int x14] hE kk_RX4_105 (c_X11_highBy x14) rfl rfl (Nat.le_of_ble_eq_true rfl) (by decide) dX4_plan_40 (fun x15 => ?_)
            refine z_iload_n (pc := 43) hE 1 1 rfl rfl dX4_plan_43 ?_
            refine z_isub (pc := 44) hE dX4_plan_44 ?_
            refine z_abs (pc := 45) hE kk_RX4_98 (Nat.le_of_ble_eq_true rfl) (by decide) dX4_plan_45 ?_
            refine z_iconst (pc := 48) hE dX4_plan_48 q_iconst_1 ?_
            refine z_icmp_gt (pc := 49) hE 64 rfl dX4_plan_49 ?_ ?_
            · exact z_sub [0, 1, 2, 3] rfl (hj13 ())
            · refine z_aload_n (pc := 52) hE 0 0 rfl rfl dX4_plan_52 ?_
              refine z_iload_n (pc := 53) hE 2 2 rfl rfl dX4_plan_53 ?_
              refine z_puti (pc := 54) hE fk_RX4_119 lX_66 rfl dX4_plan_54 ?_
              refine z_aload_n (pc := 57) hE 0 0 rfl rfl dX4_plan_57 ?_
              refine z_iload_n (pc := 58) hE 3 3 rfl rfl dX4_plan_58 ?_
              refine z_puti (pc := 59) hE fk_RX4_121 lX_66 rfl dX4_plan_59 ?_
              refine z_iconst (pc := 62) hE dX4_plan_62 q_iconst_1 ?_
              exact z_zreturn (pc := 63) hE hr dX4_plan_63
      · refine z_iinc (L' := [(2, .int (v1 + (1 : Int32))), (0, .ref (ad 66)), (1, .int a1)]) (pc := 70) hE 2 rfl (zinc q_iconst_1) (by decide) rfl dX4_plan_70 ?_
        refine z_goto (pc := 73) hE 2 rfl dX4_plan_73 ?_
        exact z_sub [1, 2, 0] rfl (hrc3 (v1 + (1 : Int32)))
  · refine z_aload_n (pc := 52) hE 0 0 rfl rfl dX4_plan_52 ?_
    refine z_iload_n (pc := 53) hE 1 2 rfl rfl dX4_plan_53 ?_
    refine z_puti (pc := 54) hE fk_RX4_119 lX_66 rfl dX4_plan_54 ?_
    refine z_aload_n (pc := 57) hE 0 0 rfl rfl dX4_plan_57 ?_
    refine z_iload_n (pc := 58) hE 2 3 rfl rfl dX4_plan_58 ?_
    refine z_puti (pc := 59) hE fk_RX4_121 lX_66 rfl dX4_plan_59 ?_
    refine z_iconst (pc := 62) hE dX4_plan_62 q_iconst_1 ?_
    exact z_zreturn (pc := 63) hE hr dX4_plan_63
set_option maxRecDepth 100000 in
set_option maxHeartbeats 4000000 in
theorem c_X4_beats {l : Launch} {ad : Nat → Nat} {ca : FieldType → ClassId} {D : va_G} {tt : Nat → Nat} (a1 : Int32) (a2 : Int32) : zC l yX4_beats cX4_beats 3 (some .boolean) 0 layX ad ca D (xtX ad tt) [.ref (ad 66), .int a1, .int a2] zvi (p_X4_beats a1 a2) := by
  refine z_enter (by decide) (Nat.le_of_ble_eq_true rfl) (fun E hE hl0 hcD hr => ?_)
  have hE : zok layX ad (xtX ad tt) E cX4_beats 3 RX4 0 := hE
  show Z layX ad E 3 (zFin layX ad E zvi) 0 [(0, .ref (ad 66)), (1, .int a1), (2, .int a2)] [] (p_X4_beats a1 a2)
  unfold p_X4_beats
  refine z_aload_n (pc := 0) hE 0 0 rfl rfl dX4_beats_0 ?_
  refine z_geti (pc := 1) hE fk_RX4_119 lX_66 rfl dX4_beats_1 (fun x1 => ?_)
  refine z_iload_n (pc := 4) hE 1 1 rfl rfl dX4_beats_4 ?_
  refine z_join (Y := Unit) (pcJ := 24) (Lj := fun y2 => []) (sj := fun y2 => []) (fun y2 => ?_) (fun j3 hj3 => ?_)
  · refine z_iconst (pc := 24) hE dX4_beats_24 q_iconst_1 ?_
    refine z_goto (pc := 25) hE 29 rfl dX4_beats_25 ?_
    exact z_zreturn (pc := 29) hE hr dX4_beats_29
  refine z_icmp_lt (pc := 5) hE 24 rfl dX4_beats_5 ?_ ?_
  · exact z_sub [] rfl (hj3 ())
  · refine z_aload_n (pc := 8) hE 0 0 rfl rfl dX4_beats_8 ?_
    refine z_geti (pc := 9) hE fk_RX4_119 lX_66 rfl dX4_beats_9 (fun x4 => ?_)
    refine z_iload_n (pc := 12) hE 1 1 rfl rfl dX4_beats_12 ?_
    refine z_icmp_ne (pc := 13) hE 28 rfl dX4_beats_13 ?_ ?_
    · refine z_iconst (pc := 28) hE dX4_beats_28 q_iconst_0 ?_
      exact z_zreturn (pc := 29) hE hr dX4_beats_29
    · refine z_aload_n (pc := 16) hE 0 0 rfl rfl dX4_beats_16 ?_
      refine z_geti (pc := 17) hE fk_RX4_121 lX_66 rfl dX4_beats_17 (fun x5 => ?_)
      refine z_iload_n (pc := 20) hE 2 2 rfl rfl dX4_beats_20 ?_
      refine z_icmp_ge (pc := 21) hE 28 rfl dX4_beats_21 ?_ ?_
      · refine z_iconst (pc := 28) hE dX4_beats_28 q_iconst_0 ?_
        exact z_zreturn (pc := 29) hE hr dX4_beats_29
      · exact z_sub [] rfl (hj3 ())
set_option maxRecDepth 100000 in
set_option maxHeartbeats 4000000 in
theorem c_X4_retraceFrom_s (G : ((Int32 × Int32 × Int32 × Int32) → zM Int32) × ((Int32 × Int32 × Int32 × Int32) → zM Int32)) (d : Nat) (hd : 3 ≤ d) (hG : (∀ (l : Launch) (ad : Nat → Nat) (ca : FieldType → ClassId) (D : va_G) (tt : Nat → Nat) (a1 : Int32) (a2 : Int32) (a3 : Int32) (a4 : Int32), zC l yX4_retraceFrom cX4_retraceFrom 6 (some .boolean) (d - 1) layX ad ca D (xtX ad tt) [.ref (ad 66), .int a1, .int a2, .int a3, .int a4] zvi (G.1 (a1, a2, a3, a4))) ∧ (∀ (l : Launch) (ad : Nat → Nat) (ca : FieldType → ClassId) (D : va_G) (tt : Nat → Nat) (a1 : Int32) (a2 : Int32) (a3 : Int32) (a4 : Int32), zC l yX4_retraceHour cX4_retraceHour 6 (some .boolean) (d - 1) layX ad ca D (xtX ad tt) [.ref (ad 66), .int a1, .int a2, .int a3, .int a4] zvi (G.2 (a1, a2, a3, a4)))) {l : Launch} {ad : Nat → Nat} {ca : FieldType → ClassId} {D : va_G} {tt : Nat → Nat} (a1 : Int32) (a2 : Int32) (a3 : Int32) (a4 : Int32) : zC l yX4_retraceFrom cX4_retraceFrom 6 (some .boolean) d layX ad ca D (xtX ad tt) [.ref (ad 66), .int a1, .int a2, .int a3, .int a4] zvi (p_X4_retraceFrom_s G a1 a2 a3 a4) := by
  refine z_enter (by decide) (Nat.le_of_ble_eq_true rfl) (fun E hE hl0 hcD hr => ?_)
  have hE : zok layX ad (xtX ad tt) E cX4_retraceFrom 6 RX4 d := hE
  show Z layX ad E 6 (zFin layX ad E zvi) 0 [(0, .ref (ad 66)), (1, .int a1), (2, .int a2), (3, .int a3), (4, .int a4)] [] (p_X4_retraceFrom_s G a1 a2 a3 a4)
  unfold p_X4_retraceFrom_s
  refine z_iload_n (pc := 0) hE 1 1 rfl rfl dX4_retraceFrom_0 ?_
  refine z_aload_n (pc := 1) hE 0 0 rfl rfl dX4_retraceFrom_1 ?_
  refine z_geti (pc := 2) hE fk_RX4_44 lX_66 rfl dX4_retraceFrom_2 (fun x1 => ?_)
  refine z_icmp_gt (pc := 5) hE 17 rfl dX4_retraceFrom_5 ?_ ?_
  · refine z_iconst (pc := 17) hE dX4_retraceFrom_17 q_iconst_0 ?_
    exact z_zreturn (pc := 18) hE hr dX4_retraceFrom_18
  · refine z_iload_n (pc := 8) hE 3 3 rfl rfl dX4_retraceFrom_8 ?_
    refine z_iload (pc := 9) hE 4 rfl dX4_retraceFrom_9 ?_
    refine z_callNi (pc := 11) (st := []) [.int a3, .int a4] hE kk_RX4_90 (c_X11_isOver a3 a4) rfl rfl (Nat.le_of_ble_eq_true rfl) (by omega) dX4_retraceFrom_11 (fun x2 => ?_)
    refine z_if_eq (pc := 14) hE 19 rfl dX4_retraceFrom_14 ?_ ?_
    · refine z_iload_n (pc := 19) hE 1 1 rfl rfl dX4_retraceFrom_19 ?_
      refine z_aload_n (pc := 20) hE 0 0 rfl rfl dX4_retraceFrom_20 ?_
      refine z_geti (pc := 21) hE fk_RX4_121 lX_66 rfl dX4_retraceFrom_21 (fun x3 => ?_)
      refine z_icmp_ne (pc := 24) hE 62 rfl dX4_retraceFrom_24 ?_ ?_
      · refine z_iload_n (pc := 62) hE 2 2 rfl rfl dX4_retraceFrom_62 ?_
        refine z_istore (L' := [(5, .int a2), (0, .ref (ad 66)), (1, .int a1), (2, .int a2), (3, .int a3), (4, .int a4)]) (pc := 63) hE (by decide) rfl dX4_retraceFrom_63 ?_
        refine z_sub (L' := [(0, .ref (ad 66)), (1, .int a1), (2, .int a2), (3, .int a3), (4, .int a4), (5, .int a2)]) [1, 2, 3, 4, 5, 0] rfl ?_
        refine z_loop (V := Int32) (X := Unit) (hd := 65) (ex := 105) (Lh := fun v4 => [(0, .ref (ad 66)), (1, .int a1), (2, .int a2), (3, .int a3), (4, .int a4), (5, .int v4)]) (Lx := fun e7 => []) (fun rc6 k5 hrc6 hk5 v4 => ?_) zNF a2 _ (fun e7 => ?_)
        · unfold p_X4_retraceFrom_b65
          refine z_iload (pc := 65) hE 5 rfl dX4_retraceFrom_65 ?_
          refine z_aload_n (pc := 67) hE 0 0 rfl rfl dX4_retraceFrom_67 ?_
          refine z_geti (pc := 68) hE fk_RX4_119 lX_66 rfl dX4_retraceFrom_68 (fun x8 => ?_)
          refine z_icmp_gt (pc := 71) hE 105 rfl dX4_retraceFrom_71 ?_ ?_
          · exact z_sub [] rfl (hk5 ())
          · refine z_aload_n (pc := 74) hE 0 0 rfl rfl dX4_retraceFrom_74 ?_
            refine z_getr (pc := 75) hE fk_RX4_23 lX_66 rfl dX4_retraceFrom_75 ?_
            refine z_iload_n (pc := 78) hE 1 1 rfl rfl dX4_retraceFrom_78 ?_
            refine z_iload (pc := 79) hE 5 rfl dX4_retraceFrom_79 ?_
            refine z_iload_n (pc := 81) hE 2 2 rfl rfl dX4_retraceFrom_81 ?_
            refine z_isub (pc := 82) hE dX4_retraceFrom_82 ?_
            refine z_iast (pc := 83) hE lX_70 dX4_retraceFrom_83 ?_
            refine z_aload_n (pc := 84) hE 0 0 rfl rfl dX4_retraceFrom_84 ?_
            refine z_iload_n (pc := 85) hE 1 1 rfl rfl dX4_retraceFrom_85 ?_
            refine z_iload (pc := 86) hE 5 rfl dX4_retraceFrom_86 ?_
            refine z_iload_n (pc := 88) hE 3 3 rfl rfl dX4_retraceFrom_88 ?_
            refine z_iload (pc := 89) hE 4 rfl dX4_retraceFrom_89 ?_
            refine z_callVi (pc := 91) (st := []) [.int a1, .int v4, .int a3, .int a4] hE kk_RX4_127 (hG.2 _ _ _ _ _ a1 v4 a3 a4) lX_66 rfl rfl rfl (Nat.le_of_ble_eq_true rfl) (by omega) dX4_retraceFrom_91 (fun x9 => ?_)
            refine z_if_eq (pc := 94) hE 99 rfl dX4_retraceFrom_94 ?_ ?_
            · refine z_iinc (L' := [(5, .int (v4 + (1 : Int32))), (0, .ref (ad 66)), (1, .int a1), (2, .int a2), (3, .int a3), (4, .int a4)]) (pc := 99) hE 5 rfl (zinc q_iconst_1) (by decide) rfl dX4_retraceFrom_99 ?_
              refine z_goto (pc := 102) hE 65 rfl dX4_retraceFrom_102 ?_
              exact z_sub [1, 2, 3, 4, 5, 0] rfl (hrc6 (v4 + (1 : Int32)))
            · refine z_iconst (pc := 97) hE dX4_retraceFrom_97 q_iconst_1 ?_
              exact z_zreturn (pc := 98) hE hr dX4_retraceFrom_98
        · refine z_iconst (pc := 105) hE dX4_retraceFrom_105 q_iconst_0 ?_
          exact z_zreturn (pc := 106) hE hr dX4_retraceFrom_106
      · refine z_aload_n (pc := 27) hE 0 0 rfl rfl dX4_retraceFrom_27 ?_
        refine z_getr (pc := 28) hE fk_RX4_23 lX_66 rfl dX4_retraceFrom_28 ?_
        refine z_iload_n (pc := 31) hE 1 1 rfl rfl dX4_retraceFrom_31 ?_
        refine z_aload_n (pc := 32) hE 0 0 rfl rfl dX4_retraceFrom_32 ?_
        refine z_geti (pc := 33) hE fk_RX4_119 lX_66 rfl dX4_retraceFrom_33 (fun x10 => ?_)
        refine z_iload_n (pc := 36) hE 2 2 rfl rfl dX4_retraceFrom_36 ?_
        refine z_isub (pc := 37) hE dX4_retraceFrom_37 ?_
        refine z_iast (pc := 38) hE lX_70 dX4_retraceFrom_38 ?_
        refine z_iload_n (pc := 39) hE 3 3 rfl rfl dX4_retraceFrom_39 ?_
        refine z_abs (pc := 40) hE kk_RX4_98 (Nat.le_of_ble_eq_true rfl) (by omega) dX4_retraceFrom_40 ?_
        refine z_iload (pc := 43) hE 4 rfl dX4_retraceFrom_43 ?_
        refine z_abs (pc := 45) hE kk_RX4_98 (Nat.le_of_ble_eq_true rfl) (by omega) dX4_retraceFrom_45 ?_
        refine z_iadd (pc := 48) hE dX4_retraceFrom_48 ?_
        refine z_aload_n (pc := 49) hE 0 0 rfl rfl dX4_retraceFrom_49 ?_
        refine z_geti (pc := 50) hE fk_RX4_56 lX_66 rfl dX4_retraceFrom_50 (fun x11 => ?_)
        refine z_icmp_gt (pc := 53) hE 60 rfl dX4_retraceFrom_53 ?_ ?_
        · refine z_iconst (pc := 60) hE dX4_retraceFrom_60 q_iconst_0 ?_
          exact z_zreturn (pc := 61) hE hr dX4_retraceFrom_61
        · refine z_iconst (pc := 56) hE dX4_retraceFrom_56 q_iconst_1 ?_
          refine z_goto (pc := 57) hE 61 rfl dX4_retraceFrom_57 ?_
          exact z_zreturn (pc := 61) hE hr dX4_retraceFrom_61
    · refine z_iconst (pc := 17) hE dX4_retraceFrom_17 q_iconst_0 ?_
      exact z_zreturn (pc := 18) hE hr dX4_retraceFrom_18
set_option maxRecDepth 100000 in
set_option maxHeartbeats 4000000 in
theorem c_X4_retraceHour_s (G : ((Int32 × Int32 × Int32 × Int32) → zM Int32) × ((Int32 × Int32 × Int32 × Int32) → zM Int32)) (d : Nat) (hd : 3 ≤ d) (hG : (∀ (l : Launch) (ad : Nat → Nat) (ca : FieldType → ClassId) (D : va_G) (tt : Nat → Nat) (a1 : Int32) (a2 : Int32) (a3 : Int32) (a4 : Int32), zC l yX4_retraceFrom cX4_retraceFrom 6 (some .boolean) (d - 1) layX ad ca D (xtX ad tt) [.ref (ad 66), .int a1, .int a2, .int a3, .int a4] zvi (G.1 (a1, a2, a3, a4))) ∧ (∀ (l : Launch) (ad : Nat → Nat) (ca : FieldType → ClassId) (D : va_G) (tt : Nat → Nat) (a1 : Int32) (a2 : Int32) (a3 : Int32) (a4 : Int32), zC l yX4_retraceHour cX4_retraceHour 6 (some .boolean) (d - 1) layX ad ca D (xtX ad tt) [.ref (ad 66), .int a1, .int a2, .int a3, .int a4] zvi (G.2 (a1, a2, a3, a4)))) {l : Launch} {ad : Nat → Nat} {ca : FieldType → ClassId} {D : va_G} {tt : Nat → Nat} (a1 : Int32) (a2 : Int32) (a3 : Int32) (a4 : Int32) : zC l yX4_retraceHour cX4_retraceHour 6 (some .boolean) d layX ad ca D (xtX ad tt) [.ref (ad 66), .int a1, .int a2, .int a3, .int a4] zvi (p_X4_retraceHour_s G a1 a2 a3 a4) := by
  refine z_enter (by decide) (Nat.le_of_ble_eq_true rfl) (fun E hE hl0 hcD hr => ?_)
  have hE : zok layX ad (xtX ad tt) E cX4_retraceHour 6 RX4 d := hE
  show Z layX ad E 6 (zFin layX ad E zvi) 0 [(0, .ref (ad 66)), (1, .int a1), (2, .int a2), (3, .int a3), (4, .int a4)] [] (p_X4_retraceHour_s G a1 a2 a3 a4)
  unfold p_X4_retraceHour_s
  refine z_aload_n (pc := 0) hE 0 0 rfl rfl dX4_retraceHour_0 ?_
  refine z_getr (pc := 1) hE fk_RX4_11 lX_66 rfl dX4_retraceHour_1 ?_
  refine z_iload_n (pc := 4) hE 1 1 rfl rfl dX4_retraceHour_4 ?_
  refine z_bipush (pc := 5) hE dX4_retraceHour_5 q_bipush_10 ?_
  refine z_imul (pc := 7) hE dX4_retraceHour_7 ?_
  refine z_iload_n (pc := 8) hE 2 2 rfl rfl dX4_retraceHour_8 ?_
  refine z_iadd (pc := 9) hE dX4_retraceHour_9 ?_
  refine z_iald (pc := 10) hE lX_67 dX4_retraceHour_10 (fun x1 => ?_)
  refine z_callNi (pc := 11) (st := []) [.int x1] hE kk_RX4_105 (c_X11_highBy x1) rfl rfl (Nat.le_of_ble_eq_true rfl) (by omega) dX4_retraceHour_11 (fun x2 => ?_)
  refine z_istore (L' := [(5, .int x2), (0, .ref (ad 66)), (1, .int a1), (2, .int a2), (3, .int a3), (4, .int a4)]) (pc := 14) hE (by decide) rfl dX4_retraceHour_14 ?_
  refine z_aload_n (pc := 16) hE 1 0 rfl rfl dX4_retraceHour_16 ?_
  refine z_getr (pc := 17) hE fk_RX4_11 lX_66 rfl dX4_retraceHour_17 ?_
  refine z_iload_n (pc := 20) hE 2 1 rfl rfl dX4_retraceHour_20 ?_
  refine z_iconst (pc := 21) hE dX4_retraceHour_21 q_iconst_1 ?_
  refine z_iadd (pc := 22) hE dX4_retraceHour_22 ?_
  refine z_bipush (pc := 23) hE dX4_retraceHour_23 q_bipush_10 ?_
  refine z_imul (pc := 25) hE dX4_retraceHour_25 ?_
  refine z_iload_n (pc := 26) hE 3 2 rfl rfl dX4_retraceHour_26 ?_
  refine z_iadd (pc := 27) hE dX4_retraceHour_27 ?_
  refine z_iald (pc := 28) hE lX_67 dX4_retraceHour_28 (fun x3 => ?_)
  refine z_if_lt (pc := 29) hE 72 rfl dX4_retraceHour_29 ?_ ?_
  · refine z_iconst (pc := 72) hE dX4_retraceHour_72 q_iconst_0 ?_
    exact z_zreturn (pc := 73) hE hr dX4_retraceHour_73
  · refine z_aload_n (pc := 32) hE 1 0 rfl rfl dX4_retraceHour_32 ?_
    refine z_iload_n (pc := 33) hE 2 1 rfl rfl dX4_retraceHour_33 ?_
    refine z_iconst (pc := 34) hE dX4_retraceHour_34 q_iconst_1 ?_
    refine z_iadd (pc := 35) hE dX4_retraceHour_35 ?_
    refine z_iload_n (pc := 36) hE 3 2 rfl rfl dX4_retraceHour_36 ?_
    refine z_iload_n (pc := 37) hE 4 3 rfl rfl dX4_retraceHour_37 ?_
    refine z_aload_n (pc := 38) hE 1 0 rfl rfl dX4_retraceHour_38 ?_
    refine z_getr (pc := 39) hE fk_RX4_30 lX_66 rfl dX4_retraceHour_39 ?_
    refine z_getr (pc := 42) hE fk_RX4_108 lX_10 rfl dX4_retraceHour_42 ?_
    refine z_iload (pc := 45) hE 0 rfl dX4_retraceHour_45 ?_
    refine z_iald (pc := 47) hE lX_13 dX4_retraceHour_47 (fun x4 => ?_)
    refine z_iadd (pc := 48) hE dX4_retraceHour_48 ?_
    refine z_iload (pc := 49) hE 5 rfl dX4_retraceHour_49 ?_
    refine z_aload_n (pc := 51) hE 1 0 rfl rfl dX4_retraceHour_51 ?_
    refine z_getr (pc := 52) hE fk_RX4_30 lX_66 rfl dX4_retraceHour_52 ?_
    refine z_getr (pc := 55) hE fk_RX4_113 lX_10 rfl dX4_retraceHour_55 ?_
    refine z_iload (pc := 58) hE 0 rfl dX4_retraceHour_58 ?_
    refine z_iald (pc := 60) hE lX_14 dX4_retraceHour_60 (fun x5 => ?_)
    refine z_iadd (pc := 61) hE dX4_retraceHour_61 ?_
    refine z_callVi (pc := 62) (st := []) [.int (a1 + ((1 : Int32))), .int a2, .int (a3 + x4), .int (a4 + x5)] hE kk_RX4_124 (hG.1 _ _ _ _ _ (a1 + ((1 : Int32))) a2 (a3 + x4) (a4 + x5)) lX_66 rfl rfl rfl (Nat.le_of_ble_eq_true rfl) (by omega) dX4_retraceHour_62 (fun x6 => ?_)
    refine z_if_eq (pc := 65) hE 72 rfl dX4_retraceHour_65 ?_ ?_
    · refine z_iconst (pc := 72) hE dX4_retraceHour_72 q_iconst_0 ?_
      exact z_zreturn (pc := 73) hE hr dX4_retraceHour_73
    · refine z_iconst (pc := 68) hE dX4_retraceHour_68 q_iconst_1 ?_
      refine z_goto (pc := 69) hE 73 rfl dX4_retraceHour_69 ?_
      exact z_zreturn (pc := 73) hE hr dX4_retraceHour_73
theorem c_X4_retraceFrom_g : ∀ (n d : Nat), 2 + n ≤ d → (∀ (l : Launch) (ad : Nat → Nat) (ca : FieldType → ClassId) (D : va_G) (tt : Nat → Nat) (a1 : Int32) (a2 : Int32) (a3 : Int32) (a4 : Int32), zC l yX4_retraceFrom cX4_retraceFrom 6 (some .boolean) d layX ad ca D (xtX ad tt) [.ref (ad 66), .int a1, .int a2, .int a3, .int a4] zvi ((p_X4_retraceFrom_g n).1 (a1, a2, a3, a4))) ∧ (∀ (l : Launch) (ad : Nat → Nat) (ca : FieldType → ClassId) (D : va_G) (tt : Nat → Nat) (a1 : Int32) (a2 : Int32) (a3 : Int32) (a4 : Int32), zC l yX4_retraceHour cX4_retraceHour 6 (some .boolean) d layX ad ca D (xtX ad tt) [.ref (ad 66), .int a1, .int a2, .int a3, .int a4] zvi ((p_X4_retraceFrom_g n).2 (a1, a2, a3, a4)))
  | 0, d, h => ⟨fun _ _ _ _ _ _ _ _ _ S r S2 h => (by cases h), fun _ _ _ _ _ _ _ _ _ S r S2 h => (by cases h)⟩
  | n + 1, d, h => by
    have hG := c_X4_retraceFrom_g n (d - 1) (by omega)
    exact ⟨fun l ad ca D tt a1 a2 a3 a4 => c_X4_retraceFrom_s _ d (by omega) hG a1 a2 a3 a4, fun l ad ca D tt a1 a2 a3 a4 => c_X4_retraceHour_s _ d (by omega) hG a1 a2 a3 a4⟩
theorem c_X4_retraceFrom {l : Launch} {ad : Nat → Nat} {ca : FieldType → ClassId} {D : va_G} {tt : Nat → Nat} (a1 : Int32) (a2 : Int32) (a3 : Int32) (a4 : Int32) : zC l yX4_retraceFrom cX4_retraceFrom 6 (some .boolean) 102 layX ad ca D (xtX ad tt) [.ref (ad 66), .int a1, .int a2, .int a3, .int a4] zvi (p_X4_retraceFrom a1 a2 a3 a4) := (c_X4_retraceFrom_g zDP 102 (Nat.le_of_eq (by rw [zDP_eq]))).1 _ _ _ _ _ a1 a2 a3 a4
theorem c_X4_retraceHour {l : Launch} {ad : Nat → Nat} {ca : FieldType → ClassId} {D : va_G} {tt : Nat → Nat} (a1 : Int32) (a2 : Int32) (a3 : Int32) (a4 : Int32) : zC l yX4_retraceHour cX4_retraceHour 6 (some .boolean) 102 layX ad ca D (xtX ad tt) [.ref (ad 66), .int a1, .int a2, .int a3, .int a4] zvi (p_X4_retraceHour a1 a2 a3 a4) := (c_X4_retraceFrom_g zDP 102 (Nat.le_of_eq (by rw [zDP_eq]))).2 _ _ _ _ _ a1 a2 a3 a4
set_option maxRecDepth 100000 in
set_option maxHeartbeats 4000000 in
theorem c_X4_retrace {l : Launch} {ad : Nat → Nat} {ca : FieldType → ClassId} {D : va_G} {tt : Nat → Nat}  : zC l yX4_retrace cX4_retrace 1 (some .boolean) 103 layX ad ca D (xtX ad tt) [.ref (ad 66)] zvi (p_X4_retrace) := by
  refine z_enter (by decide) (Nat.le_of_ble_eq_true rfl) (fun E hE hl0 hcD hr => ?_)
  have hE : zok layX ad (xtX ad tt) E cX4_retrace 1 RX4 103 := hE
  show Z layX ad E 1 (zFin layX ad E zvi) 0 [(0, .ref (ad 66))] [] (p_X4_retrace)
  unfold p_X4_retrace
  refine z_aload_n (pc := 0) hE 0 0 rfl rfl dX4_retrace_0 ?_
  refine z_getr (pc := 1) hE fk_RX4_26 lX_66 rfl dX4_retrace_1 ?_
  refine z_aload_n (pc := 4) hE 0 0 rfl rfl dX4_retrace_4 ?_
  refine z_geti (pc := 5) hE fk_RX4_40 lX_66 rfl dX4_retrace_5 (fun x1 => ?_)
  refine z_callVi (pc := 8) (st := []) [.int x1] hE kk_RX4_34 (c_X3_has 20 zfk_20 x1) lX_20 rfl rfl rfl (Nat.le_of_ble_eq_true rfl) (by decide) dX4_retrace_8 (fun x2 => ?_)
  refine z_if_eq (pc := 11) hE 51 rfl dX4_retrace_11 ?_ ?_
  · refine z_iconst (pc := 51) hE dX4_retrace_51 q_iconst_0 ?_
    exact z_zreturn (pc := 52) hE hr dX4_retrace_52
  · refine z_aload_n (pc := 14) hE 0 0 rfl rfl dX4_retrace_14 ?_
    refine z_iconst (pc := 15) hE dX4_retrace_15 q_iconst_0 ?_
    refine z_iconst (pc := 16) hE dX4_retrace_16 q_iconst_0 ?_
    refine z_aload_n (pc := 17) hE 0 0 rfl rfl dX4_retrace_17 ?_
    refine z_getr (pc := 18) hE fk_RX4_26 lX_66 rfl dX4_retrace_18 ?_
    refine z_getr (pc := 21) hE fk_RX4_80 lX_20 rfl dX4_retrace_21 ?_
    refine z_aload_n (pc := 24) hE 0 0 rfl rfl dX4_retrace_24 ?_
    refine z_geti (pc := 25) hE fk_RX4_40 lX_66 rfl dX4_retrace_25 (fun x3 => ?_)
    refine z_iald (pc := 28) hE lX_30 dX4_retrace_28 (fun x4 => ?_)
    refine z_aload_n (pc := 29) hE 0 0 rfl rfl dX4_retrace_29 ?_
    refine z_getr (pc := 30) hE fk_RX4_26 lX_66 rfl dX4_retrace_30 ?_
    refine z_getr (pc := 33) hE fk_RX4_83 lX_20 rfl dX4_retrace_33 ?_
    refine z_aload_n (pc := 36) hE 0 0 rfl rfl dX4_retrace_36 ?_
    refine z_geti (pc := 37) hE fk_RX4_40 lX_66 rfl dX4_retrace_37 (fun x5 => ?_)
    refine z_iald (pc := 40) hE lX_31 dX4_retrace_40 (fun x6 => ?_)
    refine z_callVi (pc := 41) (st := []) [.int ((0 : Int32)), .int ((0 : Int32)), .int x4, .int x6] hE kk_RX4_124 (c_X4_retraceFrom ((0 : Int32)) ((0 : Int32)) x4 x6) lX_66 rfl rfl rfl (Nat.le_of_ble_eq_true rfl) (by decide) dX4_retrace_41 (fun x7 => ?_)
    refine z_if_eq (pc := 44) hE 51 rfl dX4_retrace_44 ?_ ?_
    · refine z_iconst (pc := 51) hE dX4_retrace_51 q_iconst_0 ?_
      exact z_zreturn (pc := 52) hE hr dX4_retrace_52
    · refine z_iconst (pc := 47) hE dX4_retrace_47 q_iconst_1 ?_
      refine z_goto (pc := 48) hE 52 rfl dX4_retrace_48 ?_
      exact z_zreturn (pc := 52) hE hr dX4_retrace_52
set_option maxRecDepth 100000 in
set_option maxHeartbeats 4000000 in
theorem c_X5_add {l : Launch} {ad : Nat → Nat} {ca : FieldType → ClassId} {D : va_G} {tt : Nat → Nat} (a1 : Int32) (a2 : Int32) (a3 : Int32) : zC l yX5_add cX5_add 4 none 0 layX ad ca D (xtX ad tt) [.ref (ad 50), .int a1, .int a2, .int a3] zvn (p_X5_add a1 a2 a3) := by
  refine z_enter (by decide) (Nat.le_of_ble_eq_true rfl) (fun E hE hl0 hcD hr => ?_)
  have hE : zok layX ad (xtX ad tt) E cX5_add 4 RX5 0 := hE
  show Z layX ad E 4 (zFin layX ad E zvn) 0 [(0, .ref (ad 50)), (1, .int a1), (2, .int a2), (3, .int a3)] [] (p_X5_add a1 a2 a3)
  unfold p_X5_add
  refine z_aload_n (pc := 0) hE 0 0 rfl rfl dX5_add_0 ?_
  refine z_geti (pc := 1) hE fk_RX5_33 lX_50 rfl dX5_add_1 (fun x1 => ?_)
  refine z_bipush (pc := 4) hE dX5_add_4 q_bipush_12 ?_
  refine z_icmp_ge (pc := 6) hE 49 rfl dX5_add_6 ?_ ?_
  · exact z_return (pc := 49) hE hr dX5_add_49
  · refine z_aload_n (pc := 9) hE 0 0 rfl rfl dX5_add_9 ?_
    refine z_getr (pc := 10) hE fk_RX5_9 lX_50 rfl dX5_add_10 ?_
    refine z_aload_n (pc := 13) hE 0 0 rfl rfl dX5_add_13 ?_
    refine z_geti (pc := 14) hE fk_RX5_33 lX_50 rfl dX5_add_14 (fun x2 => ?_)
    refine z_iload_n (pc := 17) hE 1 1 rfl rfl dX5_add_17 ?_
    refine z_iast (pc := 18) hE lX_51 dX5_add_18 ?_
    refine z_aload_n (pc := 19) hE 0 0 rfl rfl dX5_add_19 ?_
    refine z_getr (pc := 20) hE fk_RX5_15 lX_50 rfl dX5_add_20 ?_
    refine z_aload_n (pc := 23) hE 0 0 rfl rfl dX5_add_23 ?_
    refine z_geti (pc := 24) hE fk_RX5_33 lX_50 rfl dX5_add_24 (fun x3 => ?_)
    refine z_iload_n (pc := 27) hE 2 2 rfl rfl dX5_add_27 ?_
    refine z_iast (pc := 28) hE lX_52 dX5_add_28 ?_
    refine z_aload_n (pc := 29) hE 0 0 rfl rfl dX5_add_29 ?_
    refine z_getr (pc := 30) hE fk_RX5_18 lX_50 rfl dX5_add_30 ?_
    refine z_aload_n (pc := 33) hE 0 0 rfl rfl dX5_add_33 ?_
    refine z_geti (pc := 34) hE fk_RX5_33 lX_50 rfl dX5_add_34 (fun x4 => ?_)
    refine z_iload_n (pc := 37) hE 3 3 rfl rfl dX5_add_37 ?_
    refine z_iast (pc := 38) hE lX_53 dX5_add_38 ?_
    refine z_aload_n (pc := 39) hE 0 0 rfl rfl dX5_add_39 ?_
    refine z_dup (pc := 40) hE dX5_add_40 rfl ?_
    refine z_geti (pc := 41) hE fk_RX5_33 lX_50 rfl dX5_add_41 (fun x5 => ?_)
    refine z_iconst (pc := 44) hE dX5_add_44 q_iconst_1 ?_
    refine z_iadd (pc := 45) hE dX5_add_45 ?_
    refine z_puti (pc := 46) hE fk_RX5_33 lX_50 rfl dX5_add_46 ?_
    exact z_return (pc := 49) hE hr dX5_add_49
set_option maxRecDepth 100000 in
set_option maxHeartbeats 4000000 in
theorem c_X5_allows {l : Launch} {ad : Nat → Nat} {ca : FieldType → ClassId} {D : va_G} {tt : Nat → Nat} (b : Nat) (hb : zfk b) (a1 : Int32) (a3 : Int32) : zC l yX5_allows cX5_allows 4 (some .boolean) 2 layX ad ca D (xtX ad tt) [.ref (ad 50), .int a1, .ref (ad b), .int a3] zvi (p_X5_allows b a1 a3) := by
  refine z_enter (by decide) (Nat.le_of_ble_eq_true rfl) (fun E hE hl0 hcD hr => ?_)
  have hE : zok layX ad (xtX ad tt) E cX5_allows 4 RX5 2 := hE
  show Z layX ad E 4 (zFin layX ad E zvi) 0 [(0, .ref (ad 50)), (1, .int a1), (2, .ref (ad b)), (3, .int a3)] [] (p_X5_allows b a1 a3)
  unfold p_X5_allows
  refine z_aload_n (pc := 0) hE 0 0 rfl rfl dX5_allows_0 ?_
  refine z_getr (pc := 1) hE fk_RX5_15 lX_50 rfl dX5_allows_1 ?_
  refine z_iload_n (pc := 4) hE 1 1 rfl rfl dX5_allows_4 ?_
  refine z_iald (pc := 5) hE lX_52 dX5_allows_5 (fun x1 => ?_)
  refine z_case x1 (0 : Int32) (fun hc2 => ?_) (fun hc2 => ?_)
  · refine z_lookup (pc := 6) hE 26 32 dX5_allows_6 (by decide) (by rw [hc2]; decide) rfl ?_
    refine z_aload_n (pc := 32) hE 2 2 rfl rfl dX5_allows_32 ?_
    refine z_getr (pc := 33) hE fk_RX5_44 hb.1 rfl dX5_allows_33 ?_
    refine z_iload_n (pc := 36) hE 3 3 rfl rfl dX5_allows_36 ?_
    refine z_iald (pc := 37) hE hb.2.2.2.2.2.2.1 dX5_allows_37 (fun x3 => ?_)
    refine z_aload_n (pc := 38) hE 0 0 rfl rfl dX5_allows_38 ?_
    refine z_getr (pc := 39) hE fk_RX5_18 lX_50 rfl dX5_allows_39 ?_
    refine z_iload_n (pc := 42) hE 1 1 rfl rfl dX5_allows_42 ?_
    refine z_iald (pc := 43) hE lX_53 dX5_allows_43 (fun x4 => ?_)
    refine z_icmp_lt (pc := 44) hE 51 rfl dX5_allows_44 ?_ ?_
    · refine z_iconst (pc := 51) hE dX5_allows_51 q_iconst_0 ?_
      exact z_zreturn (pc := 52) hE hr dX5_allows_52
    · refine z_iconst (pc := 47) hE dX5_allows_47 q_iconst_1 ?_
      refine z_goto (pc := 48) hE 52 rfl dX5_allows_48 ?_
      exact z_zreturn (pc := 52) hE hr dX5_allows_52
  refine z_case x1 (1 : Int32) (fun hc5 => ?_) (fun hc5 => ?_)
  · refine z_lookup (pc := 6) hE 47 53 dX5_allows_6 (by decide) (by rw [hc5]; decide) rfl ?_
    refine z_aload_n (pc := 53) hE 2 2 rfl rfl dX5_allows_53 ?_
    refine z_iload_n (pc := 54) hE 3 3 rfl rfl dX5_allows_54 ?_
    refine z_callVi (pc := 55) (st := []) [.int a3] hE kk_RX5_47 (c_X3_weightOf b hb a3) hb.1 rfl rfl rfl (Nat.le_of_ble_eq_true rfl) (by decide) dX5_allows_55 (fun x6 => ?_)
    refine z_aload_n (pc := 58) hE 0 0 rfl rfl dX5_allows_58 ?_
    refine z_getr (pc := 59) hE fk_RX5_18 lX_50 rfl dX5_allows_59 ?_
    refine z_iload_n (pc := 62) hE 1 1 rfl rfl dX5_allows_62 ?_
    refine z_iald (pc := 63) hE lX_53 dX5_allows_63 (fun x7 => ?_)
    refine z_icmp_gt (pc := 64) hE 71 rfl dX5_allows_64 ?_ ?_
    · refine z_iconst (pc := 71) hE dX5_allows_71 q_iconst_0 ?_
      exact z_zreturn (pc := 72) hE hr dX5_allows_72
    · refine z_iconst (pc := 67) hE dX5_allows_67 q_iconst_1 ?_
      refine z_goto (pc := 68) hE 72 rfl dX5_allows_68 ?_
      exact z_zreturn (pc := 72) hE hr dX5_allows_72
  have ihc2 := zne (0) hc2 (by decide)
  have ihc5 := zne (1) hc5 (by decide)
  refine z_lookup (pc := 6) hE (67) 73 dX5_allows_6 (by decide) (by simp [Op.lookupswitch.offset, ihc2, Ne.symm ihc2, ihc5, Ne.symm ihc5]) rfl ?_
  refine z_iload_n (pc := 73) hE 3 3 rfl rfl dX5_allows_73 ?_
  refine z_aload_n (pc := 74) hE 0 0 rfl rfl dX5_allows_74 ?_
  refine z_getr (pc := 75) hE fk_RX5_18 lX_50 rfl dX5_allows_75 ?_
  refine z_iload_n (pc := 78) hE 1 1 rfl rfl dX5_allows_78 ?_
  refine z_iald (pc := 79) hE lX_53 dX5_allows_79 (fun x8 => ?_)
  refine z_icmp_eq (pc := 80) hE 87 rfl dX5_allows_80 ?_ ?_
  · refine z_iconst (pc := 87) hE dX5_allows_87 q_iconst_0 ?_
    exact z_zreturn (pc := 88) hE hr dX5_allows_88
  · refine z_iconst (pc := 83) hE dX5_allows_83 q_iconst_1 ?_
    refine z_goto (pc := 84) hE 88 rfl dX5_allows_84 ?_
    exact z_zreturn (pc := 88) hE hr dX5_allows_88
set_option maxRecDepth 100000 in
set_option maxHeartbeats 4000000 in
theorem c_X5_fitting {l : Launch} {ad : Nat → Nat} {ca : FieldType → ClassId} {D : va_G} {tt : Nat → Nat} (b : Nat) (hb : zfk b) (a2 : Int32) : zC l yX5_fitting cX5_fitting 7 (some .int) 3 layX ad ca D (xtX ad tt) [.ref (ad 50), .ref (ad b), .int a2] zvi (p_X5_fitting b a2) := by
  refine z_enter (by decide) (Nat.le_of_ble_eq_true rfl) (fun E hE hl0 hcD hr => ?_)
  have hE : zok layX ad (xtX ad tt) E cX5_fitting 7 RX5 3 := hE
  show Z layX ad E 7 (zFin layX ad E zvi) 0 [(0, .ref (ad 50)), (1, .ref (ad b)), (2, .int a2)] [] (p_X5_fitting b a2)
  unfold p_X5_fitting
  refine z_iconst (pc := 0) hE dX5_fitting_0 q_iconst_0 ?_
  refine z_istore_n (L' := [(3, .int ((0 : Int32))), (0, .ref (ad 50)), (1, .ref (ad b)), (2, .int a2)]) (pc := 1) hE 3 rfl (by decide) rfl dX5_fitting_1 ?_
  refine z_iconst (pc := 2) hE dX5_fitting_2 q_iconst_0 ?_
  refine z_istore (L' := [(4, .int ((0 : Int32))), (3, .int ((0 : Int32))), (0, .ref (ad 50)), (1, .ref (ad b)), (2, .int a2)]) (pc := 3) hE (by decide) rfl dX5_fitting_3 ?_
  refine z_sub (L' := [(0, .ref (ad 50)), (1, .ref (ad b)), (2, .int a2), (3, .int ((0 : Int32))), (4, .int ((0 : Int32)))]) [2, 3, 4, 1, 0] rfl ?_
  refine z_loop (V := (Int32 × Int32)) (X := Int32) (hd := 5) (ex := 92) (Lh := fun v1 => [(0, .ref (ad 50)), (1, .ref (ad b)), (2, .int a2), (3, .int v1.1), (4, .int v1.2)]) (Lx := fun e4 => [(3, .int e4)]) (fun rc3 k2 hrc3 hk2 v1 => ?_) zNF ((0 : Int32), (0 : Int32)) _ (fun e4 => ?_)
  · unfold p_X5_fitting_b5
    refine z_iload (pc := 5) hE 4 rfl dX5_fitting_5 ?_
    refine z_aload_n (pc := 7) hE 1 1 rfl rfl dX5_fitting_7 ?_
    refine z_geti (pc := 8) hE fk_RX5_37 hb.1 rfl dX5_fitting_8 (fun x5 => ?_)
    refine z_icmp_ge (pc := 11) hE 92 rfl dX5_fitting_11 ?_ ?_
    · exact z_sub [3] rfl (hk2 v1.1)
    · refine z_iconst (pc := 14) hE dX5_fitting_14 q_iconst_1 ?_
      refine z_istore (L' := [(5, .int ((1 : Int32))), (0, .ref (ad 50)), (1, .ref (ad b)), (2, .int a2), (3, .int v1.1), (4, .int v1.2)]) (pc := 15) hE (by decide) rfl dX5_fitting_15 ?_
      refine z_iconst (pc := 17) hE dX5_fitting_17 q_iconst_0 ?_
      refine z_istore (L' := [(6, .int ((0 : Int32))), (5, .int ((1 : Int32))), (0, .ref (ad 50)), (1, .ref (ad b)), (2, .int a2), (3, .int v1.1), (4, .int v1.2)]) (pc := 18) hE (by decide) rfl dX5_fitting_18 ?_
      refine z_sub (L' := [(0, .ref (ad 50)), (1, .ref (ad b)), (2, .int a2), (3, .int v1.1), (4, .int v1.2), (5, .int ((1 : Int32))), (6, .int ((0 : Int32)))]) [2, 3, 4, 5, 6, 1, 0] rfl ?_
      refine z_loop (V := (Int32 × Int32)) (X := Int32) (hd := 20) (ex := 70) (Lh := fun v6 => [(0, .ref (ad 50)), (1, .ref (ad b)), (2, .int a2), (3, .int v1.1), (4, .int v1.2), (5, .int v6.1), (6, .int v6.2)]) (Lx := fun e9 => [(0, .ref (ad 50)), (1, .ref (ad b)), (2, .int a2), (3, .int v1.1), (4, .int v1.2), (5, .int e9)]) (fun rc8 k7 hrc8 hk7 v6 => ?_) zNF ((1 : Int32), (0 : Int32)) _ (fun e9 => ?_)
      · unfold p_X5_fitting_b20
        refine z_iload (pc := 20) hE 6 rfl dX5_fitting_20 ?_
        refine z_aload_n (pc := 22) hE 0 0 rfl rfl dX5_fitting_22 ?_
        refine z_geti (pc := 23) hE fk_RX5_33 lX_50 rfl dX5_fitting_23 (fun x10 => ?_)
        refine z_icmp_ge (pc := 26) hE 70 rfl dX5_fitting_26 ?_ ?_
        · exact z_sub [0, 1, 2, 3, 4, 5] rfl (hk7 v6.1)
        · refine z_iload (pc := 29) hE 5 rfl dX5_fitting_29 ?_
          refine z_join (Y := Int32) (pcJ := 62) (Lj := fun y11 => [(0, .ref (ad 50)), (1, .ref (ad b)), (2, .int a2), (3, .int v1.1), (4, .int v1.2), (6, .int v6.2)]) (sj := fun y11 => [.int y11]) (fun y11 => ?_) (fun j12 hj12 => ?_)
          · refine z_istore (L' := [(5, .int y11), (0, .ref (ad 50)), (1, .ref (ad b)), (2, .int a2), (3, .int v1.1), (4, .int v1.2), (6, .int v6.2)]) (pc := 62) hE (by decide) rfl dX5_fitting_62 ?_
            refine z_iinc (L' := [(6, .int (v6.2 + (1 : Int32))), (5, .int y11), (0, .ref (ad 50)), (1, .ref (ad b)), (2, .int a2), (3, .int v1.1), (4, .int v1.2)]) (pc := 64) hE 6 rfl (zinc q_iconst_1) (by decide) rfl dX5_fitting_64 ?_
            refine z_goto (pc := 67) hE 20 rfl dX5_fitting_67 ?_
            exact z_sub [2, 3, 4, 5, 6, 1, 0] rfl (hrc8 (y11, v6.2 + (1 : Int32)))
          refine z_join (Y := Unit) (pcJ := 61) (Lj := fun y13 => [(0, .ref (ad 50)), (1, .ref (ad b)), (2, .int a2), (3, .int v1.1), (4, .int v1.2), (6, .int v6.2)]) (sj := fun y13 => []) (fun y13 => ?_) (fun j14 hj14 => ?_)
          · refine z_iconst (pc := 61) hE dX5_fitting_61 q_iconst_0 ?_
            exact z_sub [0, 1, 2, 3, 4, 5] rfl (hj12 ((0 : Int32)))
          refine z_if_eq (pc := 31) hE 61 rfl dX5_fitting_31 ?_ ?_
          · exact z_sub [0, 1, 2, 3, 4, 6] rfl (hj14 ())
          · refine z_aload_n (pc := 34) hE 0 0 rfl rfl dX5_fitting_34 ?_
            refine z_getr (pc := 35) hE fk_RX5_9 lX_50 rfl dX5_fitting_35 ?_
            refine z_iload (pc := 38) hE 6 rfl dX5_fitting_38 ?_
            refine z_iald (pc := 40) hE lX_51 dX5_fitting_40 (fun x15 => ?_)
            refine z_iload_n (pc := 41) hE 2 2 rfl rfl dX5_fitting_41 ?_
            refine z_join (Y := Unit) (pcJ := 57) (Lj := fun y16 => [(0, .ref (ad 50)), (1, .ref (ad b)), (2, .int a2), (3, .int v1.1), (4, .int v1.2), (6, .int v6.2)]) (sj := fun y16 => []) (fun y16 => ?_) (fun j17 hj17 => ?_)
            · refine z_iconst (pc := 57) hE dX5_fitting_57 q_iconst_1 ?_
              refine z_goto (pc := 58) hE 62 rfl dX5_fitting_58 ?_
              exact z_sub [0, 1, 2, 3, 4, 5] rfl (hj12 ((1 : Int32)))
            refine z_icmp_ne (pc := 42) hE 57 rfl dX5_fitting_42 ?_ ?_
            · exact z_sub [0, 1, 2, 3, 4, 6] rfl (hj17 ())
            · refine z_aload_n (pc := 45) hE 0 0 rfl rfl dX5_fitting_45 ?_
              refine z_iload (pc := 46) hE 6 rfl dX5_fitting_46 ?_
              refine z_aload_n (pc := 48) hE 1 1 rfl rfl dX5_fitting_48 ?_
              refine z_iload (pc := 49) hE 4 rfl dX5_fitting_49 ?_
              refine z_callVi (pc := 51) (st := []) [.int v6.2, .ref (ad b), .int v1.2] hE kk_RX5_40 (c_X5_allows b hb v6.2 v1.2) lX_50 rfl rfl rfl (Nat.le_of_ble_eq_true rfl) (by decide) dX5_fitting_51 (fun x18 => ?_)
              refine z_if_eq (pc := 54) hE 61 rfl dX5_fitting_54 ?_ ?_
              · exact z_sub [0, 1, 2, 3, 4, 6] rfl (hj14 ())
              · exact z_sub [0, 1, 2, 3, 4, 6] rfl (hj17 ())
      · refine z_iload_n (pc := 70) hE 3 3 rfl rfl dX5_fitting_70 ?_
        refine z_iload (pc := 71) hE 5 rfl dX5_fitting_71 ?_
        refine z_join (Y := Int32) (pcJ := 84) (Lj := fun y19 => [(0, .ref (ad 50)), (1, .ref (ad b)), (2, .int a2), (4, .int v1.2)]) (sj := fun y19 => [.int y19, .int v1.1]) (fun y19 => ?_) (fun j20 hj20 => ?_)
        · refine z_ior (pc := 84) hE dX5_fitting_84 ?_
          refine z_istore_n (L' := [(3, .int (v1.1 ||| y19)), (0, .ref (ad 50)), (1, .ref (ad b)), (2, .int a2), (4, .int v1.2)]) (pc := 85) hE 3 rfl (by decide) rfl dX5_fitting_85 ?_
          refine z_iinc (L' := [(4, .int (v1.2 + (1 : Int32))), (3, .int (v1.1 ||| y19)), (0, .ref (ad 50)), (1, .ref (ad b)), (2, .int a2)]) (pc := 86) hE 4 rfl (zinc q_iconst_1) (by decide) rfl dX5_fitting_86 ?_
          refine z_goto (pc := 89) hE 5 rfl dX5_fitting_89 ?_
          exact z_sub [2, 3, 4, 1, 0] rfl (hrc3 (v1.1 ||| y19, v1.2 + (1 : Int32)))
        refine z_if_eq (pc := 73) hE 83 rfl dX5_fitting_73 ?_ ?_
        · refine z_iconst (pc := 83) hE dX5_fitting_83 q_iconst_0 ?_
          exact z_sub [0, 1, 2, 4] rfl (hj20 ((0 : Int32)))
        · refine z_iconst (pc := 76) hE dX5_fitting_76 q_iconst_1 ?_
          refine z_iload (pc := 77) hE 4 rfl dX5_fitting_77 ?_
          refine z_ishl (pc := 79) hE dX5_fitting_79 ?_
          refine z_goto (pc := 80) hE 84 rfl dX5_fitting_80 ?_
          exact z_sub [0, 1, 2, 4] rfl (hj20 (((1 : Int32)) <<< (v1.2 &&& 31)))
  · refine z_iload_n (pc := 92) hE 0 3 rfl rfl dX5_fitting_92 ?_
    exact z_ireturn (pc := 93) hE hr dX5_fitting_93
set_option maxRecDepth 100000 in
set_option maxHeartbeats 4000000 in
theorem c_X5_isSeen {l : Launch} {ad : Nat → Nat} {ca : FieldType → ClassId} {D : va_G} {tt : Nat → Nat} (a1 : Int32) : zC l yX5_isSeen cX5_isSeen 3 (some .boolean) 0 layX ad ca D (xtX ad tt) [.ref (ad 50), .int a1] zvi (p_X5_isSeen a1) := by
  refine z_enter (by decide) (Nat.le_of_ble_eq_true rfl) (fun E hE hl0 hcD hr => ?_)
  have hE : zok layX ad (xtX ad tt) E cX5_isSeen 3 RX5 0 := hE
  show Z layX ad E 3 (zFin layX ad E zvi) 0 [(0, .ref (ad 50)), (1, .int a1)] [] (p_X5_isSeen a1)
  unfold p_X5_isSeen
  refine z_iconst (pc := 0) hE dX5_isSeen_0 q_iconst_0 ?_
  refine z_istore_n (L' := [(2, .int ((0 : Int32))), (0, .ref (ad 50)), (1, .int a1)]) (pc := 1) hE 2 rfl (by decide) rfl dX5_isSeen_1 ?_
  refine z_sub (L' := [(0, .ref (ad 50)), (1, .int a1), (2, .int ((0 : Int32)))]) [1, 2, 0] rfl ?_
  refine z_loop (V := Int32) (X := Unit) (hd := 2) (ex := 28) (Lh := fun v1 => [(0, .ref (ad 50)), (1, .int a1), (2, .int v1)]) (Lx := fun e4 => []) (fun rc3 k2 hrc3 hk2 v1 => ?_) zNF ((0 : Int32)) _ (fun e4 => ?_)
  · unfold p_X5_isSeen_b2
    refine z_iload_n (pc := 2) hE 2 2 rfl rfl dX5_isSeen_2 ?_
    refine z_aload_n (pc := 3) hE 0 0 rfl rfl dX5_isSeen_3 ?_
    refine z_geti (pc := 4) hE fk_RX5_33 lX_50 rfl dX5_isSeen_4 (fun x5 => ?_)
    refine z_icmp_ge (pc := 7) hE 28 rfl dX5_isSeen_7 ?_ ?_
    · exact z_sub [] rfl (hk2 ())
    · refine z_aload_n (pc := 10) hE 0 0 rfl rfl dX5_isSeen_10 ?_
      refine z_getr (pc := 11) hE fk_RX5_9 lX_50 rfl dX5_isSeen_11 ?_
      refine z_iload_n (pc := 14) hE 2 2 rfl rfl dX5_isSeen_14 ?_
      refine z_iald (pc := 15) hE lX_51 dX5_isSeen_15 (fun x6 => ?_)
      refine z_iload_n (pc := 16) hE 1 1 rfl rfl dX5_isSeen_16 ?_
      refine z_icmp_ne (pc := 17) hE 22 rfl dX5_isSeen_17 ?_ ?_
      · refine z_iinc (L' := [(2, .int (v1 + (1 : Int32))), (0, .ref (ad 50)), (1, .int a1)]) (pc := 22) hE 2 rfl (zinc q_iconst_1) (by decide) rfl dX5_isSeen_22 ?_
        refine z_goto (pc := 25) hE 2 rfl dX5_isSeen_25 ?_
        exact z_sub [1, 2, 0] rfl (hrc3 (v1 + (1 : Int32)))
      · refine z_iconst (pc := 20) hE dX5_isSeen_20 q_iconst_1 ?_
        exact z_zreturn (pc := 21) hE hr dX5_isSeen_21
  · refine z_iconst (pc := 28) hE dX5_isSeen_28 q_iconst_0 ?_
    exact z_zreturn (pc := 29) hE hr dX5_isSeen_29
set_option maxRecDepth 100000 in
set_option maxHeartbeats 4000000 in
theorem c_X5_noteWay {l : Launch} {ad : Nat → Nat} {ca : FieldType → ClassId} {D : va_G} {tt : Nat → Nat}  : zC l yX5_noteWay cX5_noteWay 2 none 0 layX ad ca D (xtX ad tt) [.ref (ad 50)] zvn (p_X5_noteWay) := by
  refine z_enter (by decide) (Nat.le_of_ble_eq_true rfl) (fun E hE hl0 hcD hr => ?_)
  have hE : zok layX ad (xtX ad tt) E cX5_noteWay 2 RX5 0 := hE
  show Z layX ad E 2 (zFin layX ad E zvn) 0 [(0, .ref (ad 50))] [] (p_X5_noteWay)
  unfold p_X5_noteWay
  refine z_aload_n (pc := 0) hE 0 0 rfl rfl dX5_noteWay_0 ?_
  refine z_dup (pc := 1) hE dX5_noteWay_1 rfl ?_
  refine z_geti (pc := 2) hE fk_RX5_62 lX_50 rfl dX5_noteWay_2 (fun x1 => ?_)
  refine z_iconst (pc := 5) hE dX5_noteWay_5 q_iconst_1 ?_
  refine z_iadd (pc := 6) hE dX5_noteWay_6 ?_
  refine z_puti (pc := 7) hE fk_RX5_62 lX_50 rfl dX5_noteWay_7 ?_
  refine z_iconst (pc := 10) hE dX5_noteWay_10 q_iconst_0 ?_
  refine z_istore_n (L' := [(1, .int ((0 : Int32))), (0, .ref (ad 50))]) (pc := 11) hE 1 rfl (by decide) rfl dX5_noteWay_11 ?_
  refine z_sub (L' := [(0, .ref (ad 50)), (1, .int ((0 : Int32)))]) [1, 0] rfl ?_
  refine z_loop (V := Int32) (X := Unit) (hd := 12) (ex := 78) (Lh := fun v2 => [(0, .ref (ad 50)), (1, .int v2)]) (Lx := fun e5 => []) (fun rc4 k3 hrc4 hk3 v2 => ?_) zNF ((0 : Int32)) _ (fun e5 => ?_)
  · unfold p_X5_noteWay_b12
    refine z_iload_n (pc := 12) hE 1 1 rfl rfl dX5_noteWay_12 ?_
    refine z_aload_n (pc := 13) hE 0 0 rfl rfl dX5_noteWay_13 ?_
    refine z_geti (pc := 14) hE fk_RX5_51 lX_50 rfl dX5_noteWay_14 (fun x6 => ?_)
    refine z_icmp_ge (pc := 17) hE 78 rfl dX5_noteWay_17 ?_ ?_
    · exact z_sub [] rfl (hk3 ())
    · refine z_aload_n (pc := 20) hE 0 0 rfl rfl dX5_noteWay_20 ?_
      refine z_geti (pc := 21) hE fk_RX5_62 lX_50 rfl dX5_noteWay_21 (fun x7 => ?_)
      refine z_iconst (pc := 24) hE dX5_noteWay_24 q_iconst_1 ?_
      refine z_join (Y := Unit) (pcJ := 72) (Lj := fun y8 => [(0, .ref (ad 50)), (1, .int v2)]) (sj := fun y8 => []) (fun y8 => ?_) (fun j9 hj9 => ?_)
      · refine z_iinc (L' := [(1, .int (v2 + (1 : Int32))), (0, .ref (ad 50))]) (pc := 72) hE 1 rfl (zinc q_iconst_1) (by decide) rfl dX5_noteWay_72 ?_
        refine z_goto (pc := 75) hE 12 rfl dX5_noteWay_75 ?_
        exact z_sub [1, 0] rfl (hrc4 (v2 + (1 : Int32)))
      refine z_icmp_ne (pc := 25) hE 43 rfl dX5_noteWay_25 ?_ ?_
      · refine z_aload_n (pc := 43) hE 0 0 rfl rfl dX5_noteWay_43 ?_
        refine z_getr (pc := 44) hE fk_RX5_30 lX_50 rfl dX5_noteWay_44 ?_
        refine z_iload_n (pc := 47) hE 1 1 rfl rfl dX5_noteWay_47 ?_
        refine z_iald (pc := 48) hE lX_57 dX5_noteWay_48 (fun x10 => ?_)
        refine z_aload_n (pc := 49) hE 0 0 rfl rfl dX5_noteWay_49 ?_
        refine z_getr (pc := 50) hE fk_RX5_27 lX_50 rfl dX5_noteWay_50 ?_
        refine z_iload_n (pc := 53) hE 1 1 rfl rfl dX5_noteWay_53 ?_
        refine z_iald (pc := 54) hE lX_56 dX5_noteWay_54 (fun x11 => ?_)
        refine z_icmp_eq (pc := 55) hE 72 rfl dX5_noteWay_55 ?_ ?_
        · exact z_sub [0, 1] rfl (hj9 ())
        · refine z_aload_n (pc := 58) hE 0 0 rfl rfl dX5_noteWay_58 ?_
          refine z_dup (pc := 59) hE dX5_noteWay_59 rfl ?_
          refine z_geti (pc := 60) hE fk_RX5_65 lX_50 rfl dX5_noteWay_60 (fun x12 => ?_)
          refine z_iconst (pc := 63) hE dX5_noteWay_63 q_iconst_1 ?_
          refine z_iload_n (pc := 64) hE 1 1 rfl rfl dX5_noteWay_64 ?_
          refine z_ishl (pc := 65) hE dX5_noteWay_65 ?_
          refine z_iconst (pc := 66) hE dX5_noteWay_66 q_iconst_m1 ?_
          refine z_ixor (pc := 67) hE dX5_noteWay_67 ?_
          refine z_iand (pc := 68) hE dX5_noteWay_68 ?_
          refine z_puti (pc := 69) hE fk_RX5_65 lX_50 rfl dX5_noteWay_69 ?_
          exact z_sub [0, 1] rfl (hj9 ())
      · refine z_aload_n (pc := 28) hE 0 0 rfl rfl dX5_noteWay_28 ?_
        refine z_getr (pc := 29) hE fk_RX5_30 lX_50 rfl dX5_noteWay_29 ?_
        refine z_iload_n (pc := 32) hE 1 1 rfl rfl dX5_noteWay_32 ?_
        refine z_aload_n (pc := 33) hE 0 0 rfl rfl dX5_noteWay_33 ?_
        refine z_getr (pc := 34) hE fk_RX5_27 lX_50 rfl dX5_noteWay_34 ?_
        refine z_iload_n (pc := 37) hE 1 1 rfl rfl dX5_noteWay_37 ?_
        refine z_iald (pc := 38) hE lX_56 dX5_noteWay_38 (fun x13 => ?_)
        refine z_iast (pc := 39) hE lX_57 dX5_noteWay_39 ?_
        refine z_goto (pc := 40) hE 72 rfl dX5_noteWay_40 ?_
        exact z_sub [0, 1] rfl (hj9 ())
  · exact z_return (pc := 78) hE hr dX5_noteWay_78
set_option maxRecDepth 100000 in
set_option maxHeartbeats 4000000 in
theorem c_X5_goFrom_s (G : ((Int32 × Int32) → zM Unit) × ((Int32 × Int32 × Int32) → zM Unit)) (d : Nat) (hd : 2 ≤ d) (hG : (∀ (l : Launch) (ad : Nat → Nat) (ca : FieldType → ClassId) (D : va_G) (tt : Nat → Nat) (a1 : Int32) (a2 : Int32), zC l yX5_goFrom cX5_goFrom 5 none (d - 1) layX ad ca D (xtX ad tt) [.ref (ad 50), .int a1, .int a2] zvn (G.1 (a1, a2))) ∧ (∀ (l : Launch) (ad : Nat → Nat) (ca : FieldType → ClassId) (D : va_G) (tt : Nat → Nat) (a1 : Int32) (a2 : Int32) (a3 : Int32), zC l yX5_goWith cX5_goWith 4 none (d - 1) layX ad ca D (xtX ad tt) [.ref (ad 50), .int a1, .int a2, .int a3] zvn (G.2 (a1, a2, a3)))) {l : Launch} {ad : Nat → Nat} {ca : FieldType → ClassId} {D : va_G} {tt : Nat → Nat} (a1 : Int32) (a2 : Int32) : zC l yX5_goFrom cX5_goFrom 5 none d layX ad ca D (xtX ad tt) [.ref (ad 50), .int a1, .int a2] zvn (p_X5_goFrom_s G a1 a2) := by
  refine z_enter (by decide) (Nat.le_of_ble_eq_true rfl) (fun E hE hl0 hcD hr => ?_)
  have hE : zok layX ad (xtX ad tt) E cX5_goFrom 5 RX5 d := hE
  show Z layX ad E 5 (zFin layX ad E zvn) 0 [(0, .ref (ad 50)), (1, .int a1), (2, .int a2)] [] (p_X5_goFrom_s G a1 a2)
  unfold p_X5_goFrom_s
  refine z_iload_n (pc := 0) hE 1 1 rfl rfl dX5_goFrom_0 ?_
  refine z_aload_n (pc := 1) hE 0 0 rfl rfl dX5_goFrom_1 ?_
  refine z_geti (pc := 2) hE fk_RX5_51 lX_50 rfl dX5_goFrom_2 (fun x1 => ?_)
  refine z_icmp_lt (pc := 5) hE 13 rfl dX5_goFrom_5 ?_ ?_
  · refine z_aload_n (pc := 13) hE 0 0 rfl rfl dX5_goFrom_13 ?_
    refine z_getr (pc := 14) hE fk_RX5_24 lX_50 rfl dX5_goFrom_14 ?_
    refine z_iload_n (pc := 17) hE 1 1 rfl rfl dX5_goFrom_17 ?_
    refine z_iald (pc := 18) hE lX_55 dX5_goFrom_18 (fun x2 => ?_)
    refine z_iload_n (pc := 19) hE 2 2 rfl rfl dX5_goFrom_19 ?_
    refine z_iconst (pc := 20) hE dX5_goFrom_20 q_iconst_m1 ?_
    refine z_ixor (pc := 21) hE dX5_goFrom_21 ?_
    refine z_iand (pc := 22) hE dX5_goFrom_22 ?_
    refine z_istore_n (L' := [(3, .int (x2 &&& (a2 ^^^ ((-1 : Int32))))), (0, .ref (ad 50)), (1, .int a1), (2, .int a2)]) (pc := 23) hE 3 rfl (by decide) rfl dX5_goFrom_23 ?_
    refine z_iconst (pc := 24) hE dX5_goFrom_24 q_iconst_0 ?_
    refine z_istore (L' := [(4, .int ((0 : Int32))), (3, .int (x2 &&& (a2 ^^^ ((-1 : Int32))))), (0, .ref (ad 50)), (1, .int a1), (2, .int a2)]) (pc := 25) hE (by decide) rfl dX5_goFrom_25 ?_
    refine z_sub (L' := [(0, .ref (ad 50)), (1, .int a1), (2, .int a2), (3, .int (x2 &&& (a2 ^^^ ((-1 : Int32))))), (4, .int ((0 : Int32)))]) [2, 3, 4, 1, 0] rfl ?_
    refine z_loop (V := Int32) (X := Unit) (hd := 27) (ex := 58) (Lh := fun v3 => [(0, .ref (ad 50)), (1, .int a1), (2, .int a2), (3, .int (x2 &&& (a2 ^^^ ((-1 : Int32))))), (4, .int v3)]) (Lx := fun e6 => []) (fun rc5 k4 hrc5 hk4 v3 => ?_) zNF ((0 : Int32)) _ (fun e6 => ?_)
    · unfold p_X5_goFrom_b27
      refine z_iload (pc := 27) hE 4 rfl dX5_goFrom_27 ?_
      refine z_bipush (pc := 29) hE dX5_goFrom_29 q_bipush_6 ?_
      refine z_icmp_ge (pc := 31) hE 58 rfl dX5_goFrom_31 ?_ ?_
      · exact z_sub [] rfl (hk4 ())
      · refine z_iload_n (pc := 34) hE 3 3 rfl rfl dX5_goFrom_34 ?_
        refine z_iload (pc := 35) hE 4 rfl dX5_goFrom_35 ?_
        refine z_ishr (pc := 37) hE dX5_goFrom_37 ?_
        refine z_iconst (pc := 38) hE dX5_goFrom_38 q_iconst_1 ?_
        refine z_iand (pc := 39) hE dX5_goFrom_39 ?_
        refine z_iconst (pc := 40) hE dX5_goFrom_40 q_iconst_1 ?_
        refine z_join (Y := Unit) (pcJ := 52) (Lj := fun y7 => [(0, .ref (ad 50)), (1, .int a1), (2, .int a2), (3, .int (x2 &&& (a2 ^^^ ((-1 : Int32))))), (4, .int v3)]) (sj := fun y7 => []) (fun y7 => ?_) (fun j8 hj8 => ?_)
        · refine z_iinc (L' := [(4, .int (v3 + (1 : Int32))), (0, .ref (ad 50)), (1, .int a1), (2, .int a2), (3, .int (x2 &&& (a2 ^^^ ((-1 : Int32)))))]) (pc := 52) hE 4 rfl (zinc q_iconst_1) (by decide) rfl dX5_goFrom_52 ?_
          refine z_goto (pc := 55) hE 27 rfl dX5_goFrom_55 ?_
          exact z_sub [1, 2, 3, 4, 0] rfl (hrc5 (v3 + (1 : Int32)))
        refine z_icmp_ne (pc := 41) hE 52 rfl dX5_goFrom_41 ?_ ?_
        · exact z_sub [0, 1, 2, 3, 4] rfl (hj8 ())
        · refine z_aload_n (pc := 44) hE 0 0 rfl rfl dX5_goFrom_44 ?_
          refine z_iload_n (pc := 45) hE 1 1 rfl rfl dX5_goFrom_45 ?_
          refine z_iload (pc := 46) hE 4 rfl dX5_goFrom_46 ?_
          refine z_iload_n (pc := 48) hE 2 2 rfl rfl dX5_goFrom_48 ?_
          refine z_callVv (pc := 49) (st := []) [.int a1, .int v3, .int a2] hE kk_RX5_75 (hG.2 _ _ _ _ _ a1 v3 a2) lX_50 rfl rfl rfl (Nat.le_of_ble_eq_true rfl) (by omega) dX5_goFrom_49 (fun x9 => ?_)
          exact z_sub [0, 1, 2, 3, 4] rfl (hj8 ())
    · exact z_return (pc := 58) hE hr dX5_goFrom_58
  · refine z_aload_n (pc := 8) hE 0 0 rfl rfl dX5_goFrom_8 ?_
    refine z_callVv (pc := 9) (st := []) [] hE kk_RX5_72 (c_X5_noteWay) lX_50 rfl rfl rfl (Nat.le_of_ble_eq_true rfl) (by omega) dX5_goFrom_9 (fun x10 => ?_)
    exact z_return (pc := 12) hE hr dX5_goFrom_12
set_option maxRecDepth 100000 in
set_option maxHeartbeats 4000000 in
theorem c_X5_goWith_s (G : ((Int32 × Int32) → zM Unit) × ((Int32 × Int32 × Int32) → zM Unit)) (d : Nat) (hd : 2 ≤ d) (hG : (∀ (l : Launch) (ad : Nat → Nat) (ca : FieldType → ClassId) (D : va_G) (tt : Nat → Nat) (a1 : Int32) (a2 : Int32), zC l yX5_goFrom cX5_goFrom 5 none (d - 1) layX ad ca D (xtX ad tt) [.ref (ad 50), .int a1, .int a2] zvn (G.1 (a1, a2))) ∧ (∀ (l : Launch) (ad : Nat → Nat) (ca : FieldType → ClassId) (D : va_G) (tt : Nat → Nat) (a1 : Int32) (a2 : Int32) (a3 : Int32), zC l yX5_goWith cX5_goWith 4 none (d - 1) layX ad ca D (xtX ad tt) [.ref (ad 50), .int a1, .int a2, .int a3] zvn (G.2 (a1, a2, a3)))) {l : Launch} {ad : Nat → Nat} {ca : FieldType → ClassId} {D : va_G} {tt : Nat → Nat} (a1 : Int32) (a2 : Int32) (a3 : Int32) : zC l yX5_goWith cX5_goWith 4 none d layX ad ca D (xtX ad tt) [.ref (ad 50), .int a1, .int a2, .int a3] zvn (p_X5_goWith_s G a1 a2 a3) := by
  refine z_enter (by decide) (Nat.le_of_ble_eq_true rfl) (fun E hE hl0 hcD hr => ?_)
  have hE : zok layX ad (xtX ad tt) E cX5_goWith 4 RX5 d := hE
  show Z layX ad E 4 (zFin layX ad E zvn) 0 [(0, .ref (ad 50)), (1, .int a1), (2, .int a2), (3, .int a3)] [] (p_X5_goWith_s G a1 a2 a3)
  unfold p_X5_goWith_s
  refine z_aload_n (pc := 0) hE 0 0 rfl rfl dX5_goWith_0 ?_
  refine z_getr (pc := 1) hE fk_RX5_27 lX_50 rfl dX5_goWith_1 ?_
  refine z_iload_n (pc := 4) hE 1 1 rfl rfl dX5_goWith_4 ?_
  refine z_iload_n (pc := 5) hE 2 2 rfl rfl dX5_goWith_5 ?_
  refine z_iast (pc := 6) hE lX_56 dX5_goWith_6 ?_
  refine z_aload_n (pc := 7) hE 0 0 rfl rfl dX5_goWith_7 ?_
  refine z_iload_n (pc := 8) hE 1 1 rfl rfl dX5_goWith_8 ?_
  refine z_iconst (pc := 9) hE dX5_goWith_9 q_iconst_1 ?_
  refine z_iadd (pc := 10) hE dX5_goWith_10 ?_
  refine z_iload_n (pc := 11) hE 3 3 rfl rfl dX5_goWith_11 ?_
  refine z_iconst (pc := 12) hE dX5_goWith_12 q_iconst_1 ?_
  refine z_iload_n (pc := 13) hE 2 2 rfl rfl dX5_goWith_13 ?_
  refine z_ishl (pc := 14) hE dX5_goWith_14 ?_
  refine z_ior (pc := 15) hE dX5_goWith_15 ?_
  refine z_callVv (pc := 16) (st := []) [.int (a1 + ((1 : Int32))), .int (a3 ||| (((1 : Int32)) <<< (a2 &&& 31)))] hE kk_RX5_68 (hG.1 _ _ _ _ _ (a1 + ((1 : Int32))) (a3 ||| (((1 : Int32)) <<< (a2 &&& 31)))) lX_50 rfl rfl rfl (Nat.le_of_ble_eq_true rfl) (by omega) dX5_goWith_16 (fun x1 => ?_)
  exact z_return (pc := 19) hE hr dX5_goWith_19
theorem c_X5_goFrom_g : ∀ (n d : Nat), 1 + n ≤ d → (∀ (l : Launch) (ad : Nat → Nat) (ca : FieldType → ClassId) (D : va_G) (tt : Nat → Nat) (a1 : Int32) (a2 : Int32), zC l yX5_goFrom cX5_goFrom 5 none d layX ad ca D (xtX ad tt) [.ref (ad 50), .int a1, .int a2] zvn ((p_X5_goFrom_g n).1 (a1, a2))) ∧ (∀ (l : Launch) (ad : Nat → Nat) (ca : FieldType → ClassId) (D : va_G) (tt : Nat → Nat) (a1 : Int32) (a2 : Int32) (a3 : Int32), zC l yX5_goWith cX5_goWith 4 none d layX ad ca D (xtX ad tt) [.ref (ad 50), .int a1, .int a2, .int a3] zvn ((p_X5_goFrom_g n).2 (a1, a2, a3)))
  | 0, d, h => ⟨fun _ _ _ _ _ _ _ S r S2 h => (by cases h), fun _ _ _ _ _ _ _ _ S r S2 h => (by cases h)⟩
  | n + 1, d, h => by
    have hG := c_X5_goFrom_g n (d - 1) (by omega)
    exact ⟨fun l ad ca D tt a1 a2 => c_X5_goFrom_s _ d (by omega) hG a1 a2, fun l ad ca D tt a1 a2 a3 => c_X5_goWith_s _ d (by omega) hG a1 a2 a3⟩
theorem c_X5_goFrom {l : Launch} {ad : Nat → Nat} {ca : FieldType → ClassId} {D : va_G} {tt : Nat → Nat} (a1 : Int32) (a2 : Int32) : zC l yX5_goFrom cX5_goFrom 5 none 101 layX ad ca D (xtX ad tt) [.ref (ad 50), .int a1, .int a2] zvn (p_X5_goFrom a1 a2) := (c_X5_goFrom_g zDP 101 (Nat.le_of_eq (by rw [zDP_eq]))).1 _ _ _ _ _ a1 a2
theorem c_X5_goWith {l : Launch} {ad : Nat → Nat} {ca : FieldType → ClassId} {D : va_G} {tt : Nat → Nat} (a1 : Int32) (a2 : Int32) (a3 : Int32) : zC l yX5_goWith cX5_goWith 4 none 101 layX ad ca D (xtX ad tt) [.ref (ad 50), .int a1, .int a2, .int a3] zvn (p_X5_goWith a1 a2 a3) := (c_X5_goFrom_g zDP 101 (Nat.le_of_eq (by rw [zDP_eq]))).2 _ _ _ _ _ a1 a2 a3
set_option maxRecDepth 100000 in
set_option maxHeartbeats 4000000 in
theorem c_X5_goThrough {l : Launch} {ad : Nat → Nat} {ca : FieldType → ClassId} {D : va_G} {tt : Nat → Nat} (b : Nat) (hb : zfk b) : zC l yX5_goThrough cX5_goThrough 3 (some .int) 102 layX ad ca D (xtX ad tt) [.ref (ad 50), .ref (ad b)] zvi (p_X5_goThrough b) := by
  refine z_enter (by decide) (Nat.le_of_ble_eq_true rfl) (fun E hE hl0 hcD hr => ?_)
  have hE : zok layX ad (xtX ad tt) E cX5_goThrough 3 RX5 102 := hE
  show Z layX ad E 3 (zFin layX ad E zvi) 0 [(0, .ref (ad 50)), (1, .ref (ad b))] [] (p_X5_goThrough b)
  unfold p_X5_goThrough
  refine z_aload_n (pc := 0) hE 0 0 rfl rfl dX5_goThrough_0 ?_
  refine z_iconst (pc := 1) hE dX5_goThrough_1 q_iconst_0 ?_
  refine z_puti (pc := 2) hE fk_RX5_51 lX_50 rfl dX5_goThrough_2 ?_
  refine z_iconst (pc := 5) hE dX5_goThrough_5 q_iconst_0 ?_
  refine z_istore_n (L' := [(2, .int ((0 : Int32))), (0, .ref (ad 50)), (1, .ref (ad b))]) (pc := 6) hE 2 rfl (by decide) rfl dX5_goThrough_6 ?_
  refine z_sub (L' := [(0, .ref (ad 50)), (1, .ref (ad b)), (2, .int ((0 : Int32)))]) [1, 2, 0] rfl ?_
  refine z_loop (V := Int32) (X := Unit) (hd := 7) (ex := 62) (Lh := fun v1 => [(0, .ref (ad 50)), (1, .ref (ad b)), (2, .int v1)]) (Lx := fun e4 => [(0, .ref (ad 50))]) (fun rc3 k2 hrc3 hk2 v1 => ?_) zNF ((0 : Int32)) _ (fun e4 => ?_)
  · unfold p_X5_goThrough_b7
    refine z_iload_n (pc := 7) hE 2 2 rfl rfl dX5_goThrough_7 ?_
    refine z_bipush (pc := 8) hE dX5_goThrough_8 q_bipush_8 ?_
    refine z_icmp_ge (pc := 10) hE 62 rfl dX5_goThrough_10 ?_ ?_
    · exact z_sub [0] rfl (hk2 ())
    · refine z_aload_n (pc := 13) hE 0 0 rfl rfl dX5_goThrough_13 ?_
      refine z_iload_n (pc := 14) hE 2 2 rfl rfl dX5_goThrough_14 ?_
      refine z_callVi (pc := 15) (st := []) [.int v1] hE kk_RX5_54 (c_X5_isSeen v1) lX_50 rfl rfl rfl (Nat.le_of_ble_eq_true rfl) (by decide) dX5_goThrough_15 (fun x5 => ?_)
      refine z_join (Y := Unit) (pcJ := 56) (Lj := fun y6 => [(0, .ref (ad 50)), (1, .ref (ad b)), (2, .int v1)]) (sj := fun y6 => []) (fun y6 => ?_) (fun j7 hj7 => ?_)
      · refine z_iinc (L' := [(2, .int (v1 + (1 : Int32))), (0, .ref (ad 50)), (1, .ref (ad b))]) (pc := 56) hE 2 rfl (zinc q_iconst_1) (by decide) rfl dX5_goThrough_56 ?_
        refine z_goto (pc := 59) hE 7 rfl dX5_goThrough_59 ?_
        exact z_sub [1, 2, 0] rfl (hrc3 (v1 + (1 : Int32)))
      refine z_if_eq (pc := 18) hE 56 rfl dX5_goThrough_18 ?_ ?_
      · exact z_sub [0, 1, 2] rfl (hj7 ())
      · refine z_aload_n (pc := 21) hE 0 0 rfl rfl dX5_goThrough_21 ?_
        refine z_getr (pc := 22) hE fk_RX5_21 lX_50 rfl dX5_goThrough_22 ?_
        refine z_aload_n (pc := 25) hE 0 0 rfl rfl dX5_goThrough_25 ?_
        refine z_geti (pc := 26) hE fk_RX5_51 lX_50 rfl dX5_goThrough_26 (fun x8 => ?_)
        refine z_iload_n (pc := 29) hE 2 2 rfl rfl dX5_goThrough_29 ?_
        refine z_iast (pc := 30) hE lX_54 dX5_goThrough_30 ?_
        refine z_aload_n (pc := 31) hE 0 0 rfl rfl dX5_goThrough_31 ?_
        refine z_getr (pc := 32) hE fk_RX5_24 lX_50 rfl dX5_goThrough_32 ?_
        refine z_aload_n (pc := 35) hE 0 0 rfl rfl dX5_goThrough_35 ?_
        refine z_geti (pc := 36) hE fk_RX5_51 lX_50 rfl dX5_goThrough_36 (fun x9 => ?_)
        refine z_aload_n (pc := 39) hE 0 0 rfl rfl dX5_goThrough_39 ?_
        refine z_aload_n (pc := 40) hE 1 1 rfl rfl dX5_goThrough_40 ?_
        refine z_iload_n (pc := 41) hE 2 2 rfl rfl dX5_goThrough_41 ?_
        refine z_callVi (pc := 42) (st := [.int x9, .ref (ad 55)]) [.ref (ad b), .int v1] hE kk_RX5_58 (c_X5_fitting b hb v1) lX_50 rfl rfl rfl (Nat.le_of_ble_eq_true rfl) (by decide) dX5_goThrough_42 (fun x10 => ?_)
        refine z_iast (pc := 45) hE lX_55 dX5_goThrough_45 ?_
        refine z_aload_n (pc := 46) hE 0 0 rfl rfl dX5_goThrough_46 ?_
        refine z_dup (pc := 47) hE dX5_goThrough_47 rfl ?_
        refine z_geti (pc := 48) hE fk_RX5_51 lX_50 rfl dX5_goThrough_48 (fun x11 => ?_)
        refine z_iconst (pc := 51) hE dX5_goThrough_51 q_iconst_1 ?_
        refine z_iadd (pc := 52) hE dX5_goThrough_52 ?_
        refine z_puti (pc := 53) hE fk_RX5_51 lX_50 rfl dX5_goThrough_53 ?_
        exact z_sub [0, 1, 2] rfl (hj7 ())
  · refine z_aload_n (pc := 62) hE 0 0 rfl rfl dX5_goThrough_62 ?_
    refine z_iconst (pc := 63) hE dX5_goThrough_63 q_iconst_0 ?_
    refine z_puti (pc := 64) hE fk_RX5_62 lX_50 rfl dX5_goThrough_64 ?_
    refine z_aload_n (pc := 67) hE 0 0 rfl rfl dX5_goThrough_67 ?_
    refine z_iconst (pc := 68) hE dX5_goThrough_68 q_iconst_1 ?_
    refine z_aload_n (pc := 69) hE 0 0 rfl rfl dX5_goThrough_69 ?_
    refine z_geti (pc := 70) hE fk_RX5_51 lX_50 rfl dX5_goThrough_70 (fun x12 => ?_)
    refine z_ishl (pc := 73) hE dX5_goThrough_73 ?_
    refine z_iconst (pc := 74) hE dX5_goThrough_74 q_iconst_1 ?_
    refine z_isub (pc := 75) hE dX5_goThrough_75 ?_
    refine z_puti (pc := 76) hE fk_RX5_65 lX_50 rfl dX5_goThrough_76 ?_
    refine z_aload_n (pc := 79) hE 0 0 rfl rfl dX5_goThrough_79 ?_
    refine z_iconst (pc := 80) hE dX5_goThrough_80 q_iconst_0 ?_
    refine z_iconst (pc := 81) hE dX5_goThrough_81 q_iconst_0 ?_
    refine z_callVv (pc := 82) (st := []) [.int ((0 : Int32)), .int ((0 : Int32))] hE kk_RX5_68 (c_X5_goFrom ((0 : Int32)) ((0 : Int32))) lX_50 rfl rfl rfl (Nat.le_of_ble_eq_true rfl) (by decide) dX5_goThrough_82 (fun x13 => ?_)
    refine z_aload_n (pc := 85) hE 0 0 rfl rfl dX5_goThrough_85 ?_
    refine z_geti (pc := 86) hE fk_RX5_62 lX_50 rfl dX5_goThrough_86 (fun x14 => ?_)
    exact z_ireturn (pc := 89) hE hr dX5_goThrough_89
set_option maxRecDepth 100000 in
set_option maxHeartbeats 4000000 in
theorem c_X6_note {l : Launch} {ad : Nat → Nat} {ca : FieldType → ClassId} {D : va_G} {tt : Nat → Nat} (b : Nat) (hb : zfk b) : zC l yX6_note cX6_note 2 none 1 layX ad ca D (xtX ad tt) [.ref (ad 44), .ref (ad b)] zvn (p_X6_note b) := by
  refine z_enter (by decide) (Nat.le_of_ble_eq_true rfl) (fun E hE hl0 hcD hr => ?_)
  have hE : zok layX ad (xtX ad tt) E cX6_note 2 RX6 1 := hE
  show Z layX ad E 2 (zFin layX ad E zvn) 0 [(0, .ref (ad 44)), (1, .ref (ad b))] [] (p_X6_note b)
  unfold p_X6_note
  refine z_aload_n (pc := 0) hE 1 1 rfl rfl dX6_note_0 ?_
  refine z_aload_n (pc := 1) hE 0 0 rfl rfl dX6_note_1 ?_
  refine z_getr (pc := 2) hE fk_RX6_13 lX_44 rfl dX6_note_2 ?_
  refine z_aload_n (pc := 5) hE 0 0 rfl rfl dX6_note_5 ?_
  refine z_geti (pc := 6) hE fk_RX6_24 lX_44 rfl dX6_note_6 (fun x1 => ?_)
  refine z_bipush (pc := 9) hE dX6_note_9 q_bipush_43 ?_
  refine z_imul (pc := 11) hE dX6_note_11 ?_
  refine z_callVv (pc := 12) (st := []) [.ref (ad 45), .int (x1 * ((43 : Int32)))] hE kk_RX6_28 (c_X3_pack b hb 45 688 lX_45 (x1 * ((43 : Int32)))) hb.1 rfl rfl rfl (Nat.le_of_ble_eq_true rfl) (by decide) dX6_note_12 (fun x2 => ?_)
  exact z_return (pc := 15) hE hr dX6_note_15
set_option maxRecDepth 100000 in
set_option maxHeartbeats 4000000 in
theorem c_X6_hold {l : Launch} {ad : Nat → Nat} {ca : FieldType → ClassId} {D : va_G} {tt : Nat → Nat}  : zC l yX6_hold cX6_hold 1 none 1 layX ad ca D (xtX ad tt) [.ref (ad 44)] zvn (p_X6_hold) := by
  refine z_enter (by decide) (Nat.le_of_ble_eq_true rfl) (fun E hE hl0 hcD hr => ?_)
  have hE : zok layX ad (xtX ad tt) E cX6_hold 1 RX6 1 := hE
  show Z layX ad E 1 (zFin layX ad E zvn) 0 [(0, .ref (ad 44))] [] (p_X6_hold)
  unfold p_X6_hold
  refine z_aload_n (pc := 0) hE 0 0 rfl rfl dX6_hold_0 ?_
  refine z_aload_n (pc := 1) hE 0 0 rfl rfl dX6_hold_1 ?_
  refine z_geti (pc := 2) hE fk_RX6_24 lX_44 rfl dX6_hold_2 (fun x1 => ?_)
  refine z_iconst (pc := 5) hE dX6_hold_5 q_iconst_1 ?_
  refine z_iadd (pc := 6) hE dX6_hold_6 ?_
  refine z_bipush (pc := 7) hE dX6_hold_7 q_bipush_16 ?_
  refine z_irem (pc := 9) hE dX6_hold_9 ?_
  refine z_puti (pc := 10) hE fk_RX6_24 lX_44 rfl dX6_hold_10 ?_
  refine z_aload_n (pc := 13) hE 0 0 rfl rfl dX6_hold_13 ?_
  refine z_aload_n (pc := 14) hE 0 0 rfl rfl dX6_hold_14 ?_
  refine z_geti (pc := 15) hE fk_RX6_32 lX_44 rfl dX6_hold_15 (fun x2 => ?_)
  refine z_iconst (pc := 18) hE dX6_hold_18 q_iconst_1 ?_
  refine z_iadd (pc := 19) hE dX6_hold_19 ?_
  refine z_bipush (pc := 20) hE dX6_hold_20 q_bipush_15 ?_
  refine z_min (pc := 22) hE kk_RX6_35 (Nat.le_of_ble_eq_true rfl) (by decide) dX6_hold_22 ?_
  refine z_puti (pc := 25) hE fk_RX6_32 lX_44 rfl dX6_hold_25 ?_
  exact z_return (pc := 28) hE hr dX6_hold_28
set_option maxRecDepth 100000 in
set_option maxHeartbeats 4000000 in
theorem c_X6_takeBack {l : Launch} {ad : Nat → Nat} {ca : FieldType → ClassId} {D : va_G} {tt : Nat → Nat} (b : Nat) (hb : zfk b) : zC l yX6_takeBack cX6_takeBack 2 (some .boolean) 1 layX ad ca D (xtX ad tt) [.ref (ad 44), .ref (ad b)] zvi (p_X6_takeBack b) := by
  refine z_enter (by decide) (Nat.le_of_ble_eq_true rfl) (fun E hE hl0 hcD hr => ?_)
  have hE : zok layX ad (xtX ad tt) E cX6_takeBack 2 RX6 1 := hE
  show Z layX ad E 2 (zFin layX ad E zvi) 0 [(0, .ref (ad 44)), (1, .ref (ad b))] [] (p_X6_takeBack b)
  unfold p_X6_takeBack
  refine z_aload_n (pc := 0) hE 0 0 rfl rfl dX6_takeBack_0 ?_
  refine z_geti (pc := 1) hE fk_RX6_32 lX_44 rfl dX6_takeBack_1 (fun x1 => ?_)
  refine z_if_ne (pc := 4) hE 9 rfl dX6_takeBack_4 ?_ ?_
  · refine z_aload_n (pc := 9) hE 0 0 rfl rfl dX6_takeBack_9 ?_
    refine z_aload_n (pc := 10) hE 0 0 rfl rfl dX6_takeBack_10 ?_
    refine z_geti (pc := 11) hE fk_RX6_24 lX_44 rfl dX6_takeBack_11 (fun x2 => ?_)
    refine z_bipush (pc := 14) hE dX6_takeBack_14 q_bipush_16 ?_
    refine z_iadd (pc := 16) hE dX6_takeBack_16 ?_
    refine z_iconst (pc := 17) hE dX6_takeBack_17 q_iconst_1 ?_
    refine z_isub (pc := 18) hE dX6_takeBack_18 ?_
    refine z_bipush (pc := 19) hE dX6_takeBack_19 q_bipush_16 ?_
    refine z_irem (pc := 21) hE dX6_takeBack_21 ?_
    refine z_puti (pc := 22) hE fk_RX6_24 lX_44 rfl dX6_takeBack_22 ?_
    refine z_aload_n (pc := 25) hE 0 0 rfl rfl dX6_takeBack_25 ?_
    refine z_dup (pc := 26) hE dX6_takeBack_26 rfl ?_
    refine z_geti (pc := 27) hE fk_RX6_32 lX_44 rfl dX6_takeBack_27 (fun x3 => ?_)
    refine z_iconst (pc := 30) hE dX6_takeBack_30 q_iconst_1 ?_
    refine z_isub (pc := 31) hE dX6_takeBack_31 ?_
    refine z_puti (pc := 32) hE fk_RX6_32 lX_44 rfl dX6_takeBack_32 ?_
    refine z_aload_n (pc := 35) hE 1 1 rfl rfl dX6_takeBack_35 ?_
    refine z_aload_n (pc := 36) hE 0 0 rfl rfl dX6_takeBack_36 ?_
    refine z_getr (pc := 37) hE fk_RX6_13 lX_44 rfl dX6_takeBack_37 ?_
    refine z_aload_n (pc := 40) hE 0 0 rfl rfl dX6_takeBack_40 ?_
    refine z_geti (pc := 41) hE fk_RX6_24 lX_44 rfl dX6_takeBack_41 (fun x4 => ?_)
    refine z_bipush (pc := 44) hE dX6_takeBack_44 q_bipush_43 ?_
    refine z_imul (pc := 46) hE dX6_takeBack_46 ?_
    refine z_callVv (pc := 47) (st := []) [.ref (ad 45), .int (x4 * ((43 : Int32)))] hE kk_RX6_41 (c_X3_unpack b hb 45 688 lX_45 (x4 * ((43 : Int32)))) hb.1 rfl rfl rfl (Nat.le_of_ble_eq_true rfl) (by decide) dX6_takeBack_47 (fun x5 => ?_)
    refine z_iconst (pc := 50) hE dX6_takeBack_50 q_iconst_1 ?_
    exact z_zreturn (pc := 51) hE hr dX6_takeBack_51
  · refine z_iconst (pc := 7) hE dX6_takeBack_7 q_iconst_0 ?_
    exact z_zreturn (pc := 8) hE hr dX6_takeBack_8
set_option maxRecDepth 100000 in
set_option maxHeartbeats 4000000 in
theorem c_X6_forgetActs {l : Launch} {ad : Nat → Nat} {ca : FieldType → ClassId} {D : va_G} {tt : Nat → Nat}  : zC l yX6_forgetActs cX6_forgetActs 1 none 0 layX ad ca D (xtX ad tt) [.ref (ad 44)] zvn (p_X6_forgetActs) := by
  refine z_enter (by decide) (Nat.le_of_ble_eq_true rfl) (fun E hE hl0 hcD hr => ?_)
  have hE : zok layX ad (xtX ad tt) E cX6_forgetActs 1 RX6 0 := hE
  show Z layX ad E 1 (zFin layX ad E zvn) 0 [(0, .ref (ad 44))] [] (p_X6_forgetActs)
  unfold p_X6_forgetActs
  refine z_aload_n (pc := 0) hE 0 0 rfl rfl dX6_forgetActs_0 ?_
  refine z_iconst (pc := 1) hE dX6_forgetActs_1 q_iconst_0 ?_
  refine z_puti (pc := 2) hE fk_RX6_32 lX_44 rfl dX6_forgetActs_2 ?_
  exact z_return (pc := 5) hE hr dX6_forgetActs_5
set_option maxRecDepth 100000 in
set_option maxHeartbeats 4000000 in
theorem c_X6_forgetKept {l : Launch} {ad : Nat → Nat} {ca : FieldType → ClassId} {D : va_G} {tt : Nat → Nat}  : zC l yX6_forgetKept cX6_forgetKept 2 none 0 layX ad ca D (xtX ad tt) [.ref (ad 44)] zvn (p_X6_forgetKept) := by
  refine z_enter (by decide) (Nat.le_of_ble_eq_true rfl) (fun E hE hl0 hcD hr => ?_)
  have hE : zok layX ad (xtX ad tt) E cX6_forgetKept 2 RX6 0 := hE
  show Z layX ad E 2 (zFin layX ad E zvn) 0 [(0, .ref (ad 44))] [] (p_X6_forgetKept)
  unfold p_X6_forgetKept
  refine z_iconst (pc := 0) hE dX6_forgetKept_0 q_iconst_0 ?_
  refine z_istore_n (L' := [(1, .int ((0 : Int32))), (0, .ref (ad 44))]) (pc := 1) hE 1 rfl (by decide) rfl dX6_forgetKept_1 ?_
  refine z_sub (L' := [(0, .ref (ad 44)), (1, .int ((0 : Int32)))]) [1, 0] rfl ?_
  refine z_loop (V := Int32) (X := Unit) (hd := 2) (ex := 20) (Lh := fun v1 => [(0, .ref (ad 44)), (1, .int v1)]) (Lx := fun e4 => []) (fun rc3 k2 hrc3 hk2 v1 => ?_) zNF ((0 : Int32)) _ (fun e4 => ?_)
  · unfold p_X6_forgetKept_b2
    refine z_iload_n (pc := 2) hE 1 1 rfl rfl dX6_forgetKept_2 ?_
    refine z_iconst (pc := 3) hE dX6_forgetKept_3 q_iconst_3 ?_
    refine z_icmp_ge (pc := 4) hE 20 rfl dX6_forgetKept_4 ?_ ?_
    · exact z_sub [] rfl (hk2 ())
    · refine z_aload_n (pc := 7) hE 0 0 rfl rfl dX6_forgetKept_7 ?_
      refine z_getr (pc := 8) hE fk_RX6_20 lX_44 rfl dX6_forgetKept_8 ?_
      refine z_iload_n (pc := 11) hE 1 1 rfl rfl dX6_forgetKept_11 ?_
      refine z_iconst (pc := 12) hE dX6_forgetKept_12 q_iconst_0 ?_
      refine z_zast (pc := 13) hE lX_47 dX6_forgetKept_13 ?_
      refine z_iinc (L' := [(1, .int (v1 + (1 : Int32))), (0, .ref (ad 44))]) (pc := 14) hE 1 rfl (zinc q_iconst_1) (by decide) rfl dX6_forgetKept_14 ?_
      refine z_goto (pc := 17) hE 2 rfl dX6_forgetKept_17 ?_
      exact z_sub [1, 0] rfl (hrc3 (v1 + (1 : Int32)))
  · exact z_return (pc := 20) hE hr dX6_forgetKept_20
set_option maxRecDepth 100000 in
set_option maxHeartbeats 4000000 in
theorem c_X6_store {l : Launch} {ad : Nat → Nat} {ca : FieldType → ClassId} {D : va_G} {tt : Nat → Nat} (b : Nat) (hb : zfk b) (a2 : Int32) : zC l yX6_store cX6_store 3 none 1 layX ad ca D (xtX ad tt) [.ref (ad 44), .ref (ad b), .int a2] zvn (p_X6_store b a2) := by
  refine z_enter (by decide) (Nat.le_of_ble_eq_true rfl) (fun E hE hl0 hcD hr => ?_)
  have hE : zok layX ad (xtX ad tt) E cX6_store 3 RX6 1 := hE
  show Z layX ad E 3 (zFin layX ad E zvn) 0 [(0, .ref (ad 44)), (1, .ref (ad b)), (2, .int a2)] [] (p_X6_store b a2)
  unfold p_X6_store
  refine z_iload_n (pc := 0) hE 2 2 rfl rfl dX6_store_0 ?_
  refine z_if_lt (pc := 1) hE 28 rfl dX6_store_1 ?_ ?_
  · exact z_return (pc := 28) hE hr dX6_store_28
  · refine z_iload_n (pc := 4) hE 2 2 rfl rfl dX6_store_4 ?_
    refine z_iconst (pc := 5) hE dX6_store_5 q_iconst_3 ?_
    refine z_icmp_ge (pc := 6) hE 28 rfl dX6_store_6 ?_ ?_
    · exact z_return (pc := 28) hE hr dX6_store_28
    · refine z_aload_n (pc := 9) hE 1 1 rfl rfl dX6_store_9 ?_
      refine z_aload_n (pc := 10) hE 0 0 rfl rfl dX6_store_10 ?_
      refine z_getr (pc := 11) hE fk_RX6_17 lX_44 rfl dX6_store_11 ?_
      refine z_iload_n (pc := 14) hE 2 2 rfl rfl dX6_store_14 ?_
      refine z_bipush (pc := 15) hE dX6_store_15 q_bipush_43 ?_
      refine z_imul (pc := 17) hE dX6_store_17 ?_
      refine z_callVv (pc := 18) (st := []) [.ref (ad 46), .int (a2 * ((43 : Int32)))] hE kk_RX6_28 (c_X3_pack b hb 46 129 lX_46 (a2 * ((43 : Int32)))) hb.1 rfl rfl rfl (Nat.le_of_ble_eq_true rfl) (by decide) dX6_store_18 (fun x1 => ?_)
      refine z_aload_n (pc := 21) hE 0 0 rfl rfl dX6_store_21 ?_
      refine z_getr (pc := 22) hE fk_RX6_20 lX_44 rfl dX6_store_22 ?_
      refine z_iload_n (pc := 25) hE 2 2 rfl rfl dX6_store_25 ?_
      refine z_iconst (pc := 26) hE dX6_store_26 q_iconst_1 ?_
      refine z_zast (pc := 27) hE lX_47 dX6_store_27 ?_
      exact z_return (pc := 28) hE hr dX6_store_28
set_option maxRecDepth 100000 in
set_option maxHeartbeats 4000000 in
theorem c_X6_fetch {l : Launch} {ad : Nat → Nat} {ca : FieldType → ClassId} {D : va_G} {tt : Nat → Nat} (b : Nat) (hb : zfk b) (a2 : Int32) : zC l yX6_fetch cX6_fetch 3 none 1 layX ad ca D (xtX ad tt) [.ref (ad 44), .ref (ad b), .int a2] zvn (p_X6_fetch b a2) := by
  refine z_enter (by decide) (Nat.le_of_ble_eq_true rfl) (fun E hE hl0 hcD hr => ?_)
  have hE : zok layX ad (xtX ad tt) E cX6_fetch 3 RX6 1 := hE
  show Z layX ad E 3 (zFin layX ad E zvn) 0 [(0, .ref (ad 44)), (1, .ref (ad b)), (2, .int a2)] [] (p_X6_fetch b a2)
  unfold p_X6_fetch
  refine z_iload_n (pc := 0) hE 2 2 rfl rfl dX6_fetch_0 ?_
  refine z_if_lt (pc := 1) hE 30 rfl dX6_fetch_1 ?_ ?_
  · exact z_return (pc := 30) hE hr dX6_fetch_30
  · refine z_iload_n (pc := 4) hE 2 2 rfl rfl dX6_fetch_4 ?_
    refine z_iconst (pc := 5) hE dX6_fetch_5 q_iconst_3 ?_
    refine z_icmp_ge (pc := 6) hE 30 rfl dX6_fetch_6 ?_ ?_
    · exact z_return (pc := 30) hE hr dX6_fetch_30
    · refine z_aload_n (pc := 9) hE 0 0 rfl rfl dX6_fetch_9 ?_
      refine z_getr (pc := 10) hE fk_RX6_20 lX_44 rfl dX6_fetch_10 ?_
      refine z_iload_n (pc := 13) hE 2 2 rfl rfl dX6_fetch_13 ?_
      refine z_zald (pc := 14) hE lX_47 dX6_fetch_14 (fun x1 => ?_)
      refine z_if_eq (pc := 15) hE 30 rfl dX6_fetch_15 ?_ ?_
      · exact z_return (pc := 30) hE hr dX6_fetch_30
      · refine z_aload_n (pc := 18) hE 1 1 rfl rfl dX6_fetch_18 ?_
        refine z_aload_n (pc := 19) hE 0 0 rfl rfl dX6_fetch_19 ?_
        refine z_getr (pc := 20) hE fk_RX6_17 lX_44 rfl dX6_fetch_20 ?_
        refine z_iload_n (pc := 23) hE 2 2 rfl rfl dX6_fetch_23 ?_
        refine z_bipush (pc := 24) hE dX6_fetch_24 q_bipush_43 ?_
        refine z_imul (pc := 26) hE dX6_fetch_26 ?_
        refine z_callVv (pc := 27) (st := []) [.ref (ad 46), .int (a2 * ((43 : Int32)))] hE kk_RX6_41 (c_X3_unpack b hb 46 129 lX_46 (a2 * ((43 : Int32)))) hb.1 rfl rfl rfl (Nat.le_of_ble_eq_true rfl) (by decide) dX6_fetch_27 (fun x2 => ?_)
        exact z_return (pc := 30) hE hr dX6_fetch_30
set_option maxRecDepth 100000 in
set_option maxHeartbeats 4000000 in
theorem c_X7_write {l : Launch} {ad : Nat → Nat} {ca : FieldType → ClassId} {D : va_G} {tt : Nat → Nat} (a1 : Int32) : zC l yX7_write cX7_write 2 none 0 layX ad ca D (xtX ad tt) [.ref (ad 16), .int a1] zvn (p_X7_write a1) := by
  refine z_enter (by decide) (Nat.le_of_ble_eq_true rfl) (fun E hE hl0 hcD hr => ?_)
  have hE : zok layX ad (xtX ad tt) E cX7_write 2 RX7 0 := hE
  show Z layX ad E 2 (zFin layX ad E zvn) 0 [(0, .ref (ad 16)), (1, .int a1)] [] (p_X7_write a1)
  unfold p_X7_write
  refine z_aload_n (pc := 0) hE 0 0 rfl rfl dX7_write_0 ?_
  refine z_geti (pc := 1) hE fk_RX7_21 lX_16 rfl dX7_write_1 (fun x1 => ?_)
  refine z_bipush (pc := 4) hE dX7_write_4 q_bipush_40 ?_
  refine z_icmp_ge (pc := 6) hE 29 rfl dX7_write_6 ?_ ?_
  · exact z_return (pc := 29) hE hr dX7_write_29
  · refine z_aload_n (pc := 9) hE 0 0 rfl rfl dX7_write_9 ?_
    refine z_getr (pc := 10) hE fk_RX7_15 lX_16 rfl dX7_write_10 ?_
    refine z_aload_n (pc := 13) hE 0 0 rfl rfl dX7_write_13 ?_
    refine z_geti (pc := 14) hE fk_RX7_21 lX_16 rfl dX7_write_14 (fun x2 => ?_)
    refine z_iload_n (pc := 17) hE 1 1 rfl rfl dX7_write_17 ?_
    refine z_iast (pc := 18) hE lX_18 dX7_write_18 ?_
    refine z_aload_n (pc := 19) hE 0 0 rfl rfl dX7_write_19 ?_
    refine z_dup (pc := 20) hE dX7_write_20 rfl ?_
    refine z_geti (pc := 21) hE fk_RX7_21 lX_16 rfl dX7_write_21 (fun x3 => ?_)
    refine z_iconst (pc := 24) hE dX7_write_24 q_iconst_1 ?_
    refine z_iadd (pc := 25) hE dX7_write_25 ?_
    refine z_puti (pc := 26) hE fk_RX7_21 lX_16 rfl dX7_write_26 ?_
    exact z_return (pc := 29) hE hr dX7_write_29
set_option maxRecDepth 100000 in
set_option maxHeartbeats 4000000 in
theorem c_X7_readCompared_s (G : (Int32 → zM Int32) × (Int32 → zM Int32) × (Int32 → zM Int32) × (Int32 → zM Int32) × (Int32 → zM Int32)) (d : Nat) (hd : 2 ≤ d) (hG : (∀ (l : Launch) (ad : Nat → Nat) (ca : FieldType → ClassId) (D : va_G) (tt : Nat → Nat) (a2 : Int32), zC l yX7_readCompared cX7_readCompared 5 (some .boolean) (d - 1) layX ad ca D (xtX ad tt) [.ref (ad 16), .ref (ad 1), .int a2] zvi (G.1 a2)) ∧ (∀ (l : Launch) (ad : Nat → Nat) (ca : FieldType → ClassId) (D : va_G) (tt : Nat → Nat) (a2 : Int32), zC l yX7_readSum cX7_readSum 6 (some .boolean) (d - 1) layX ad ca D (xtX ad tt) [.ref (ad 16), .ref (ad 1), .int a2] zvi (G.2.1 a2)) ∧ (∀ (l : Launch) (ad : Nat → Nat) (ca : FieldType → ClassId) (D : va_G) (tt : Nat → Nat) (a2 : Int32), zC l yX7_readProduct cX7_readProduct 6 (some .boolean) (d - 1) layX ad ca D (xtX ad tt) [.ref (ad 16), .ref (ad 1), .int a2] zvi (G.2.2.1 a2)) ∧ (∀ (l : Launch) (ad : Nat → Nat) (ca : FieldType → ClassId) (D : va_G) (tt : Nat → Nat) (a2 : Int32), zC l yX7_readSigned cX7_readSigned 5 (some .boolean) (d - 1) layX ad ca D (xtX ad tt) [.ref (ad 16), .ref (ad 1), .int a2] zvi (G.2.2.2.1 a2)) ∧ (∀ (l : Launch) (ad : Nat → Nat) (ca : FieldType → ClassId) (D : va_G) (tt : Nat → Nat) (a2 : Int32), zC l yX7_readThing cX7_readThing 5 (some .boolean) (d - 1) layX ad ca D (xtX ad tt) [.ref (ad 16), .ref (ad 1), .int a2] zvi (G.2.2.2.2 a2))) {l : Launch} {ad : Nat → Nat} {ca : FieldType → ClassId} {D : va_G} {tt : Nat → Nat} (a2 : Int32) : zC l yX7_readCompared cX7_readCompared 5 (some .boolean) d layX ad ca D (xtX ad tt) [.ref (ad 16), .ref (ad 1), .int a2] zvi (p_X7_readCompared_s G a2) := by
  refine z_enter (by decide) (Nat.le_of_ble_eq_true rfl) (fun E hE hl0 hcD hr => ?_)
  have hE : zok layX ad (xtX ad tt) E cX7_readCompared 5 RX7 d := hE
  show Z layX ad E 5 (zFin layX ad E zvi) 0 [(0, .ref (ad 16)), (1, .ref (ad 1)), (2, .int a2)] [] (p_X7_readCompared_s G a2)
  unfold p_X7_readCompared_s
  refine z_aload_n (pc := 0) hE 0 0 rfl rfl dX7_readCompared_0 ?_
  refine z_aload_n (pc := 1) hE 1 1 rfl rfl dX7_readCompared_1 ?_
  refine z_iload_n (pc := 2) hE 2 2 rfl rfl dX7_readCompared_2 ?_
  refine z_callVi (pc := 3) (st := []) [.ref (ad 1), .int a2] hE kk_RX7_44 (hG.2.1 _ _ _ _ _ a2) lX_16 rfl rfl rfl (Nat.le_of_ble_eq_true rfl) (by omega) dX7_readCompared_3 (fun x1 => ?_)
  refine z_if_ne (pc := 6) hE 11 rfl dX7_readCompared_6 ?_ ?_
  · refine z_aload_n (pc := 11) hE 1 1 rfl rfl dX7_readCompared_11 ?_
    refine z_callVi (pc := 12) (st := []) [] hE kk_RX7_47 (c_X8_next) lX_1 rfl rfl rfl (Nat.le_of_ble_eq_true rfl) (by omega) dX7_readCompared_12 (fun x2 => ?_)
    refine z_istore_n (L' := [(3, .int x2), (0, .ref (ad 16)), (1, .ref (ad 1)), (2, .int a2)]) (pc := 15) hE 3 rfl (by decide) rfl dX7_readCompared_15 ?_
    refine z_iload_n (pc := 16) hE 0 3 rfl rfl dX7_readCompared_16 ?_
    refine z_bipush (pc := 17) hE dX7_readCompared_17 q_bipush_60 ?_
    refine z_join (Y := Unit) (pcJ := 36) (Lj := fun y3 => [(0, .ref (ad 16)), (1, .ref (ad 1)), (2, .int a2), (3, .int x2)]) (sj := fun y3 => []) (fun y3 => ?_) (fun j4 hj4 => ?_)
    · refine z_aload_n (pc := 36) hE 1 1 rfl rfl dX7_readCompared_36 ?_
      refine z_callVv (pc := 37) (st := []) [] hE kk_RX7_51 (c_X8_step) lX_1 rfl rfl rfl (Nat.le_of_ble_eq_true rfl) (by omega) dX7_readCompared_37 (fun x5 => ?_)
      refine z_aload_n (pc := 40) hE 0 0 rfl rfl dX7_readCompared_40 ?_
      refine z_aload_n (pc := 41) hE 1 1 rfl rfl dX7_readCompared_41 ?_
      refine z_iload_n (pc := 42) hE 2 2 rfl rfl dX7_readCompared_42 ?_
      refine z_callVi (pc := 43) (st := []) [.ref (ad 1), .int a2] hE kk_RX7_44 (hG.2.1 _ _ _ _ _ a2) lX_16 rfl rfl rfl (Nat.le_of_ble_eq_true rfl) (by omega) dX7_readCompared_43 (fun x6 => ?_)
      refine z_istore (L' := [(4, .int x6), (0, .ref (ad 16)), (1, .ref (ad 1)), (2, .int a2), (3, .int x2)]) (pc := 46) hE (by decide) rfl dX7_readCompared_46 ?_
      refine z_aload_n (pc := 48) hE 1 0 rfl rfl dX7_readCompared_48 ?_
      refine z_sipush (pc := 49) hE dX7_readCompared_49 q_sipush_2000 ?_
      refine z_iload_n (pc := 52) hE 4 3 rfl rfl dX7_readCompared_52 ?_
      refine z_iadd (pc := 53) hE dX7_readCompared_53 ?_
      refine z_callVv (pc := 54) (st := []) [.int (((2000 : Int32)) + x2)] hE kk_RX7_54 (c_X7_write (((2000 : Int32)) + x2)) lX_16 rfl rfl rfl (Nat.le_of_ble_eq_true rfl) (by omega) dX7_readCompared_54 (fun x7 => ?_)
      refine z_iload (pc := 57) hE 0 rfl dX7_readCompared_57 ?_
      exact z_zreturn (pc := 59) hE hr dX7_readCompared_59
    refine z_icmp_eq (pc := 19) hE 36 rfl dX7_readCompared_19 ?_ ?_
    · exact z_sub [1, 2, 3, 0] rfl (hj4 ())
    · refine z_iload_n (pc := 22) hE 0 3 rfl rfl dX7_readCompared_22 ?_
      refine z_bipush (pc := 23) hE dX7_readCompared_23 q_bipush_62 ?_
      refine z_icmp_eq (pc := 25) hE 36 rfl dX7_readCompared_25 ?_ ?_
      · exact z_sub [1, 2, 3, 0] rfl (hj4 ())
      · refine z_iload_n (pc := 28) hE 0 3 rfl rfl dX7_readCompared_28 ?_
        refine z_bipush (pc := 29) hE dX7_readCompared_29 q_bipush_61 ?_
        refine z_icmp_eq (pc := 31) hE 36 rfl dX7_readCompared_31 ?_ ?_
        · exact z_sub [1, 2, 3, 0] rfl (hj4 ())
        · refine z_iconst (pc := 34) hE dX7_readCompared_34 q_iconst_1 ?_
          exact z_zreturn (pc := 35) hE hr dX7_readCompared_35
  · refine z_iconst (pc := 9) hE dX7_readCompared_9 q_iconst_0 ?_
    exact z_zreturn (pc := 10) hE hr dX7_readCompared_10
set_option maxRecDepth 100000 in
set_option maxHeartbeats 4000000 in
theorem c_X7_readSum_s (G : (Int32 → zM Int32) × (Int32 → zM Int32) × (Int32 → zM Int32) × (Int32 → zM Int32) × (Int32 → zM Int32)) (d : Nat) (hd : 2 ≤ d) (hG : (∀ (l : Launch) (ad : Nat → Nat) (ca : FieldType → ClassId) (D : va_G) (tt : Nat → Nat) (a2 : Int32), zC l yX7_readCompared cX7_readCompared 5 (some .boolean) (d - 1) layX ad ca D (xtX ad tt) [.ref (ad 16), .ref (ad 1), .int a2] zvi (G.1 a2)) ∧ (∀ (l : Launch) (ad : Nat → Nat) (ca : FieldType → ClassId) (D : va_G) (tt : Nat → Nat) (a2 : Int32), zC l yX7_readSum cX7_readSum 6 (some .boolean) (d - 1) layX ad ca D (xtX ad tt) [.ref (ad 16), .ref (ad 1), .int a2] zvi (G.2.1 a2)) ∧ (∀ (l : Launch) (ad : Nat → Nat) (ca : FieldType → ClassId) (D : va_G) (tt : Nat → Nat) (a2 : Int32), zC l yX7_readProduct cX7_readProduct 6 (some .boolean) (d - 1) layX ad ca D (xtX ad tt) [.ref (ad 16), .ref (ad 1), .int a2] zvi (G.2.2.1 a2)) ∧ (∀ (l : Launch) (ad : Nat → Nat) (ca : FieldType → ClassId) (D : va_G) (tt : Nat → Nat) (a2 : Int32), zC l yX7_readSigned cX7_readSigned 5 (some .boolean) (d - 1) layX ad ca D (xtX ad tt) [.ref (ad 16), .ref (ad 1), .int a2] zvi (G.2.2.2.1 a2)) ∧ (∀ (l : Launch) (ad : Nat → Nat) (ca : FieldType → ClassId) (D : va_G) (tt : Nat → Nat) (a2 : Int32), zC l yX7_readThing cX7_readThing 5 (some .boolean) (d - 1) layX ad ca D (xtX ad tt) [.ref (ad 16), .ref (ad 1), .int a2] zvi (G.2.2.2.2 a2))) {l : Launch} {ad : Nat → Nat} {ca : FieldType → ClassId} {D : va_G} {tt : Nat → Nat} (a2 : Int32) : zC l yX7_readSum cX7_readSum 6 (some .boolean) d layX ad ca D (xtX ad tt) [.ref (ad 16), .ref (ad 1), .int a2] zvi (p_X7_readSum_s G a2) := by
  refine z_enter (by decide) (Nat.le_of_ble_eq_true rfl) (fun E hE hl0 hcD hr => ?_)
  have hE : zok layX ad (xtX ad tt) E cX7_readSum 6 RX7 d := hE
  show Z layX ad E 6 (zFin layX ad E zvi) 0 [(0, .ref (ad 16)), (1, .ref (ad 1)), (2, .int a2)] [] (p_X7_readSum_s G a2)
  unfold p_X7_readSum_s
  refine z_aload_n (pc := 0) hE 0 0 rfl rfl dX7_readSum_0 ?_
  refine z_aload_n (pc := 1) hE 1 1 rfl rfl dX7_readSum_1 ?_
  refine z_iload_n (pc := 2) hE 2 2 rfl rfl dX7_readSum_2 ?_
  refine z_callVi (pc := 3) (st := []) [.ref (ad 1), .int a2] hE kk_RX7_58 (hG.2.2.1 _ _ _ _ _ a2) lX_16 rfl rfl rfl (Nat.le_of_ble_eq_true rfl) (by omega) dX7_readSum_3 (fun x1 => ?_)
  refine z_istore_n (L' := [(3, .int x1), (0, .ref (ad 16)), (1, .ref (ad 1)), (2, .int a2)]) (pc := 6) hE 3 rfl (by decide) rfl dX7_readSum_6 ?_
  refine z_iconst (pc := 7) hE dX7_readSum_7 q_iconst_0 ?_
  refine z_istore (L' := [(4, .int ((0 : Int32))), (3, .int x1), (0, .ref (ad 16)), (1, .ref (ad 1)), (2, .int a2)]) (pc := 8) hE (by decide) rfl dX7_readSum_8 ?_
  refine z_sub (L' := [(0, .ref (ad 16)), (1, .ref (ad 1)), (2, .int a2), (3, .int x1), (4, .int ((0 : Int32)))]) [2, 3, 4, 1, 0] rfl ?_
  refine z_loop (V := (Int32 × Int32)) (X := Int32) (hd := 10) (ex := 41) (Lh := fun v2 => [(0, .ref (ad 16)), (1, .ref (ad 1)), (2, .int a2), (3, .int v2.1), (4, .int v2.2)]) (Lx := fun e5 => [(3, .int e5)]) (fun rc4 k3 hrc4 hk3 v2 => ?_) zNF (x1, (0 : Int32)) _ (fun e5 => ?_)
  · unfold p_X7_readSum_b10
    refine z_iload_n (pc := 10) hE 3 3 rfl rfl dX7_readSum_10 ?_
    refine z_if_eq (pc := 11) hE 71 rfl dX7_readSum_11 ?_ ?_
    · refine z_iload_n (pc := 71) hE 3 3 rfl rfl dX7_readSum_71 ?_
      exact z_zreturn (pc := 72) hE hr dX7_readSum_72
    · refine z_iload (pc := 14) hE 4 rfl dX7_readSum_14 ?_
      refine z_bipush (pc := 16) hE dX7_readSum_16 q_bipush_40 ?_
      refine z_icmp_ge (pc := 18) hE 71 rfl dX7_readSum_18 ?_ ?_
      · refine z_iload_n (pc := 71) hE 3 3 rfl rfl dX7_readSum_71 ?_
        exact z_zreturn (pc := 72) hE hr dX7_readSum_72
      · refine z_aload_n (pc := 21) hE 1 1 rfl rfl dX7_readSum_21 ?_
        refine z_callVi (pc := 22) (st := []) [] hE kk_RX7_47 (c_X8_next) lX_1 rfl rfl rfl (Nat.le_of_ble_eq_true rfl) (by omega) dX7_readSum_22 (fun x6 => ?_)
        refine z_istore (L' := [(5, .int x6), (0, .ref (ad 16)), (1, .ref (ad 1)), (2, .int a2), (3, .int v2.1), (4, .int v2.2)]) (pc := 25) hE (by decide) rfl dX7_readSum_25 ?_
        refine z_iload (pc := 27) hE 0 rfl dX7_readSum_27 ?_
        refine z_bipush (pc := 29) hE dX7_readSum_29 q_bipush_43 ?_
        refine z_join (Y := Unit) (pcJ := 44) (Lj := fun y7 => [(0, .ref (ad 16)), (1, .ref (ad 1)), (2, .int a2), (4, .int v2.2), (5, .int x6)]) (sj := fun y7 => []) (fun y7 => ?_) (fun j8 hj8 => ?_)
        · refine z_aload_n (pc := 44) hE 1 1 rfl rfl dX7_readSum_44 ?_
          refine z_callVv (pc := 45) (st := []) [] hE kk_RX7_51 (c_X8_step) lX_1 rfl rfl rfl (Nat.le_of_ble_eq_true rfl) (by omega) dX7_readSum_45 (fun x9 => ?_)
          refine z_aload_n (pc := 48) hE 0 0 rfl rfl dX7_readSum_48 ?_
          refine z_aload_n (pc := 49) hE 1 1 rfl rfl dX7_readSum_49 ?_
          refine z_iload_n (pc := 50) hE 2 2 rfl rfl dX7_readSum_50 ?_
          refine z_callVi (pc := 51) (st := []) [.ref (ad 1), .int a2] hE kk_RX7_58 (hG.2.2.1 _ _ _ _ _ a2) lX_16 rfl rfl rfl (Nat.le_of_ble_eq_true rfl) (by omega) dX7_readSum_51 (fun x10 => ?_)
          refine z_istore_n (L' := [(3, .int x10), (0, .ref (ad 16)), (1, .ref (ad 1)), (2, .int a2), (4, .int v2.2), (5, .int x6)]) (pc := 54) hE 3 rfl (by decide) rfl dX7_readSum_54 ?_
          refine z_aload_n (pc := 55) hE 1 0 rfl rfl dX7_readSum_55 ?_
          refine z_sipush (pc := 56) hE dX7_readSum_56 q_sipush_2000 ?_
          refine z_iload (pc := 59) hE 5 rfl dX7_readSum_59 ?_
          refine z_iadd (pc := 61) hE dX7_readSum_61 ?_
          refine z_callVv (pc := 62) (st := []) [.int (((2000 : Int32)) + x6)] hE kk_RX7_54 (c_X7_write (((2000 : Int32)) + x6)) lX_16 rfl rfl rfl (Nat.le_of_ble_eq_true rfl) (by omega) dX7_readSum_62 (fun x11 => ?_)
          refine z_iinc (L' := [(4, .int (v2.2 + (1 : Int32))), (3, .int x10), (0, .ref (ad 16)), (1, .ref (ad 1)), (2, .int a2), (5, .int x6)]) (pc := 65) hE 4 rfl (zinc q_iconst_1) (by decide) rfl dX7_readSum_65 ?_
          refine z_goto (pc := 68) hE 10 rfl dX7_readSum_68 ?_
          exact z_sub [2, 3, 4, 1, 0] rfl (hrc4 (x10, v2.2 + (1 : Int32)))
        refine z_icmp_eq (pc := 31) hE 44 rfl dX7_readSum_31 ?_ ?_
        · exact z_sub [1, 2, 3, 5, 0] rfl (hj8 ())
        · refine z_iload (pc := 34) hE 0 rfl dX7_readSum_34 ?_
          refine z_bipush (pc := 36) hE dX7_readSum_36 q_bipush_45 ?_
          refine z_icmp_eq (pc := 38) hE 44 rfl dX7_readSum_38 ?_ ?_
          · exact z_sub [1, 2, 3, 5, 0] rfl (hj8 ())
          · exact z_sub [4] rfl (hk3 v2.1)
  · refine z_goto (pc := 41) hE 71 rfl dX7_readSum_41 ?_
    refine z_iload_n (pc := 71) hE 0 3 rfl rfl dX7_readSum_71 ?_
    exact z_zreturn (pc := 72) hE hr dX7_readSum_72
set_option maxRecDepth 100000 in
set_option maxHeartbeats 4000000 in
theorem c_X7_readProduct_s (G : (Int32 → zM Int32) × (Int32 → zM Int32) × (Int32 → zM Int32) × (Int32 → zM Int32) × (Int32 → zM Int32)) (d : Nat) (hd : 2 ≤ d) (hG : (∀ (l : Launch) (ad : Nat → Nat) (ca : FieldType → ClassId) (D : va_G) (tt : Nat → Nat) (a2 : Int32), zC l yX7_readCompared cX7_readCompared 5 (some .boolean) (d - 1) layX ad ca D (xtX ad tt) [.ref (ad 16), .ref (ad 1), .int a2] zvi (G.1 a2)) ∧ (∀ (l : Launch) (ad : Nat → Nat) (ca : FieldType → ClassId) (D : va_G) (tt : Nat → Nat) (a2 : Int32), zC l yX7_readSum cX7_readSum 6 (some .boolean) (d - 1) layX ad ca D (xtX ad tt) [.ref (ad 16), .ref (ad 1), .int a2] zvi (G.2.1 a2)) ∧ (∀ (l : Launch) (ad : Nat → Nat) (ca : FieldType → ClassId) (D : va_G) (tt : Nat → Nat) (a2 : Int32), zC l yX7_readProduct cX7_readProduct 6 (some .boolean) (d - 1) layX ad ca D (xtX ad tt) [.ref (ad 16), .ref (ad 1), .int a2] zvi (G.2.2.1 a2)) ∧ (∀ (l : Launch) (ad : Nat → Nat) (ca : FieldType → ClassId) (D : va_G) (tt : Nat → Nat) (a2 : Int32), zC l yX7_readSigned cX7_readSigned 5 (some .boolean) (d - 1) layX ad ca D (xtX ad tt) [.ref (ad 16), .ref (ad 1), .int a2] zvi (G.2.2.2.1 a2)) ∧ (∀ (l : Launch) (ad : Nat → Nat) (ca : FieldType → ClassId) (D : va_G) (tt : Nat → Nat) (a2 : Int32), zC l yX7_readThing cX7_readThing 5 (some .boolean) (d - 1) layX ad ca D (xtX ad tt) [.ref (ad 16), .ref (ad 1), .int a2] zvi (G.2.2.2.2 a2))) {l : Launch} {ad : Nat → Nat} {ca : FieldType → ClassId} {D : va_G} {tt : Nat → Nat} (a2 : Int32) : zC l yX7_readProduct cX7_readProduct 6 (some .boolean) d layX ad ca D (xtX ad tt) [.ref (ad 16), .ref (ad 1), .int a2] zvi (p_X7_readProduct_s G a2) := by
  refine z_enter (by decide) (Nat.le_of_ble_eq_true rfl) (fun E hE hl0 hcD hr => ?_)
  have hE : zok layX ad (xtX ad tt) E cX7_readProduct 6 RX7 d := hE
  show Z layX ad E 6 (zFin layX ad E zvi) 0 [(0, .ref (ad 16)), (1, .ref (ad 1)), (2, .int a2)] [] (p_X7_readProduct_s G a2)
  unfold p_X7_readProduct_s
  refine z_aload_n (pc := 0) hE 0 0 rfl rfl dX7_readProduct_0 ?_
  refine z_aload_n (pc := 1) hE 1 1 rfl rfl dX7_readProduct_1 ?_
  refine z_iload_n (pc := 2) hE 2 2 rfl rfl dX7_readProduct_2 ?_
  refine z_callVi (pc := 3) (st := []) [.ref (ad 1), .int a2] hE kk_RX7_61 (hG.2.2.2.1 _ _ _ _ _ a2) lX_16 rfl rfl rfl (Nat.le_of_ble_eq_true rfl) (by omega) dX7_readProduct_3 (fun x1 => ?_)
  refine z_istore_n (L' := [(3, .int x1), (0, .ref (ad 16)), (1, .ref (ad 1)), (2, .int a2)]) (pc := 6) hE 3 rfl (by decide) rfl dX7_readProduct_6 ?_
  refine z_iconst (pc := 7) hE dX7_readProduct_7 q_iconst_0 ?_
  refine z_istore (L' := [(4, .int ((0 : Int32))), (3, .int x1), (0, .ref (ad 16)), (1, .ref (ad 1)), (2, .int a2)]) (pc := 8) hE (by decide) rfl dX7_readProduct_8 ?_
  refine z_sub (L' := [(0, .ref (ad 16)), (1, .ref (ad 1)), (2, .int a2), (3, .int x1), (4, .int ((0 : Int32)))]) [2, 3, 4, 1, 0] rfl ?_
  refine z_loop (V := (Int32 × Int32)) (X := Int32) (hd := 10) (ex := 41) (Lh := fun v2 => [(0, .ref (ad 16)), (1, .ref (ad 1)), (2, .int a2), (3, .int v2.1), (4, .int v2.2)]) (Lx := fun e5 => [(3, .int e5)]) (fun rc4 k3 hrc4 hk3 v2 => ?_) zNF (x1, (0 : Int32)) _ (fun e5 => ?_)
  · unfold p_X7_readProduct_b10
    refine z_iload_n (pc := 10) hE 3 3 rfl rfl dX7_readProduct_10 ?_
    refine z_if_eq (pc := 11) hE 71 rfl dX7_readProduct_11 ?_ ?_
    · refine z_iload_n (pc := 71) hE 3 3 rfl rfl dX7_readProduct_71 ?_
      exact z_zreturn (pc := 72) hE hr dX7_readProduct_72
    · refine z_iload (pc := 14) hE 4 rfl dX7_readProduct_14 ?_
      refine z_bipush (pc := 16) hE dX7_readProduct_16 q_bipush_40 ?_
      refine z_icmp_ge (pc := 18) hE 71 rfl dX7_readProduct_18 ?_ ?_
      · refine z_iload_n (pc := 71) hE 3 3 rfl rfl dX7_readProduct_71 ?_
        exact z_zreturn (pc := 72) hE hr dX7_readProduct_72
      · refine z_aload_n (pc := 21) hE 1 1 rfl rfl dX7_readProduct_21 ?_
        refine z_callVi (pc := 22) (st := []) [] hE kk_RX7_47 (c_X8_next) lX_1 rfl rfl rfl (Nat.le_of_ble_eq_true rfl) (by omega) dX7_readProduct_22 (fun x6 => ?_)
        refine z_istore (L' := [(5, .int x6), (0, .ref (ad 16)), (1, .ref (ad 1)), (2, .int a2), (3, .int v2.1), (4, .int v2.2)]) (pc := 25) hE (by decide) rfl dX7_readProduct_25 ?_
        refine z_iload (pc := 27) hE 0 rfl dX7_readProduct_27 ?_
        refine z_bipush (pc := 29) hE dX7_readProduct_29 q_bipush_42 ?_
        refine z_join (Y := Unit) (pcJ := 44) (Lj := fun y7 => [(0, .ref (ad 16)), (1, .ref (ad 1)), (2, .int a2), (4, .int v2.2), (5, .int x6)]) (sj := fun y7 => []) (fun y7 => ?_) (fun j8 hj8 => ?_)
        · refine z_aload_n (pc := 44) hE 1 1 rfl rfl dX7_readProduct_44 ?_
          refine z_callVv (pc := 45) (st := []) [] hE kk_RX7_51 (c_X8_step) lX_1 rfl rfl rfl (Nat.le_of_ble_eq_true rfl) (by omega) dX7_readProduct_45 (fun x9 => ?_)
          refine z_aload_n (pc := 48) hE 0 0 rfl rfl dX7_readProduct_48 ?_
          refine z_aload_n (pc := 49) hE 1 1 rfl rfl dX7_readProduct_49 ?_
          refine z_iload_n (pc := 50) hE 2 2 rfl rfl dX7_readProduct_50 ?_
          refine z_callVi (pc := 51) (st := []) [.ref (ad 1), .int a2] hE kk_RX7_61 (hG.2.2.2.1 _ _ _ _ _ a2) lX_16 rfl rfl rfl (Nat.le_of_ble_eq_true rfl) (by omega) dX7_readProduct_51 (fun x10 => ?_)
          refine z_istore_n (L' := [(3, .int x10), (0, .ref (ad 16)), (1, .ref (ad 1)), (2, .int a2), (4, .int v2.2), (5, .int x6)]) (pc := 54) hE 3 rfl (by decide) rfl dX7_readProduct_54 ?_
          refine z_aload_n (pc := 55) hE 1 0 rfl rfl dX7_readProduct_55 ?_
          refine z_sipush (pc := 56) hE dX7_readProduct_56 q_sipush_2000 ?_
          refine z_iload (pc := 59) hE 5 rfl dX7_readProduct_59 ?_
          refine z_iadd (pc := 61) hE dX7_readProduct_61 ?_
          refine z_callVv (pc := 62) (st := []) [.int (((2000 : Int32)) + x6)] hE kk_RX7_54 (c_X7_write (((2000 : Int32)) + x6)) lX_16 rfl rfl rfl (Nat.le_of_ble_eq_true rfl) (by omega) dX7_readProduct_62 (fun x11 => ?_)
          refine z_iinc (L' := [(4, .int (v2.2 + (1 : Int32))), (3, .int x10), (0, .ref (ad 16)), (1, .ref (ad 1)), (2, .int a2), (5, .int x6)]) (pc := 65) hE 4 rfl (zinc q_iconst_1) (by decide) rfl dX7_readProduct_65 ?_
          refine z_goto (pc := 68) hE 10 rfl dX7_readProduct_68 ?_
          exact z_sub [2, 3, 4, 1, 0] rfl (hrc4 (x10, v2.2 + (1 : Int32)))
        refine z_icmp_eq (pc := 31) hE 44 rfl dX7_readProduct_31 ?_ ?_
        · exact z_sub [1, 2, 3, 5, 0] rfl (hj8 ())
        · refine z_iload (pc := 34) hE 0 rfl dX7_readProduct_34 ?_
          refine z_bipush (pc := 36) hE dX7_readProduct_36 q_bipush_47 ?_
          refine z_icmp_eq (pc := 38) hE 44 rfl dX7_readProduct_38 ?_ ?_
          · exact z_sub [1, 2, 3, 5, 0] rfl (hj8 ())
          · exact z_sub [4] rfl (hk3 v2.1)
  · refine z_goto (pc := 41) hE 71 rfl dX7_readProduct_41 ?_
    refine z_iload_n (pc := 71) hE 0 3 rfl rfl dX7_readProduct_71 ?_
    exact z_zreturn (pc := 72) hE hr dX7_readProduct_72
set_option maxRecDepth 100000 in
set_option maxHeartbeats 4000000 in
theorem c_X7_readSigned_s (G : (Int32 → zM Int32) × (Int32 → zM Int32) × (Int32 → zM Int32) × (Int32 → zM Int32) × (Int32 → zM Int32)) (d : Nat) (hd : 2 ≤ d) (hG : (∀ (l : Launch) (ad : Nat → Nat) (ca : FieldType → ClassId) (D : va_G) (tt : Nat → Nat) (a2 : Int32), zC l yX7_readCompared cX7_readCompared 5 (some .boolean) (d - 1) layX ad ca D (xtX ad tt) [.ref (ad 16), .ref (ad 1), .int a2] zvi (G.1 a2)) ∧ (∀ (l : Launch) (ad : Nat → Nat) (ca : FieldType → ClassId) (D : va_G) (tt : Nat → Nat) (a2 : Int32), zC l yX7_readSum cX7_readSum 6 (some .boolean) (d - 1) layX ad ca D (xtX ad tt) [.ref (ad 16), .ref (ad 1), .int a2] zvi (G.2.1 a2)) ∧ (∀ (l : Launch) (ad : Nat → Nat) (ca : FieldType → ClassId) (D : va_G) (tt : Nat → Nat) (a2 : Int32), zC l yX7_readProduct cX7_readProduct 6 (some .boolean) (d - 1) layX ad ca D (xtX ad tt) [.ref (ad 16), .ref (ad 1), .int a2] zvi (G.2.2.1 a2)) ∧ (∀ (l : Launch) (ad : Nat → Nat) (ca : FieldType → ClassId) (D : va_G) (tt : Nat → Nat) (a2 : Int32), zC l yX7_readSigned cX7_readSigned 5 (some .boolean) (d - 1) layX ad ca D (xtX ad tt) [.ref (ad 16), .ref (ad 1), .int a2] zvi (G.2.2.2.1 a2)) ∧ (∀ (l : Launch) (ad : Nat → Nat) (ca : FieldType → ClassId) (D : va_G) (tt : Nat → Nat) (a2 : Int32), zC l yX7_readThing cX7_readThing 5 (some .boolean) (d - 1) layX ad ca D (xtX ad tt) [.ref (ad 16), .ref (ad 1), .int a2] zvi (G.2.2.2.2 a2))) {l : Launch} {ad : Nat → Nat} {ca : FieldType → ClassId} {D : va_G} {tt : Nat → Nat} (a2 : Int32) : zC l yX7_readSigned cX7_readSigned 5 (some .boolean) d layX ad ca D (xtX ad tt) [.ref (ad 16), .ref (ad 1), .int a2] zvi (p_X7_readSigned_s G a2) := by
  refine z_enter (by decide) (Nat.le_of_ble_eq_true rfl) (fun E hE hl0 hcD hr => ?_)
  have hE : zok layX ad (xtX ad tt) E cX7_readSigned 5 RX7 d := hE
  show Z layX ad E 5 (zFin layX ad E zvi) 0 [(0, .ref (ad 16)), (1, .ref (ad 1)), (2, .int a2)] [] (p_X7_readSigned_s G a2)
  unfold p_X7_readSigned_s
  refine z_iconst (pc := 0) hE dX7_readSigned_0 q_iconst_0 ?_
  refine z_istore_n (L' := [(3, .int ((0 : Int32))), (0, .ref (ad 16)), (1, .ref (ad 1)), (2, .int a2)]) (pc := 1) hE 3 rfl (by decide) rfl dX7_readSigned_1 ?_
  refine z_iconst (pc := 2) hE dX7_readSigned_2 q_iconst_0 ?_
  refine z_istore (L' := [(4, .int ((0 : Int32))), (3, .int ((0 : Int32))), (0, .ref (ad 16)), (1, .ref (ad 1)), (2, .int a2)]) (pc := 3) hE (by decide) rfl dX7_readSigned_3 ?_
  refine z_sub (L' := [(0, .ref (ad 16)), (1, .ref (ad 1)), (2, .int a2), (3, .int ((0 : Int32))), (4, .int ((0 : Int32)))]) [2, 3, 4, 1, 0] rfl ?_
  refine z_loop (V := (Int32 × Int32)) (X := Int32) (hd := 5) (ex := 30) (Lh := fun v1 => [(0, .ref (ad 16)), (1, .ref (ad 1)), (2, .int a2), (3, .int v1.1), (4, .int v1.2)]) (Lx := fun e4 => [(0, .ref (ad 16)), (1, .ref (ad 1)), (2, .int a2), (3, .int e4)]) (fun rc3 k2 hrc3 hk2 v1 => ?_) zNF ((0 : Int32), (0 : Int32)) _ (fun e4 => ?_)
  · unfold p_X7_readSigned_b5
    refine z_iload (pc := 5) hE 4 rfl dX7_readSigned_5 ?_
    refine z_bipush (pc := 7) hE dX7_readSigned_7 q_bipush_40 ?_
    refine z_icmp_ge (pc := 9) hE 30 rfl dX7_readSigned_9 ?_ ?_
    · exact z_sub [0, 1, 2, 3] rfl (hk2 v1.1)
    · refine z_aload_n (pc := 12) hE 1 1 rfl rfl dX7_readSigned_12 ?_
      refine z_bipush (pc := 13) hE dX7_readSigned_13 q_bipush_45 ?_
      refine z_callVi (pc := 15) (st := []) [.int ((45 : Int32))] hE kk_RX7_64 (c_X8_take ((45 : Int32))) lX_1 rfl rfl rfl (Nat.le_of_ble_eq_true rfl) (by omega) dX7_readSigned_15 (fun x5 => ?_)
      refine z_if_eq (pc := 18) hE 30 rfl dX7_readSigned_18 ?_ ?_
      · exact z_sub [0, 1, 2, 3] rfl (hk2 v1.1)
      · refine z_iinc (L' := [(3, .int (v1.1 + (1 : Int32))), (0, .ref (ad 16)), (1, .ref (ad 1)), (2, .int a2), (4, .int v1.2)]) (pc := 21) hE 3 rfl (zinc q_iconst_1) (by decide) rfl dX7_readSigned_21 ?_
        refine z_iinc (L' := [(4, .int (v1.2 + (1 : Int32))), (3, .int (v1.1 + (1 : Int32))), (0, .ref (ad 16)), (1, .ref (ad 1)), (2, .int a2)]) (pc := 24) hE 4 rfl (zinc q_iconst_1) (by decide) rfl dX7_readSigned_24 ?_
        refine z_goto (pc := 27) hE 5 rfl dX7_readSigned_27 ?_
        exact z_sub [2, 3, 4, 1, 0] rfl (hrc3 (v1.1 + (1 : Int32), v1.2 + (1 : Int32)))
  · refine z_aload_n (pc := 30) hE 0 0 rfl rfl dX7_readSigned_30 ?_
    refine z_aload_n (pc := 31) hE 1 1 rfl rfl dX7_readSigned_31 ?_
    refine z_iload_n (pc := 32) hE 2 2 rfl rfl dX7_readSigned_32 ?_
    refine z_callVi (pc := 33) (st := []) [.ref (ad 1), .int a2] hE kk_RX7_68 (hG.2.2.2.2 _ _ _ _ _ a2) lX_16 rfl rfl rfl (Nat.le_of_ble_eq_true rfl) (by omega) dX7_readSigned_33 (fun x6 => ?_)
    refine z_istore (L' := [(4, .int x6), (0, .ref (ad 16)), (1, .ref (ad 1)), (2, .int a2), (3, .int e4)]) (pc := 36) hE (by decide) rfl dX7_readSigned_36 ?_
    refine z_iload_n (pc := 38) hE 4 3 rfl rfl dX7_readSigned_38 ?_
    refine z_iconst (pc := 39) hE dX7_readSigned_39 q_iconst_2 ?_
    refine z_irem (pc := 40) hE dX7_readSigned_40 ?_
    refine z_iconst (pc := 41) hE dX7_readSigned_41 q_iconst_1 ?_
    refine z_icmp_ne (pc := 42) hE 52 rfl dX7_readSigned_42 ?_ ?_
    · refine z_iload (pc := 52) hE 0 rfl dX7_readSigned_52 ?_
      exact z_zreturn (pc := 54) hE hr dX7_readSigned_54
    · refine z_aload_n (pc := 45) hE 1 0 rfl rfl dX7_readSigned_45 ?_
      refine z_sipush (pc := 46) hE dX7_readSigned_46 q_sipush_3000 ?_
      refine z_callVv (pc := 49) (st := []) [.int ((3000 : Int32))] hE kk_RX7_54 (c_X7_write ((3000 : Int32))) lX_16 rfl rfl rfl (Nat.le_of_ble_eq_true rfl) (by omega) dX7_readSigned_49 (fun x7 => ?_)
      refine z_iload (pc := 52) hE 0 rfl dX7_readSigned_52 ?_
      exact z_zreturn (pc := 54) hE hr dX7_readSigned_54
set_option maxRecDepth 100000 in
set_option maxHeartbeats 4000000 in
theorem c_X7_readThing_s (G : (Int32 → zM Int32) × (Int32 → zM Int32) × (Int32 → zM Int32) × (Int32 → zM Int32) × (Int32 → zM Int32)) (d : Nat) (hd : 2 ≤ d) (hG : (∀ (l : Launch) (ad : Nat → Nat) (ca : FieldType → ClassId) (D : va_G) (tt : Nat → Nat) (a2 : Int32), zC l yX7_readCompared cX7_readCompared 5 (some .boolean) (d - 1) layX ad ca D (xtX ad tt) [.ref (ad 16), .ref (ad 1), .int a2] zvi (G.1 a2)) ∧ (∀ (l : Launch) (ad : Nat → Nat) (ca : FieldType → ClassId) (D : va_G) (tt : Nat → Nat) (a2 : Int32), zC l yX7_readSum cX7_readSum 6 (some .boolean) (d - 1) layX ad ca D (xtX ad tt) [.ref (ad 16), .ref (ad 1), .int a2] zvi (G.2.1 a2)) ∧ (∀ (l : Launch) (ad : Nat → Nat) (ca : FieldType → ClassId) (D : va_G) (tt : Nat → Nat) (a2 : Int32), zC l yX7_readProduct cX7_readProduct 6 (some .boolean) (d - 1) layX ad ca D (xtX ad tt) [.ref (ad 16), .ref (ad 1), .int a2] zvi (G.2.2.1 a2)) ∧ (∀ (l : Launch) (ad : Nat → Nat) (ca : FieldType → ClassId) (D : va_G) (tt : Nat → Nat) (a2 : Int32), zC l yX7_readSigned cX7_readSigned 5 (some .boolean) (d - 1) layX ad ca D (xtX ad tt) [.ref (ad 16), .ref (ad 1), .int a2] zvi (G.2.2.2.1 a2)) ∧ (∀ (l : Launch) (ad : Nat → Nat) (ca : FieldType → ClassId) (D : va_G) (tt : Nat → Nat) (a2 : Int32), zC l yX7_readThing cX7_readThing 5 (some .boolean) (d - 1) layX ad ca D (xtX ad tt) [.ref (ad 16), .ref (ad 1), .int a2] zvi (G.2.2.2.2 a2))) {l : Launch} {ad : Nat → Nat} {ca : FieldType → ClassId} {D : va_G} {tt : Nat → Nat} (a2 : Int32) : zC l yX7_readThing cX7_readThing 5 (some .boolean) d layX ad ca D (xtX ad tt) [.ref (ad 16), .ref (ad 1), .int a2] zvi (p_X7_readThing_s G a2) := by
  refine z_enter (by decide) (Nat.le_of_ble_eq_true rfl) (fun E hE hl0 hcD hr => ?_)
  have hE : zok layX ad (xtX ad tt) E cX7_readThing 5 RX7 d := hE
  show Z layX ad E 5 (zFin layX ad E zvi) 0 [(0, .ref (ad 16)), (1, .ref (ad 1)), (2, .int a2)] [] (p_X7_readThing_s G a2)
  unfold p_X7_readThing_s
  refine z_aload_n (pc := 0) hE 1 1 rfl rfl dX7_readThing_0 ?_
  refine z_callVi (pc := 1) (st := []) [] hE kk_RX7_71 (c_X8_isDigit) lX_1 rfl rfl rfl (Nat.le_of_ble_eq_true rfl) (by omega) dX7_readThing_1 (fun x1 => ?_)
  refine z_if_eq (pc := 4) hE 57 rfl dX7_readThing_4 ?_ ?_
  · refine z_iload_n (pc := 57) hE 2 2 rfl rfl dX7_readThing_57 ?_
    refine z_iconst (pc := 58) hE dX7_readThing_58 q_iconst_4 ?_
    refine z_join (Y := Unit) (pcJ := 97) (Lj := fun y2 => [(0, .ref (ad 16)), (1, .ref (ad 1))]) (sj := fun y2 => []) (fun y2 => ?_) (fun j3 hj3 => ?_)
    · refine z_iconst (pc := 97) hE dX7_readThing_97 q_iconst_0 ?_
      refine z_istore_n (L' := [(3, .int ((0 : Int32))), (0, .ref (ad 16)), (1, .ref (ad 1))]) (pc := 98) hE 3 rfl (by decide) rfl dX7_readThing_98 ?_
      refine z_sub (L' := [(0, .ref (ad 16)), (1, .ref (ad 1)), (3, .int ((0 : Int32)))]) [1, 2, 0] rfl ?_
      refine z_loop (V := Int32) (X := Int32) (hd := 99) (ex := 117) (Lh := fun v4 => [(0, .ref (ad 16)), (1, .ref (ad 1)), (3, .int v4)]) (Lx := fun e7 => [(0, .ref (ad 16)), (3, .int e7)]) (fun rc6 k5 hrc6 hk5 v4 => ?_) zNF ((0 : Int32)) _ (fun e7 => ?_)
      · unfold p_X7_readThing_b99
        refine z_iload_n (pc := 99) hE 2 3 rfl rfl dX7_readThing_99 ?_
        refine z_bipush (pc := 100) hE dX7_readThing_100 q_bipush_8 ?_
        refine z_icmp_ge (pc := 102) hE 134 rfl dX7_readThing_102 ?_ ?_
        · refine z_iconst (pc := 134) hE dX7_readThing_134 q_iconst_0 ?_
          exact z_zreturn (pc := 135) hE hr dX7_readThing_135
        · refine z_aload_n (pc := 105) hE 1 1 rfl rfl dX7_readThing_105 ?_
          refine z_gets (pc := 106) hE xZ_2 w_7 dX7_readThing_106 ?_
          refine z_iload_n (pc := 109) hE 2 3 rfl rfl dX7_readThing_109 ?_
          refine z_tc (pc := 110) hE tLETTERS xT_2 dX7_readThing_110 (fun x8 => ?_)
          refine z_callVi (pc := 111) (st := []) [.int x8] hE kk_RX7_64 (c_X8_take x8) lX_1 rfl rfl rfl (Nat.le_of_ble_eq_true rfl) (by omega) dX7_readThing_111 (fun x9 => ?_)
          refine z_if_eq (pc := 114) hE 128 rfl dX7_readThing_114 ?_ ?_
          · refine z_iinc (L' := [(3, .int (v4 + (1 : Int32))), (0, .ref (ad 16)), (1, .ref (ad 1))]) (pc := 128) hE 2 rfl (zinc q_iconst_1) (by decide) rfl dX7_readThing_128 ?_
            refine z_goto (pc := 131) hE 99 rfl dX7_readThing_131 ?_
            exact z_sub [1, 2, 0] rfl (hrc6 (v4 + (1 : Int32)))
          · exact z_sub [0, 2] rfl (hk5 v4)
      · refine z_aload_n (pc := 117) hE 0 0 rfl rfl dX7_readThing_117 ?_
        refine z_sipush (pc := 118) hE dX7_readThing_118 q_sipush_1000 ?_
        refine z_iload_n (pc := 121) hE 1 3 rfl rfl dX7_readThing_121 ?_
        refine z_iadd (pc := 122) hE dX7_readThing_122 ?_
        refine z_callVv (pc := 123) (st := []) [.int (((1000 : Int32)) + e7)] hE kk_RX7_54 (c_X7_write (((1000 : Int32)) + e7)) lX_16 rfl rfl rfl (Nat.le_of_ble_eq_true rfl) (by omega) dX7_readThing_123 (fun x10 => ?_)
        refine z_iconst (pc := 126) hE dX7_readThing_126 q_iconst_1 ?_
        exact z_zreturn (pc := 127) hE hr dX7_readThing_127
    refine z_icmp_ge (pc := 59) hE 97 rfl dX7_readThing_59 ?_ ?_
    · exact z_sub [0, 1] rfl (hj3 ())
    · refine z_aload_n (pc := 62) hE 1 1 rfl rfl dX7_readThing_62 ?_
      refine z_bipush (pc := 63) hE dX7_readThing_63 q_bipush_40 ?_
      refine z_callVi (pc := 65) (st := []) [.int ((40 : Int32))] hE kk_RX7_64 (c_X8_take ((40 : Int32))) lX_1 rfl rfl rfl (Nat.le_of_ble_eq_true rfl) (by omega) dX7_readThing_65 (fun x11 => ?_)
      refine z_if_eq (pc := 68) hE 97 rfl dX7_readThing_68 ?_ ?_
      · exact z_sub [0, 1] rfl (hj3 ())
      · refine z_aload_n (pc := 71) hE 0 0 rfl rfl dX7_readThing_71 ?_
        refine z_aload_n (pc := 72) hE 1 1 rfl rfl dX7_readThing_72 ?_
        refine z_iload_n (pc := 73) hE 2 2 rfl rfl dX7_readThing_73 ?_
        refine z_iconst (pc := 74) hE dX7_readThing_74 q_iconst_1 ?_
        refine z_iadd (pc := 75) hE dX7_readThing_75 ?_
        refine z_callVi (pc := 76) (st := []) [.ref (ad 1), .int (a2 + ((1 : Int32)))] hE kk_RX7_31 (hG.1 _ _ _ _ _ (a2 + ((1 : Int32)))) lX_16 rfl rfl rfl (Nat.le_of_ble_eq_true rfl) (by omega) dX7_readThing_76 (fun x12 => ?_)
        refine z_if_eq (pc := 79) hE 95 rfl dX7_readThing_79 ?_ ?_
        · refine z_iconst (pc := 95) hE dX7_readThing_95 q_iconst_0 ?_
          exact z_zreturn (pc := 96) hE hr dX7_readThing_96
        · refine z_aload_n (pc := 82) hE 1 1 rfl rfl dX7_readThing_82 ?_
          refine z_bipush (pc := 83) hE dX7_readThing_83 q_bipush_41 ?_
          refine z_callVi (pc := 85) (st := []) [.int ((41 : Int32))] hE kk_RX7_64 (c_X8_take ((41 : Int32))) lX_1 rfl rfl rfl (Nat.le_of_ble_eq_true rfl) (by omega) dX7_readThing_85 (fun x13 => ?_)
          refine z_if_eq (pc := 88) hE 95 rfl dX7_readThing_88 ?_ ?_
          · refine z_iconst (pc := 95) hE dX7_readThing_95 q_iconst_0 ?_
            exact z_zreturn (pc := 96) hE hr dX7_readThing_96
          · refine z_iconst (pc := 91) hE dX7_readThing_91 q_iconst_1 ?_
            refine z_goto (pc := 92) hE 96 rfl dX7_readThing_92 ?_
            exact z_zreturn (pc := 96) hE hr dX7_readThing_96
  · refine z_aload_n (pc := 7) hE 1 1 rfl rfl dX7_readThing_7 ?_
    refine z_iconst (pc := 8) hE dX7_readThing_8 q_iconst_0 ?_
    refine z_bipush (pc := 9) hE dX7_readThing_9 q_bipush_9 ?_
    refine z_callVi (pc := 11) (st := []) [.int ((0 : Int32)), .int ((9 : Int32))] hE kk_RX7_74 (c_X8_digit ((0 : Int32)) ((9 : Int32))) lX_1 rfl rfl rfl (Nat.le_of_ble_eq_true rfl) (by omega) dX7_readThing_11 (fun x14 => ?_)
    refine z_istore_n (L' := [(3, .int x14), (0, .ref (ad 16)), (1, .ref (ad 1)), (2, .int a2)]) (pc := 14) hE 3 rfl (by decide) rfl dX7_readThing_14 ?_
    refine z_iconst (pc := 15) hE dX7_readThing_15 q_iconst_0 ?_
    refine z_istore (L' := [(4, .int ((0 : Int32))), (3, .int x14), (0, .ref (ad 16)), (1, .ref (ad 1)), (2, .int a2)]) (pc := 16) hE (by decide) rfl dX7_readThing_16 ?_
    refine z_sub (L' := [(0, .ref (ad 16)), (1, .ref (ad 1)), (3, .int x14), (4, .int ((0 : Int32)))]) [2, 3, 1, 0] rfl ?_
    refine z_loop (V := (Int32 × Int32)) (X := Int32) (hd := 18) (ex := 50) (Lh := fun v15 => [(0, .ref (ad 16)), (1, .ref (ad 1)), (3, .int v15.1), (4, .int v15.2)]) (Lx := fun e18 => [(0, .ref (ad 16)), (3, .int e18)]) (fun rc17 k16 hrc17 hk16 v15 => ?_) zNF (x14, (0 : Int32)) _ (fun e18 => ?_)
    · unfold p_X7_readThing_b18
      refine z_iload (pc := 18) hE 3 rfl dX7_readThing_18 ?_
      refine z_iconst (pc := 20) hE dX7_readThing_20 q_iconst_2 ?_
      refine z_icmp_ge (pc := 21) hE 50 rfl dX7_readThing_21 ?_ ?_
      · exact z_sub [0, 2] rfl (hk16 v15.1)
      · refine z_aload_n (pc := 24) hE 1 1 rfl rfl dX7_readThing_24 ?_
        refine z_callVi (pc := 25) (st := []) [] hE kk_RX7_71 (c_X8_isDigit) lX_1 rfl rfl rfl (Nat.le_of_ble_eq_true rfl) (by omega) dX7_readThing_25 (fun x19 => ?_)
        refine z_if_eq (pc := 28) hE 50 rfl dX7_readThing_28 ?_ ?_
        · exact z_sub [0, 2] rfl (hk16 v15.1)
        · refine z_iload_n (pc := 31) hE 2 3 rfl rfl dX7_readThing_31 ?_
          refine z_bipush (pc := 32) hE dX7_readThing_32 q_bipush_10 ?_
          refine z_imul (pc := 34) hE dX7_readThing_34 ?_
          refine z_aload_n (pc := 35) hE 1 1 rfl rfl dX7_readThing_35 ?_
          refine z_iconst (pc := 36) hE dX7_readThing_36 q_iconst_0 ?_
          refine z_bipush (pc := 37) hE dX7_readThing_37 q_bipush_9 ?_
          refine z_callVi (pc := 39) (st := [.int (v15.1 * ((10 : Int32)))]) [.int ((0 : Int32)), .int ((9 : Int32))] hE kk_RX7_74 (c_X8_digit ((0 : Int32)) ((9 : Int32))) lX_1 rfl rfl rfl (Nat.le_of_ble_eq_true rfl) (by omega) dX7_readThing_39 (fun x20 => ?_)
          refine z_iadd (pc := 42) hE dX7_readThing_42 ?_
          refine z_istore_n (L' := [(3, .int ((v15.1 * ((10 : Int32))) + x20)), (0, .ref (ad 16)), (1, .ref (ad 1)), (4, .int v15.2)]) (pc := 43) hE 3 rfl (by decide) rfl dX7_readThing_43 ?_
          refine z_iinc (L' := [(4, .int (v15.2 + (1 : Int32))), (3, .int ((v15.1 * ((10 : Int32))) + x20)), (0, .ref (ad 16)), (1, .ref (ad 1))]) (pc := 44) hE 3 rfl (zinc q_iconst_1) (by decide) rfl dX7_readThing_44 ?_
          refine z_goto (pc := 47) hE 18 rfl dX7_readThing_47 ?_
          exact z_sub [2, 3, 1, 0] rfl (hrc17 ((v15.1 * ((10 : Int32))) + x20, v15.2 + (1 : Int32)))
    · refine z_aload_n (pc := 50) hE 0 0 rfl rfl dX7_readThing_50 ?_
      refine z_iload_n (pc := 51) hE 1 3 rfl rfl dX7_readThing_51 ?_
      refine z_callVv (pc := 52) (st := []) [.int e18] hE kk_RX7_54 (c_X7_write e18) lX_16 rfl rfl rfl (Nat.le_of_ble_eq_true rfl) (by omega) dX7_readThing_52 (fun x21 => ?_)
      refine z_iconst (pc := 55) hE dX7_readThing_55 q_iconst_1 ?_
      exact z_zreturn (pc := 56) hE hr dX7_readThing_56
theorem c_X7_readCompared_g : ∀ (n d : Nat), 1 + n ≤ d → (∀ (l : Launch) (ad : Nat → Nat) (ca : FieldType → ClassId) (D : va_G) (tt : Nat → Nat) (a2 : Int32), zC l yX7_readCompared cX7_readCompared 5 (some .boolean) d layX ad ca D (xtX ad tt) [.ref (ad 16), .ref (ad 1), .int a2] zvi ((p_X7_readCompared_g n).1 a2)) ∧ (∀ (l : Launch) (ad : Nat → Nat) (ca : FieldType → ClassId) (D : va_G) (tt : Nat → Nat) (a2 : Int32), zC l yX7_readSum cX7_readSum 6 (some .boolean) d layX ad ca D (xtX ad tt) [.ref (ad 16), .ref (ad 1), .int a2] zvi ((p_X7_readCompared_g n).2.1 a2)) ∧ (∀ (l : Launch) (ad : Nat → Nat) (ca : FieldType → ClassId) (D : va_G) (tt : Nat → Nat) (a2 : Int32), zC l yX7_readProduct cX7_readProduct 6 (some .boolean) d layX ad ca D (xtX ad tt) [.ref (ad 16), .ref (ad 1), .int a2] zvi ((p_X7_readCompared_g n).2.2.1 a2)) ∧ (∀ (l : Launch) (ad : Nat → Nat) (ca : FieldType → ClassId) (D : va_G) (tt : Nat → Nat) (a2 : Int32), zC l yX7_readSigned cX7_readSigned 5 (some .boolean) d layX ad ca D (xtX ad tt) [.ref (ad 16), .ref (ad 1), .int a2] zvi ((p_X7_readCompared_g n).2.2.2.1 a2)) ∧ (∀ (l : Launch) (ad : Nat → Nat) (ca : FieldType → ClassId) (D : va_G) (tt : Nat → Nat) (a2 : Int32), zC l yX7_readThing cX7_readThing 5 (some .boolean) d layX ad ca D (xtX ad tt) [.ref (ad 16), .ref (ad 1), .int a2] zvi ((p_X7_readCompared_g n).2.2.2.2 a2))
  | 0, d, h => ⟨fun _ _ _ _ _ _ S r S2 h => (by cases h), fun _ _ _ _ _ _ S r S2 h => (by cases h), fun _ _ _ _ _ _ S r S2 h => (by cases h), fun _ _ _ _ _ _ S r S2 h => (by cases h), fun _ _ _ _ _ _ S r S2 h => (by cases h)⟩
  | n + 1, d, h => by
    have hG := c_X7_readCompared_g n (d - 1) (by omega)
    exact ⟨fun l ad ca D tt a2 => c_X7_readCompared_s _ d (by omega) hG a2, fun l ad ca D tt a2 => c_X7_readSum_s _ d (by omega) hG a2, fun l ad ca D tt a2 => c_X7_readProduct_s _ d (by omega) hG a2, fun l ad ca D tt a2 => c_X7_readSigned_s _ d (by omega) hG a2, fun l ad ca D tt a2 => c_X7_readThing_s _ d (by omega) hG a2⟩
theorem c_X7_readCompared {l : Launch} {ad : Nat → Nat} {ca : FieldType → ClassId} {D : va_G} {tt : Nat → Nat} (a2 : Int32) : zC l yX7_readCompared cX7_readCompared 5 (some .boolean) 101 layX ad ca D (xtX ad tt) [.ref (ad 16), .ref (ad 1), .int a2] zvi (p_X7_readCompared a2) := (c_X7_readCompared_g zDP 101 (Nat.le_of_eq (by rw [zDP_eq]))).1 _ _ _ _ _ a2
theorem c_X7_readSum {l : Launch} {ad : Nat → Nat} {ca : FieldType → ClassId} {D : va_G} {tt : Nat → Nat} (a2 : Int32) : zC l yX7_readSum cX7_readSum 6 (some .boolean) 101 layX ad ca D (xtX ad tt) [.ref (ad 16), .ref (ad 1), .int a2] zvi (p_X7_readSum a2) := (c_X7_readCompared_g zDP 101 (Nat.le_of_eq (by rw [zDP_eq]))).2.1 _ _ _ _ _ a2
theorem c_X7_readProduct {l : Launch} {ad : Nat → Nat} {ca : FieldType → ClassId} {D : va_G} {tt : Nat → Nat} (a2 : Int32) : zC l yX7_readProduct cX7_readProduct 6 (some .boolean) 101 layX ad ca D (xtX ad tt) [.ref (ad 16), .ref (ad 1), .int a2] zvi (p_X7_readProduct a2) := (c_X7_readCompared_g zDP 101 (Nat.le_of_eq (by rw [zDP_eq]))).2.2.1 _ _ _ _ _ a2
theorem c_X7_readSigned {l : Launch} {ad : Nat → Nat} {ca : FieldType → ClassId} {D : va_G} {tt : Nat → Nat} (a2 : Int32) : zC l yX7_readSigned cX7_readSigned 5 (some .boolean) 101 layX ad ca D (xtX ad tt) [.ref (ad 16), .ref (ad 1), .int a2] zvi (p_X7_readSigned a2) := (c_X7_readCompared_g zDP 101 (Nat.le_of_eq (by rw [zDP_eq]))).2.2.2.1 _ _ _ _ _ a2
theorem c_X7_readThing {l : Launch} {ad : Nat → Nat} {ca : FieldType → ClassId} {D : va_G} {tt : Nat → Nat} (a2 : Int32) : zC l yX7_readThing cX7_readThing 5 (some .boolean) 101 layX ad ca D (xtX ad tt) [.ref (ad 16), .ref (ad 1), .int a2] zvi (p_X7_readThing a2) := (c_X7_readCompared_g zDP 101 (Nat.le_of_eq (by rw [zDP_eq]))).2.2.2.2 _ _ _ _ _ a2
set_option maxRecDepth 100000 in
set_option maxHeartbeats 4000000 in
theorem c_X7_read {l : Launch} {ad : Nat → Nat} {ca : FieldType → ClassId} {D : va_G} {tt : Nat → Nat}  : zC l yX7_read cX7_read 2 (some .boolean) 102 layX ad ca D (xtX ad tt) [.ref (ad 16), .ref (ad 1)] zvi (p_X7_read) := by
  refine z_enter (by decide) (Nat.le_of_ble_eq_true rfl) (fun E hE hl0 hcD hr => ?_)
  have hE : zok layX ad (xtX ad tt) E cX7_read 2 RX7 102 := hE
  show Z layX ad E 2 (zFin layX ad E zvi) 0 [(0, .ref (ad 16)), (1, .ref (ad 1))] [] (p_X7_read)
  unfold p_X7_read
  refine z_aload_n (pc := 0) hE 0 0 rfl rfl dX7_read_0 ?_
  refine z_iconst (pc := 1) hE dX7_read_1 q_iconst_0 ?_
  refine z_puti (pc := 2) hE fk_RX7_21 lX_16 rfl dX7_read_2 ?_
  refine z_aload_n (pc := 5) hE 1 1 rfl rfl dX7_read_5 ?_
  refine z_callVi (pc := 6) (st := []) [] hE kk_RX7_25 (c_X8_isRead) lX_1 rfl rfl rfl (Nat.le_of_ble_eq_true rfl) (by decide) dX7_read_6 (fun x1 => ?_)
  refine z_join (Y := Unit) (pcJ := 30) (Lj := fun y2 => [(0, .ref (ad 16))]) (sj := fun y2 => []) (fun y2 => ?_) (fun j3 hj3 => ?_)
  · refine z_aload_n (pc := 30) hE 0 0 rfl rfl dX7_read_30 ?_
    refine z_aload_n (pc := 31) hE 0 0 rfl rfl dX7_read_31 ?_
    refine z_geti (pc := 32) hE fk_RX7_21 lX_16 rfl dX7_read_32 (fun x4 => ?_)
    refine z_puti (pc := 35) hE fk_RX7_35 lX_16 rfl dX7_read_35 ?_
    refine z_aload_n (pc := 38) hE 0 0 rfl rfl dX7_read_38 ?_
    refine z_getr (pc := 39) hE fk_RX7_15 lX_16 rfl dX7_read_39 ?_
    refine z_iconst (pc := 42) hE dX7_read_42 q_iconst_0 ?_
    refine z_aload_n (pc := 43) hE 0 0 rfl rfl dX7_read_43 ?_
    refine z_getr (pc := 44) hE fk_RX7_9 lX_16 rfl dX7_read_44 ?_
    refine z_iconst (pc := 47) hE dX7_read_47 q_iconst_0 ?_
    refine z_aload_n (pc := 48) hE 0 0 rfl rfl dX7_read_48 ?_
    refine z_geti (pc := 49) hE fk_RX7_21 lX_16 rfl dX7_read_49 (fun x5 => ?_)
    refine z_copy (pc := 52) hE w_8 w_4 w_5 w_6 lX_18 lX_17 (Nat.le_of_ble_eq_true rfl) (by decide) dX7_read_52 ?_
    refine z_iconst (pc := 55) hE dX7_read_55 q_iconst_1 ?_
    exact z_zreturn (pc := 56) hE hr dX7_read_56
  refine z_if_ne (pc := 9) hE 30 rfl dX7_read_9 ?_ ?_
  · exact z_sub [0] rfl (hj3 ())
  · refine z_aload_n (pc := 12) hE 0 0 rfl rfl dX7_read_12 ?_
    refine z_aload_n (pc := 13) hE 1 1 rfl rfl dX7_read_13 ?_
    refine z_iconst (pc := 14) hE dX7_read_14 q_iconst_0 ?_
    refine z_callVi (pc := 15) (st := []) [.ref (ad 1), .int ((0 : Int32))] hE kk_RX7_31 (c_X7_readCompared ((0 : Int32))) lX_16 rfl rfl rfl (Nat.le_of_ble_eq_true rfl) (by decide) dX7_read_15 (fun x6 => ?_)
    refine z_if_eq (pc := 18) hE 28 rfl dX7_read_18 ?_ ?_
    · refine z_iconst (pc := 28) hE dX7_read_28 q_iconst_0 ?_
      exact z_zreturn (pc := 29) hE hr dX7_read_29
    · refine z_aload_n (pc := 21) hE 1 1 rfl rfl dX7_read_21 ?_
      refine z_callVi (pc := 22) (st := []) [] hE kk_RX7_25 (c_X8_isRead) lX_1 rfl rfl rfl (Nat.le_of_ble_eq_true rfl) (by decide) dX7_read_22 (fun x7 => ?_)
      refine z_if_ne (pc := 25) hE 30 rfl dX7_read_25 ?_ ?_
      · exact z_sub [0] rfl (hj3 ())
      · refine z_iconst (pc := 28) hE dX7_read_28 q_iconst_0 ?_
        exact z_zreturn (pc := 29) hE hr dX7_read_29
set_option maxRecDepth 100000 in
set_option maxHeartbeats 4000000 in
theorem c_X8_append {l : Launch} {ad : Nat → Nat} {ca : FieldType → ClassId} {D : va_G} {tt : Nat → Nat} (a1 : Int32) : zC l yX8_append cX8_append 2 none 0 layX ad ca D (xtX ad tt) [.ref (ad 1), .int a1] zvn (p_X8_append a1) := by
  refine z_enter (by decide) (Nat.le_of_ble_eq_true rfl) (fun E hE hl0 hcD hr => ?_)
  have hE : zok layX ad (xtX ad tt) E cX8_append 2 RX8 0 := hE
  show Z layX ad E 2 (zFin layX ad E zvn) 0 [(0, .ref (ad 1)), (1, .int a1)] [] (p_X8_append a1)
  unfold p_X8_append
  refine z_aload_n (pc := 0) hE 0 0 rfl rfl dX8_append_0 ?_
  refine z_geti (pc := 1) hE fk_RX8_15 lX_1 rfl dX8_append_1 (fun x1 => ?_)
  refine z_bipush (pc := 4) hE dX8_append_4 q_bipush_80 ?_
  refine z_icmp_ge (pc := 6) hE 29 rfl dX8_append_6 ?_ ?_
  · exact z_return (pc := 29) hE hr dX8_append_29
  · refine z_aload_n (pc := 9) hE 0 0 rfl rfl dX8_append_9 ?_
    refine z_getr (pc := 10) hE fk_RX8_9 lX_1 rfl dX8_append_10 ?_
    refine z_aload_n (pc := 13) hE 0 0 rfl rfl dX8_append_13 ?_
    refine z_geti (pc := 14) hE fk_RX8_15 lX_1 rfl dX8_append_14 (fun x2 => ?_)
    refine z_iload_n (pc := 17) hE 1 1 rfl rfl dX8_append_17 ?_
    refine z_cast (pc := 18) hE lX_2 dX8_append_18 ?_
    refine z_aload_n (pc := 19) hE 0 0 rfl rfl dX8_append_19 ?_
    refine z_dup (pc := 20) hE dX8_append_20 rfl ?_
    refine z_geti (pc := 21) hE fk_RX8_15 lX_1 rfl dX8_append_21 (fun x3 => ?_)
    refine z_iconst (pc := 24) hE dX8_append_24 q_iconst_1 ?_
    refine z_iadd (pc := 25) hE dX8_append_25 ?_
    refine z_puti (pc := 26) hE fk_RX8_15 lX_1 rfl dX8_append_26 ?_
    exact z_return (pc := 29) hE hr dX8_append_29
set_option maxRecDepth 100000 in
set_option maxHeartbeats 4000000 in
theorem c_X8_open {l : Launch} {ad : Nat → Nat} {ca : FieldType → ClassId} {D : va_G} {tt : Nat → Nat} (a1 : Int32) : zC l yX8_open cX8_open 2 none 1 layX ad ca D (xtX ad tt) [.ref (ad 1), .int a1] zvn (p_X8_open a1) := by
  refine z_enter (by decide) (Nat.le_of_ble_eq_true rfl) (fun E hE hl0 hcD hr => ?_)
  have hE : zok layX ad (xtX ad tt) E cX8_open 2 RX8 1 := hE
  show Z layX ad E 2 (zFin layX ad E zvn) 0 [(0, .ref (ad 1)), (1, .int a1)] [] (p_X8_open a1)
  unfold p_X8_open
  refine z_aload_n (pc := 0) hE 0 0 rfl rfl dX8_open_0 ?_
  refine z_iconst (pc := 1) hE dX8_open_1 q_iconst_0 ?_
  refine z_puti (pc := 2) hE fk_RX8_19 lX_1 rfl dX8_open_2 ?_
  refine z_aload_n (pc := 5) hE 0 0 rfl rfl dX8_open_5 ?_
  refine z_iload_n (pc := 6) hE 1 1 rfl rfl dX8_open_6 ?_
  refine z_aload_n (pc := 7) hE 0 0 rfl rfl dX8_open_7 ?_
  refine z_geti (pc := 8) hE fk_RX8_15 lX_1 rfl dX8_open_8 (fun x1 => ?_)
  refine z_min (pc := 11) hE kk_RX8_22 (Nat.le_of_ble_eq_true rfl) (by decide) dX8_open_11 ?_
  refine z_puti (pc := 14) hE fk_RX8_28 lX_1 rfl dX8_open_14 ?_
  exact z_return (pc := 17) hE hr dX8_open_17
set_option maxRecDepth 100000 in
set_option maxHeartbeats 4000000 in
theorem c_X8_close {l : Launch} {ad : Nat → Nat} {ca : FieldType → ClassId} {D : va_G} {tt : Nat → Nat}  : zC l yX8_close cX8_close 1 none 0 layX ad ca D (xtX ad tt) [.ref (ad 1)] zvn (p_X8_close) := by
  refine z_enter (by decide) (Nat.le_of_ble_eq_true rfl) (fun E hE hl0 hcD hr => ?_)
  have hE : zok layX ad (xtX ad tt) E cX8_close 1 RX8 0 := hE
  show Z layX ad E 1 (zFin layX ad E zvn) 0 [(0, .ref (ad 1))] [] (p_X8_close)
  unfold p_X8_close
  refine z_aload_n (pc := 0) hE 0 0 rfl rfl dX8_close_0 ?_
  refine z_iconst (pc := 1) hE dX8_close_1 q_iconst_0 ?_
  refine z_puti (pc := 2) hE fk_RX8_15 lX_1 rfl dX8_close_2 ?_
  exact z_return (pc := 5) hE hr dX8_close_5
set_option maxRecDepth 100000 in
set_option maxHeartbeats 4000000 in
theorem c_X8_fault {l : Launch} {ad : Nat → Nat} {ca : FieldType → ClassId} {D : va_G} {tt : Nat → Nat}  : zC l yX8_fault cX8_fault 1 (some .int) 0 layX ad ca D (xtX ad tt) [.ref (ad 1)] zvi (p_X8_fault) := by
  refine z_enter (by decide) (Nat.le_of_ble_eq_true rfl) (fun E hE hl0 hcD hr => ?_)
  have hE : zok layX ad (xtX ad tt) E cX8_fault 1 RX8 0 := hE
  show Z layX ad E 1 (zFin layX ad E zvi) 0 [(0, .ref (ad 1))] [] (p_X8_fault)
  unfold p_X8_fault
  refine z_iconst (pc := 0) hE dX8_fault_0 q_iconst_m1 ?_
  refine z_aload_n (pc := 1) hE 0 0 rfl rfl dX8_fault_1 ?_
  refine z_geti (pc := 2) hE fk_RX8_19 lX_1 rfl dX8_fault_2 (fun x1 => ?_)
  refine z_isub (pc := 5) hE dX8_fault_5 ?_
  exact z_ireturn (pc := 6) hE hr dX8_fault_6
set_option maxRecDepth 100000 in
set_option maxHeartbeats 4000000 in
theorem c_X9_readLines {l : Launch} {ad : Nat → Nat} {ca : FieldType → ClassId} {D : va_G} {tt : Nat → Nat}  : zC l yX9_readLines cX9_readLines 3 (some .int) 1 layX ad ca D (xtX ad tt) [.ref (ad 3), .ref (ad 1)] zvi (p_X9_readLines) := by
  refine z_enter (by decide) (Nat.le_of_ble_eq_true rfl) (fun E hE hl0 hcD hr => ?_)
  have hE : zok layX ad (xtX ad tt) E cX9_readLines 3 RX9 1 := hE
  show Z layX ad E 3 (zFin layX ad E zvi) 0 [(0, .ref (ad 3)), (1, .ref (ad 1))] [] (p_X9_readLines)
  unfold p_X9_readLines
  refine z_iconst (pc := 0) hE dX9_readLines_0 q_iconst_0 ?_
  refine z_istore_n (L' := [(2, .int ((0 : Int32))), (0, .ref (ad 3)), (1, .ref (ad 1))]) (pc := 1) hE 2 rfl (by decide) rfl dX9_readLines_1 ?_
  refine z_sub (L' := [(0, .ref (ad 3)), (1, .ref (ad 1)), (2, .int ((0 : Int32)))]) [1, 2, 0] rfl ?_
  refine z_loop (V := Int32) (X := Unit) (hd := 2) (ex := 96) (Lh := fun v1 => [(0, .ref (ad 3)), (1, .ref (ad 1)), (2, .int v1)]) (Lx := fun e4 => []) (fun rc3 k2 hrc3 hk2 v1 => ?_) zNF ((0 : Int32)) _ (fun e4 => ?_)
  · unfold p_X9_readLines_b2
    refine z_iload_n (pc := 2) hE 2 2 rfl rfl dX9_readLines_2 ?_
    refine z_bipush (pc := 3) hE dX9_readLines_3 q_bipush_8 ?_
    refine z_icmp_ge (pc := 5) hE 96 rfl dX9_readLines_5 ?_ ?_
    · exact z_sub [] rfl (hk2 ())
    · refine z_aload_n (pc := 8) hE 0 0 rfl rfl dX9_readLines_8 ?_
      refine z_getr (pc := 9) hE fk_RX9_18 lX_3 rfl dX9_readLines_9 ?_
      refine z_iconst (pc := 12) hE dX9_readLines_12 q_iconst_2 ?_
      refine z_iload_n (pc := 13) hE 2 2 rfl rfl dX9_readLines_13 ?_
      refine z_imul (pc := 14) hE dX9_readLines_14 ?_
      refine z_aload_n (pc := 15) hE 1 1 rfl rfl dX9_readLines_15 ?_
      refine z_iconst (pc := 16) hE dX9_readLines_16 q_iconst_0 ?_
      refine z_bipush (pc := 17) hE dX9_readLines_17 q_bipush_9 ?_
      refine z_callVi (pc := 19) (st := [.int (((2 : Int32)) * v1), .ref (ad 6)]) [.int ((0 : Int32)), .int ((9 : Int32))] hE kk_RX9_47 (c_X8_digit ((0 : Int32)) ((9 : Int32))) lX_1 rfl rfl rfl (Nat.le_of_ble_eq_true rfl) (by decide) dX9_readLines_19 (fun x5 => ?_)
      refine z_iast (pc := 22) hE lX_6 dX9_readLines_22 ?_
      refine z_aload_n (pc := 23) hE 0 0 rfl rfl dX9_readLines_23 ?_
      refine z_getr (pc := 24) hE fk_RX9_18 lX_3 rfl dX9_readLines_24 ?_
      refine z_iconst (pc := 27) hE dX9_readLines_27 q_iconst_2 ?_
      refine z_iload_n (pc := 28) hE 2 2 rfl rfl dX9_readLines_28 ?_
      refine z_imul (pc := 29) hE dX9_readLines_29 ?_
      refine z_iald (pc := 30) hE lX_6 dX9_readLines_30 (fun x6 => ?_)
      refine z_if_ge (pc := 31) hE 36 rfl dX9_readLines_31 ?_ ?_
      · refine z_aload_n (pc := 36) hE 0 0 rfl rfl dX9_readLines_36 ?_
        refine z_getr (pc := 37) hE fk_RX9_18 lX_3 rfl dX9_readLines_37 ?_
        refine z_iconst (pc := 40) hE dX9_readLines_40 q_iconst_2 ?_
        refine z_iload_n (pc := 41) hE 2 2 rfl rfl dX9_readLines_41 ?_
        refine z_imul (pc := 42) hE dX9_readLines_42 ?_
        refine z_iconst (pc := 43) hE dX9_readLines_43 q_iconst_1 ?_
        refine z_iadd (pc := 44) hE dX9_readLines_44 ?_
        refine z_aload_n (pc := 45) hE 1 1 rfl rfl dX9_readLines_45 ?_
        refine z_iconst (pc := 46) hE dX9_readLines_46 q_iconst_0 ?_
        refine z_bipush (pc := 47) hE dX9_readLines_47 q_bipush_7 ?_
        refine z_callVi (pc := 49) (st := [.int ((((2 : Int32)) * v1) + ((1 : Int32))), .ref (ad 6)]) [.int ((0 : Int32)), .int ((7 : Int32))] hE kk_RX9_47 (c_X8_digit ((0 : Int32)) ((7 : Int32))) lX_1 rfl rfl rfl (Nat.le_of_ble_eq_true rfl) (by decide) dX9_readLines_49 (fun x7 => ?_)
        refine z_iast (pc := 52) hE lX_6 dX9_readLines_52 ?_
        refine z_aload_n (pc := 53) hE 0 0 rfl rfl dX9_readLines_53 ?_
        refine z_getr (pc := 54) hE fk_RX9_18 lX_3 rfl dX9_readLines_54 ?_
        refine z_iconst (pc := 57) hE dX9_readLines_57 q_iconst_2 ?_
        refine z_iload_n (pc := 58) hE 2 2 rfl rfl dX9_readLines_58 ?_
        refine z_imul (pc := 59) hE dX9_readLines_59 ?_
        refine z_iconst (pc := 60) hE dX9_readLines_60 q_iconst_1 ?_
        refine z_iadd (pc := 61) hE dX9_readLines_61 ?_
        refine z_iald (pc := 62) hE lX_6 dX9_readLines_62 (fun x8 => ?_)
        refine z_if_ge (pc := 63) hE 68 rfl dX9_readLines_63 ?_ ?_
        · refine z_aload_n (pc := 68) hE 1 1 rfl rfl dX9_readLines_68 ?_
          refine z_callVi (pc := 69) (st := []) [] hE kk_RX9_34 (c_X8_isRead) lX_1 rfl rfl rfl (Nat.le_of_ble_eq_true rfl) (by decide) dX9_readLines_69 (fun x9 => ?_)
          refine z_if_eq (pc := 72) hE 79 rfl dX9_readLines_72 ?_ ?_
          · refine z_aload_n (pc := 79) hE 1 1 rfl rfl dX9_readLines_79 ?_
            refine z_bipush (pc := 80) hE dX9_readLines_80 q_bipush_59 ?_
            refine z_callVi (pc := 82) (st := []) [.int ((59 : Int32))] hE kk_RX9_51 (c_X8_take ((59 : Int32))) lX_1 rfl rfl rfl (Nat.le_of_ble_eq_true rfl) (by decide) dX9_readLines_82 (fun x10 => ?_)
            refine z_if_ne (pc := 85) hE 90 rfl dX9_readLines_85 ?_ ?_
            · refine z_iinc (L' := [(2, .int (v1 + (1 : Int32))), (0, .ref (ad 3)), (1, .ref (ad 1))]) (pc := 90) hE 2 rfl (zinc q_iconst_1) (by decide) rfl dX9_readLines_90 ?_
              refine z_goto (pc := 93) hE 2 rfl dX9_readLines_93 ?_
              exact z_sub [1, 2, 0] rfl (hrc3 (v1 + (1 : Int32)))
            · refine z_iconst (pc := 88) hE dX9_readLines_88 q_iconst_m1 ?_
              exact z_ireturn (pc := 89) hE hr dX9_readLines_89
          · refine z_iload_n (pc := 75) hE 2 2 rfl rfl dX9_readLines_75 ?_
            refine z_iconst (pc := 76) hE dX9_readLines_76 q_iconst_1 ?_
            refine z_iadd (pc := 77) hE dX9_readLines_77 ?_
            exact z_ireturn (pc := 78) hE hr dX9_readLines_78
        · refine z_iconst (pc := 66) hE dX9_readLines_66 q_iconst_m1 ?_
          exact z_ireturn (pc := 67) hE hr dX9_readLines_67
      · refine z_iconst (pc := 34) hE dX9_readLines_34 q_iconst_m1 ?_
        exact z_ireturn (pc := 35) hE hr dX9_readLines_35
  · refine z_iconst (pc := 96) hE dX9_readLines_96 q_iconst_m1 ?_
    exact z_ireturn (pc := 97) hE hr dX9_readLines_97
set_option maxRecDepth 100000 in
set_option maxHeartbeats 4000000 in
theorem c_X9_compare {l : Launch} {ad : Nat → Nat} {ca : FieldType → ClassId} {D : va_G} {tt : Nat → Nat}  : zC l yX9_compare cX9_compare 4 none 0 layX ad ca D (xtX ad tt) [.ref (ad 3)] zvn (p_X9_compare) := by
  refine z_enter (by decide) (Nat.le_of_ble_eq_true rfl) (fun E hE hl0 hcD hr => ?_)
  have hE : zok layX ad (xtX ad tt) E cX9_compare 4 RX9 0 := hE
  show Z layX ad E 4 (zFin layX ad E zvn) 0 [(0, .ref (ad 3))] [] (p_X9_compare)
  unfold p_X9_compare
  refine z_iconst (pc := 0) hE dX9_compare_0 q_iconst_0 ?_
  refine z_istore_n (L' := [(1, .int ((0 : Int32))), (0, .ref (ad 3))]) (pc := 1) hE 1 rfl (by decide) rfl dX9_compare_1 ?_
  refine z_sub (L' := [(0, .ref (ad 3)), (1, .int ((0 : Int32)))]) [1, 0] rfl ?_
  refine z_loop (V := Int32) (X := Unit) (hd := 2) (ex := 148) (Lh := fun v1 => [(0, .ref (ad 3)), (1, .int v1)]) (Lx := fun e4 => []) (fun rc3 k2 hrc3 hk2 v1 => ?_) zNF ((0 : Int32)) _ (fun e4 => ?_)
  · unfold p_X9_compare_b2
    refine z_iload_n (pc := 2) hE 1 1 rfl rfl dX9_compare_2 ?_
    refine z_aload_n (pc := 3) hE 0 0 rfl rfl dX9_compare_3 ?_
    refine z_geti (pc := 4) hE fk_RX9_30 lX_3 rfl dX9_compare_4 (fun x5 => ?_)
    refine z_icmp_ge (pc := 7) hE 148 rfl dX9_compare_7 ?_ ?_
    · exact z_sub [] rfl (hk2 ())
    · refine z_aload_n (pc := 10) hE 0 0 rfl rfl dX9_compare_10 ?_
      refine z_getr (pc := 11) hE fk_RX9_21 lX_3 rfl dX9_compare_11 ?_
      refine z_iload_n (pc := 14) hE 1 1 rfl rfl dX9_compare_14 ?_
      refine z_iconst (pc := 15) hE dX9_compare_15 q_iconst_0 ?_
      refine z_iast (pc := 16) hE lX_7 dX9_compare_16 ?_
      refine z_aload_n (pc := 17) hE 0 0 rfl rfl dX9_compare_17 ?_
      refine z_getr (pc := 18) hE fk_RX9_24 lX_3 rfl dX9_compare_18 ?_
      refine z_iload_n (pc := 21) hE 1 1 rfl rfl dX9_compare_21 ?_
      refine z_iconst (pc := 22) hE dX9_compare_22 q_iconst_0 ?_
      refine z_iast (pc := 23) hE lX_8 dX9_compare_23 ?_
      refine z_aload_n (pc := 24) hE 0 0 rfl rfl dX9_compare_24 ?_
      refine z_getr (pc := 25) hE fk_RX9_27 lX_3 rfl dX9_compare_25 ?_
      refine z_iload_n (pc := 28) hE 1 1 rfl rfl dX9_compare_28 ?_
      refine z_iconst (pc := 29) hE dX9_compare_29 q_iconst_0 ?_
      refine z_iast (pc := 30) hE lX_9 dX9_compare_30 ?_
      refine z_iconst (pc := 31) hE dX9_compare_31 q_iconst_0 ?_
      refine z_istore_n (L' := [(2, .int ((0 : Int32))), (0, .ref (ad 3)), (1, .int v1)]) (pc := 32) hE 2 rfl (by decide) rfl dX9_compare_32 ?_
      refine z_sub (L' := [(0, .ref (ad 3)), (1, .int v1), (2, .int ((0 : Int32)))]) [1, 2, 0] rfl ?_
      refine z_loop (V := Int32) (X := Unit) (hd := 33) (ex := 142) (Lh := fun v6 => [(0, .ref (ad 3)), (1, .int v1), (2, .int v6)]) (Lx := fun e9 => [(0, .ref (ad 3)), (1, .int v1)]) (fun rc8 k7 hrc8 hk7 v6 => ?_) zNF ((0 : Int32)) _ (fun e9 => ?_)
      · unfold p_X9_compare_b33
        refine z_iload_n (pc := 33) hE 2 2 rfl rfl dX9_compare_33 ?_
        refine z_aload_n (pc := 34) hE 0 0 rfl rfl dX9_compare_34 ?_
        refine z_geti (pc := 35) hE fk_RX9_30 lX_3 rfl dX9_compare_35 (fun x10 => ?_)
        refine z_icmp_ge (pc := 38) hE 142 rfl dX9_compare_38 ?_ ?_
        · exact z_sub [0, 1] rfl (hk7 ())
        · refine z_aload_n (pc := 41) hE 0 0 rfl rfl dX9_compare_41 ?_
          refine z_getr (pc := 42) hE fk_RX9_15 lX_3 rfl dX9_compare_42 ?_
          refine z_iload_n (pc := 45) hE 2 2 rfl rfl dX9_compare_45 ?_
          refine z_iald (pc := 46) hE lX_5 dX9_compare_46 (fun x11 => ?_)
          refine z_aload_n (pc := 47) hE 0 0 rfl rfl dX9_compare_47 ?_
          refine z_getr (pc := 48) hE fk_RX9_15 lX_3 rfl dX9_compare_48 ?_
          refine z_iload_n (pc := 51) hE 1 1 rfl rfl dX9_compare_51 ?_
          refine z_iald (pc := 52) hE lX_5 dX9_compare_52 (fun x12 => ?_)
          refine z_join (Y := Unit) (pcJ := 136) (Lj := fun y13 => [(0, .ref (ad 3)), (1, .int v1), (2, .int v6)]) (sj := fun y13 => []) (fun y13 => ?_) (fun j14 hj14 => ?_)
          · refine z_iinc (L' := [(2, .int (v6 + (1 : Int32))), (0, .ref (ad 3)), (1, .int v1)]) (pc := 136) hE 2 rfl (zinc q_iconst_1) (by decide) rfl dX9_compare_136 ?_
            refine z_goto (pc := 139) hE 33 rfl dX9_compare_139 ?_
            exact z_sub [1, 2, 0] rfl (hrc8 (v6 + (1 : Int32)))
          refine z_icmp_ne (pc := 53) hE 136 rfl dX9_compare_53 ?_ ?_
          · exact z_sub [0, 1, 2] rfl (hj14 ())
          · refine z_aload_n (pc := 56) hE 0 0 rfl rfl dX9_compare_56 ?_
            refine z_getr (pc := 57) hE fk_RX9_9 lX_3 rfl dX9_compare_57 ?_
            refine z_iload_n (pc := 60) hE 2 2 rfl rfl dX9_compare_60 ?_
            refine z_iald (pc := 61) hE lX_4 dX9_compare_61 (fun x15 => ?_)
            refine z_aload_n (pc := 62) hE 0 0 rfl rfl dX9_compare_62 ?_
            refine z_getr (pc := 63) hE fk_RX9_9 lX_3 rfl dX9_compare_63 ?_
            refine z_iload_n (pc := 66) hE 1 1 rfl rfl dX9_compare_66 ?_
            refine z_iald (pc := 67) hE lX_4 dX9_compare_67 (fun x16 => ?_)
            refine z_isub (pc := 68) hE dX9_compare_68 ?_
            refine z_istore_n (L' := [(3, .int (x15 - x16)), (0, .ref (ad 3)), (1, .int v1), (2, .int v6)]) (pc := 69) hE 3 rfl (by decide) rfl dX9_compare_69 ?_
            refine z_aload_n (pc := 70) hE 1 0 rfl rfl dX9_compare_70 ?_
            refine z_getr (pc := 71) hE fk_RX9_21 lX_3 rfl dX9_compare_71 ?_
            refine z_iload_n (pc := 74) hE 2 1 rfl rfl dX9_compare_74 ?_
            refine z_dup2 (pc := 75) hE dX9_compare_75 rfl rfl ?_
            refine z_iald (pc := 76) hE lX_7 dX9_compare_76 (fun x17 => ?_)
            refine z_iload_n (pc := 77) hE 0 3 rfl rfl dX9_compare_77 ?_
            refine z_iconst (pc := 78) hE dX9_compare_78 q_iconst_m1 ?_
            refine z_join (Y := Int32) (pcJ := 94) (Lj := fun y18 => [(0, .ref (ad 3)), (1, .int v1), (2, .int v6), (3, .int (x15 - x16))]) (sj := fun y18 => [.int y18, .int x17, .int v1, .ref (ad 7)]) (fun y18 => ?_) (fun j19 hj19 => ?_)
            · refine z_ior (pc := 94) hE dX9_compare_94 ?_
              refine z_iast (pc := 95) hE lX_7 dX9_compare_95 ?_
              refine z_aload_n (pc := 96) hE 0 0 rfl rfl dX9_compare_96 ?_
              refine z_getr (pc := 97) hE fk_RX9_24 lX_3 rfl dX9_compare_97 ?_
              refine z_iload_n (pc := 100) hE 1 1 rfl rfl dX9_compare_100 ?_
              refine z_dup2 (pc := 101) hE dX9_compare_101 rfl rfl ?_
              refine z_iald (pc := 102) hE lX_8 dX9_compare_102 (fun x20 => ?_)
              refine z_iload_n (pc := 103) hE 3 3 rfl rfl dX9_compare_103 ?_
              refine z_join (Y := Int32) (pcJ := 114) (Lj := fun y21 => [(0, .ref (ad 3)), (1, .int v1), (2, .int v6), (3, .int (x15 - x16))]) (sj := fun y21 => [.int y21, .int x20, .int v1, .ref (ad 8)]) (fun y21 => ?_) (fun j22 hj22 => ?_)
              · refine z_ior (pc := 114) hE dX9_compare_114 ?_
                refine z_iast (pc := 115) hE lX_8 dX9_compare_115 ?_
                refine z_aload_n (pc := 116) hE 0 0 rfl rfl dX9_compare_116 ?_
                refine z_getr (pc := 117) hE fk_RX9_27 lX_3 rfl dX9_compare_117 ?_
                refine z_iload_n (pc := 120) hE 1 1 rfl rfl dX9_compare_120 ?_
                refine z_dup2 (pc := 121) hE dX9_compare_121 rfl rfl ?_
                refine z_iald (pc := 122) hE lX_9 dX9_compare_122 (fun x23 => ?_)
                refine z_iload_n (pc := 123) hE 3 3 rfl rfl dX9_compare_123 ?_
                refine z_join (Y := Int32) (pcJ := 134) (Lj := fun y24 => [(0, .ref (ad 3)), (1, .int v1), (2, .int v6)]) (sj := fun y24 => [.int y24, .int x23, .int v1, .ref (ad 9)]) (fun y24 => ?_) (fun j25 hj25 => ?_)
                · refine z_ior (pc := 134) hE dX9_compare_134 ?_
                  refine z_iast (pc := 135) hE lX_9 dX9_compare_135 ?_
                  exact z_sub [0, 1, 2] rfl (hj14 ())
                refine z_if_le (pc := 124) hE 133 rfl dX9_compare_124 ?_ ?_
                · refine z_iconst (pc := 133) hE dX9_compare_133 q_iconst_0 ?_
                  exact z_sub [0, 1, 2] rfl (hj25 ((0 : Int32)))
                · refine z_iconst (pc := 127) hE dX9_compare_127 q_iconst_1 ?_
                  refine z_iload_n (pc := 128) hE 2 2 rfl rfl dX9_compare_128 ?_
                  refine z_ishl (pc := 129) hE dX9_compare_129 ?_
                  refine z_goto (pc := 130) hE 134 rfl dX9_compare_130 ?_
                  exact z_sub [0, 1, 2] rfl (hj25 (((1 : Int32)) <<< (v6 &&& 31)))
              refine z_if_ge (pc := 104) hE 113 rfl dX9_compare_104 ?_ ?_
              · refine z_iconst (pc := 113) hE dX9_compare_113 q_iconst_0 ?_
                exact z_sub [0, 1, 2, 3] rfl (hj22 ((0 : Int32)))
              · refine z_iconst (pc := 107) hE dX9_compare_107 q_iconst_1 ?_
                refine z_iload_n (pc := 108) hE 2 2 rfl rfl dX9_compare_108 ?_
                refine z_ishl (pc := 109) hE dX9_compare_109 ?_
                refine z_goto (pc := 110) hE 114 rfl dX9_compare_110 ?_
                exact z_sub [0, 1, 2, 3] rfl (hj22 (((1 : Int32)) <<< (v6 &&& 31)))
            refine z_join (Y := Unit) (pcJ := 93) (Lj := fun y26 => [(0, .ref (ad 3)), (1, .int v1), (2, .int v6), (3, .int (x15 - x16))]) (sj := fun y26 => [.int x17, .int v1, .ref (ad 7)]) (fun y26 => ?_) (fun j27 hj27 => ?_)
            · refine z_iconst (pc := 93) hE dX9_compare_93 q_iconst_0 ?_
              exact z_sub [0, 1, 2, 3] rfl (hj19 ((0 : Int32)))
            refine z_icmp_lt (pc := 79) hE 93 rfl dX9_compare_79 ?_ ?_
            · exact z_sub [1, 2, 3, 0] rfl (hj27 ())
            · refine z_iload_n (pc := 82) hE 0 3 rfl rfl dX9_compare_82 ?_
              refine z_iconst (pc := 83) hE dX9_compare_83 q_iconst_1 ?_
              refine z_icmp_gt (pc := 84) hE 93 rfl dX9_compare_84 ?_ ?_
              · exact z_sub [1, 2, 3, 0] rfl (hj27 ())
              · refine z_iconst (pc := 87) hE dX9_compare_87 q_iconst_1 ?_
                refine z_iload_n (pc := 88) hE 3 2 rfl rfl dX9_compare_88 ?_
                refine z_ishl (pc := 89) hE dX9_compare_89 ?_
                refine z_goto (pc := 90) hE 94 rfl dX9_compare_90 ?_
                exact z_sub [1, 2, 3, 0] rfl (hj19 (((1 : Int32)) <<< (v6 &&& 31)))
      · refine z_iinc (L' := [(1, .int (v1 + (1 : Int32))), (0, .ref (ad 3))]) (pc := 142) hE 1 rfl (zinc q_iconst_1) (by decide) rfl dX9_compare_142 ?_
        refine z_goto (pc := 145) hE 2 rfl dX9_compare_145 ?_
        exact z_sub [1, 0] rfl (hrc3 (v1 + (1 : Int32)))
  · exact z_return (pc := 148) hE hr dX9_compare_148
set_option maxRecDepth 100000 in
set_option maxHeartbeats 4000000 in
theorem c_X9_read {l : Launch} {ad : Nat → Nat} {ca : FieldType → ClassId} {D : va_G} {tt : Nat → Nat}  : zC l yX9_read cX9_read 4 (some .int) 2 layX ad ca D (xtX ad tt) [.ref (ad 3), .ref (ad 1)] zvi (p_X9_read) := by
  refine z_enter (by decide) (Nat.le_of_ble_eq_true rfl) (fun E hE hl0 hcD hr => ?_)
  have hE : zok layX ad (xtX ad tt) E cX9_read 4 RX9 2 := hE
  show Z layX ad E 4 (zFin layX ad E zvi) 0 [(0, .ref (ad 3)), (1, .ref (ad 1))] [] (p_X9_read)
  unfold p_X9_read
  refine z_aload_n (pc := 0) hE 1 1 rfl rfl dX9_read_0 ?_
  refine z_callVi (pc := 1) (st := []) [] hE kk_RX9_34 (c_X8_isRead) lX_1 rfl rfl rfl (Nat.le_of_ble_eq_true rfl) (by decide) dX9_read_1 (fun x1 => ?_)
  refine z_join (Y := Int32) (pcJ := 16) (Lj := fun y2 => [(0, .ref (ad 3))]) (sj := fun y2 => [.int y2]) (fun y2 => ?_) (fun j3 hj3 => ?_)
  · refine z_istore_n (L' := [(2, .int y2), (0, .ref (ad 3))]) (pc := 16) hE 2 rfl (by decide) rfl dX9_read_16 ?_
    refine z_iload_n (pc := 17) hE 0 2 rfl rfl dX9_read_17 ?_
    refine z_if_lt (pc := 18) hE 76 rfl dX9_read_18 ?_ ?_
    · refine z_iload_n (pc := 76) hE 0 2 rfl rfl dX9_read_76 ?_
      exact z_ireturn (pc := 77) hE hr dX9_read_77
    · refine z_aload_n (pc := 21) hE 1 0 rfl rfl dX9_read_21 ?_
      refine z_iload_n (pc := 22) hE 0 2 rfl rfl dX9_read_22 ?_
      refine z_puti (pc := 23) hE fk_RX9_30 lX_3 rfl dX9_read_23 ?_
      refine z_iconst (pc := 26) hE dX9_read_26 q_iconst_0 ?_
      refine z_istore_n (L' := [(3, .int ((0 : Int32))), (2, .int y2), (0, .ref (ad 3))]) (pc := 27) hE 3 rfl (by decide) rfl dX9_read_27 ?_
      refine z_sub (L' := [(0, .ref (ad 3)), (2, .int y2), (3, .int ((0 : Int32)))]) [2, 1, 0] rfl ?_
      refine z_loop (V := Int32) (X := Unit) (hd := 28) (ex := 72) (Lh := fun v4 => [(0, .ref (ad 3)), (2, .int y2), (3, .int v4)]) (Lx := fun e7 => [(0, .ref (ad 3)), (2, .int y2)]) (fun rc6 k5 hrc6 hk5 v4 => ?_) zNF ((0 : Int32)) _ (fun e7 => ?_)
      · unfold p_X9_read_b28
        refine z_iload_n (pc := 28) hE 2 3 rfl rfl dX9_read_28 ?_
        refine z_aload_n (pc := 29) hE 0 0 rfl rfl dX9_read_29 ?_
        refine z_geti (pc := 30) hE fk_RX9_30 lX_3 rfl dX9_read_30 (fun x8 => ?_)
        refine z_icmp_ge (pc := 33) hE 72 rfl dX9_read_33 ?_ ?_
        · exact z_sub [0, 1] rfl (hk5 ())
        · refine z_aload_n (pc := 36) hE 0 0 rfl rfl dX9_read_36 ?_
          refine z_getr (pc := 37) hE fk_RX9_9 lX_3 rfl dX9_read_37 ?_
          refine z_iload_n (pc := 40) hE 2 3 rfl rfl dX9_read_40 ?_
          refine z_aload_n (pc := 41) hE 0 0 rfl rfl dX9_read_41 ?_
          refine z_getr (pc := 42) hE fk_RX9_18 lX_3 rfl dX9_read_42 ?_
          refine z_iconst (pc := 45) hE dX9_read_45 q_iconst_2 ?_
          refine z_iload_n (pc := 46) hE 2 3 rfl rfl dX9_read_46 ?_
          refine z_imul (pc := 47) hE dX9_read_47 ?_
          refine z_iald (pc := 48) hE lX_6 dX9_read_48 (fun x9 => ?_)
          refine z_iast (pc := 49) hE lX_4 dX9_read_49 ?_
          refine z_aload_n (pc := 50) hE 0 0 rfl rfl dX9_read_50 ?_
          refine z_getr (pc := 51) hE fk_RX9_15 lX_3 rfl dX9_read_51 ?_
          refine z_iload_n (pc := 54) hE 2 3 rfl rfl dX9_read_54 ?_
          refine z_aload_n (pc := 55) hE 0 0 rfl rfl dX9_read_55 ?_
          refine z_getr (pc := 56) hE fk_RX9_18 lX_3 rfl dX9_read_56 ?_
          refine z_iconst (pc := 59) hE dX9_read_59 q_iconst_2 ?_
          refine z_iload_n (pc := 60) hE 2 3 rfl rfl dX9_read_60 ?_
          refine z_imul (pc := 61) hE dX9_read_61 ?_
          refine z_iconst (pc := 62) hE dX9_read_62 q_iconst_1 ?_
          refine z_iadd (pc := 63) hE dX9_read_63 ?_
          refine z_iald (pc := 64) hE lX_6 dX9_read_64 (fun x10 => ?_)
          refine z_iast (pc := 65) hE lX_5 dX9_read_65 ?_
          refine z_iinc (L' := [(3, .int (v4 + (1 : Int32))), (0, .ref (ad 3)), (2, .int y2)]) (pc := 66) hE 2 rfl (zinc q_iconst_1) (by decide) rfl dX9_read_66 ?_
          refine z_goto (pc := 69) hE 28 rfl dX9_read_69 ?_
          exact z_sub [1, 2, 0] rfl (hrc6 (v4 + (1 : Int32)))
      · refine z_aload_n (pc := 72) hE 0 0 rfl rfl dX9_read_72 ?_
        refine z_callVv (pc := 73) (st := []) [] hE kk_RX9_44 (c_X9_compare) lX_3 rfl rfl rfl (Nat.le_of_ble_eq_true rfl) (by decide) dX9_read_73 (fun x11 => ?_)
        refine z_iload_n (pc := 76) hE 1 2 rfl rfl dX9_read_76 ?_
        exact z_ireturn (pc := 77) hE hr dX9_read_77
  refine z_if_eq (pc := 4) hE 11 rfl dX9_read_4 ?_ ?_
  · refine z_aload_n (pc := 11) hE 0 0 rfl rfl dX9_read_11 ?_
    refine z_aload_n (pc := 12) hE 1 1 rfl rfl dX9_read_12 ?_
    refine z_callVi (pc := 13) (st := []) [.ref (ad 1)] hE kk_RX9_40 (c_X9_readLines) lX_3 rfl rfl rfl (Nat.le_of_ble_eq_true rfl) (by decide) dX9_read_13 (fun x12 => ?_)
    exact z_sub [0] rfl (hj3 x12)
  · refine z_iconst (pc := 7) hE dX9_read_7 q_iconst_0 ?_
    refine z_goto (pc := 8) hE 16 rfl dX9_read_8 ?_
    exact z_sub [0] rfl (hj3 ((0 : Int32)))
set_option maxRecDepth 100000 in
set_option maxHeartbeats 4000000 in
theorem c_X10_readOne {l : Launch} {ad : Nat → Nat} {ca : FieldType → ClassId} {D : va_G} {tt : Nat → Nat} (a2 : Int32) : zC l yX10_readOne cX10_readOne 4 (some .boolean) 1 layX ad ca D (xtX ad tt) [.ref (ad 10), .ref (ad 1), .int a2] zvi (p_X10_readOne a2) := by
  refine z_enter (by decide) (Nat.le_of_ble_eq_true rfl) (fun E hE hl0 hcD hr => ?_)
  have hE : zok layX ad (xtX ad tt) E cX10_readOne 4 RX10 1 := hE
  show Z layX ad E 4 (zFin layX ad E zvi) 0 [(0, .ref (ad 10)), (1, .ref (ad 1)), (2, .int a2)] [] (p_X10_readOne a2)
  unfold p_X10_readOne
  refine z_aload_n (pc := 0) hE 1 1 rfl rfl dX10_readOne_0 ?_
  refine z_bipush (pc := 1) hE dX10_readOne_1 q_bipush_45 ?_
  refine z_callVi (pc := 3) (st := []) [.int ((45 : Int32))] hE kk_RX10_33 (c_X8_take ((45 : Int32))) lX_1 rfl rfl rfl (Nat.le_of_ble_eq_true rfl) (by decide) dX10_readOne_3 (fun x1 => ?_)
  refine z_istore_n (L' := [(3, .int x1), (0, .ref (ad 10)), (1, .ref (ad 1)), (2, .int a2)]) (pc := 6) hE 3 rfl (by decide) rfl dX10_readOne_6 ?_
  refine z_aload_n (pc := 7) hE 1 0 rfl rfl dX10_readOne_7 ?_
  refine z_getr (pc := 8) hE fk_RX10_24 lX_10 rfl dX10_readOne_8 ?_
  refine z_iconst (pc := 11) hE dX10_readOne_11 q_iconst_2 ?_
  refine z_iload_n (pc := 12) hE 3 2 rfl rfl dX10_readOne_12 ?_
  refine z_imul (pc := 13) hE dX10_readOne_13 ?_
  refine z_iload_n (pc := 14) hE 0 3 rfl rfl dX10_readOne_14 ?_
  refine z_join (Y := Int32) (pcJ := 29) (Lj := fun y2 => [(0, .ref (ad 10)), (1, .ref (ad 1)), (2, .int a2), (3, .int x1)]) (sj := fun y2 => [.int y2, .int (((2 : Int32)) * a2), .ref (ad 15)]) (fun y2 => ?_) (fun j3 hj3 => ?_)
  · refine z_iast (pc := 29) hE lX_15 dX10_readOne_29 ?_
    refine z_iload_n (pc := 30) hE 3 3 rfl rfl dX10_readOne_30 ?_
    refine z_join (Y := Unit) (pcJ := 45) (Lj := fun y4 => [(0, .ref (ad 10)), (2, .int a2), (3, .int x1)]) (sj := fun y4 => []) (fun y4 => ?_) (fun j5 hj5 => ?_)
    · refine z_aload_n (pc := 45) hE 0 0 rfl rfl dX10_readOne_45 ?_
      refine z_getr (pc := 46) hE fk_RX10_24 lX_10 rfl dX10_readOne_46 ?_
      refine z_iconst (pc := 49) hE dX10_readOne_49 q_iconst_2 ?_
      refine z_iload_n (pc := 50) hE 1 2 rfl rfl dX10_readOne_50 ?_
      refine z_imul (pc := 51) hE dX10_readOne_51 ?_
      refine z_iconst (pc := 52) hE dX10_readOne_52 q_iconst_1 ?_
      refine z_iadd (pc := 53) hE dX10_readOne_53 ?_
      refine z_iconst (pc := 54) hE dX10_readOne_54 q_iconst_0 ?_
      refine z_iast (pc := 55) hE lX_15 dX10_readOne_55 ?_
      refine z_iload_n (pc := 56) hE 2 3 rfl rfl dX10_readOne_56 ?_
      exact z_zreturn (pc := 57) hE hr dX10_readOne_57
    refine z_if_ne (pc := 31) hE 45 rfl dX10_readOne_31 ?_ ?_
    · exact z_sub [0, 2, 3] rfl (hj5 ())
    · refine z_aload_n (pc := 34) hE 0 0 rfl rfl dX10_readOne_34 ?_
      refine z_getr (pc := 35) hE fk_RX10_24 lX_10 rfl dX10_readOne_35 ?_
      refine z_iconst (pc := 38) hE dX10_readOne_38 q_iconst_2 ?_
      refine z_iload_n (pc := 39) hE 2 2 rfl rfl dX10_readOne_39 ?_
      refine z_imul (pc := 40) hE dX10_readOne_40 ?_
      refine z_iald (pc := 41) hE lX_15 dX10_readOne_41 (fun x6 => ?_)
      refine z_if_ge (pc := 42) hE 58 rfl dX10_readOne_42 ?_ ?_
      · refine z_aload_n (pc := 58) hE 0 0 rfl rfl dX10_readOne_58 ?_
        refine z_getr (pc := 59) hE fk_RX10_24 lX_10 rfl dX10_readOne_59 ?_
        refine z_iconst (pc := 62) hE dX10_readOne_62 q_iconst_2 ?_
        refine z_iload_n (pc := 63) hE 2 2 rfl rfl dX10_readOne_63 ?_
        refine z_imul (pc := 64) hE dX10_readOne_64 ?_
        refine z_iconst (pc := 65) hE dX10_readOne_65 q_iconst_1 ?_
        refine z_iadd (pc := 66) hE dX10_readOne_66 ?_
        refine z_aload_n (pc := 67) hE 1 1 rfl rfl dX10_readOne_67 ?_
        refine z_iconst (pc := 68) hE dX10_readOne_68 q_iconst_1 ?_
        refine z_iconst (pc := 69) hE dX10_readOne_69 q_iconst_3 ?_
        refine z_callVi (pc := 70) (st := [.int ((((2 : Int32)) * a2) + ((1 : Int32))), .ref (ad 15)]) [.int ((1 : Int32)), .int ((3 : Int32))] hE kk_RX10_51 (c_X8_digit ((1 : Int32)) ((3 : Int32))) lX_1 rfl rfl rfl (Nat.le_of_ble_eq_true rfl) (by decide) dX10_readOne_70 (fun x7 => ?_)
        refine z_iast (pc := 73) hE lX_15 dX10_readOne_73 ?_
        refine z_aload_n (pc := 74) hE 0 0 rfl rfl dX10_readOne_74 ?_
        refine z_getr (pc := 75) hE fk_RX10_24 lX_10 rfl dX10_readOne_75 ?_
        refine z_iconst (pc := 78) hE dX10_readOne_78 q_iconst_2 ?_
        refine z_iload_n (pc := 79) hE 2 2 rfl rfl dX10_readOne_79 ?_
        refine z_imul (pc := 80) hE dX10_readOne_80 ?_
        refine z_iconst (pc := 81) hE dX10_readOne_81 q_iconst_1 ?_
        refine z_iadd (pc := 82) hE dX10_readOne_82 ?_
        refine z_iald (pc := 83) hE lX_15 dX10_readOne_83 (fun x8 => ?_)
        refine z_if_le (pc := 84) hE 91 rfl dX10_readOne_84 ?_ ?_
        · refine z_iconst (pc := 91) hE dX10_readOne_91 q_iconst_0 ?_
          exact z_zreturn (pc := 92) hE hr dX10_readOne_92
        · refine z_iconst (pc := 87) hE dX10_readOne_87 q_iconst_1 ?_
          refine z_goto (pc := 88) hE 92 rfl dX10_readOne_88 ?_
          exact z_zreturn (pc := 92) hE hr dX10_readOne_92
      · exact z_sub [0, 2, 3] rfl (hj5 ())
  refine z_if_eq (pc := 15) hE 22 rfl dX10_readOne_15 ?_ ?_
  · refine z_aload_n (pc := 22) hE 2 1 rfl rfl dX10_readOne_22 ?_
    refine z_iconst (pc := 23) hE dX10_readOne_23 q_iconst_0 ?_
    refine z_bipush (pc := 24) hE dX10_readOne_24 q_bipush_7 ?_
    refine z_callVi (pc := 26) (st := [.int (((2 : Int32)) * a2), .ref (ad 15)]) [.int ((0 : Int32)), .int ((7 : Int32))] hE kk_RX10_51 (c_X8_digit ((0 : Int32)) ((7 : Int32))) lX_1 rfl rfl rfl (Nat.le_of_ble_eq_true rfl) (by decide) dX10_readOne_26 (fun x9 => ?_)
    exact z_sub [1, 2, 3, 0] rfl (hj3 x9)
  · refine z_iconst (pc := 18) hE dX10_readOne_18 q_iconst_m1 ?_
    refine z_goto (pc := 19) hE 29 rfl dX10_readOne_19 ?_
    exact z_sub [1, 2, 3, 0] rfl (hj3 ((-1 : Int32)))
set_option maxRecDepth 100000 in
set_option maxHeartbeats 4000000 in
theorem c_X10_put {l : Launch} {ad : Nat → Nat} {ca : FieldType → ClassId} {D : va_G} {tt : Nat → Nat} (a1 : Int32) (a2 : Int32) (a3 : Int32) : zC l yX10_put cX10_put 5 none 0 layX ad ca D (xtX ad tt) [.ref (ad 10), .int a1, .int a2, .int a3] zvn (p_X10_put a1 a2 a3) := by
  refine z_enter (by decide) (Nat.le_of_ble_eq_true rfl) (fun E hE hl0 hcD hr => ?_)
  have hE : zok layX ad (xtX ad tt) E cX10_put 5 RX10 0 := hE
  show Z layX ad E 5 (zFin layX ad E zvn) 0 [(0, .ref (ad 10)), (1, .int a1), (2, .int a2), (3, .int a3)] [] (p_X10_put a1 a2 a3)
  unfold p_X10_put
  refine z_iload_n (pc := 0) hE 2 2 rfl rfl dX10_put_0 ?_
  refine z_join (Y := Int32) (pcJ := 17) (Lj := fun y1 => [(0, .ref (ad 10)), (1, .int a1), (2, .int a2), (3, .int a3)]) (sj := fun y1 => [.int y1]) (fun y1 => ?_) (fun j2 hj2 => ?_)
  · refine z_istore (L' := [(4, .int y1), (0, .ref (ad 10)), (1, .int a1), (2, .int a2), (3, .int a3)]) (pc := 17) hE (by decide) rfl dX10_put_17 ?_
    refine z_aload_n (pc := 19) hE 1 0 rfl rfl dX10_put_19 ?_
    refine z_getr (pc := 20) hE fk_RX10_9 lX_10 rfl dX10_put_20 ?_
    refine z_iload_n (pc := 23) hE 2 1 rfl rfl dX10_put_23 ?_
    refine z_iload (pc := 24) hE 0 rfl dX10_put_24 ?_
    refine z_join (Y := Int32) (pcJ := 34) (Lj := fun y3 => [(0, .ref (ad 10)), (1, .int a1), (2, .int a2), (3, .int a3), (4, .int y1)]) (sj := fun y3 => [.int y3, .int a1, .ref (ad 11)]) (fun y3 => ?_) (fun j4 hj4 => ?_)
    · refine z_iast (pc := 34) hE lX_11 dX10_put_34 ?_
      refine z_aload_n (pc := 35) hE 0 0 rfl rfl dX10_put_35 ?_
      refine z_getr (pc := 36) hE fk_RX10_15 lX_10 rfl dX10_put_36 ?_
      refine z_iload_n (pc := 39) hE 1 1 rfl rfl dX10_put_39 ?_
      refine z_iload (pc := 40) hE 4 rfl dX10_put_40 ?_
      refine z_join (Y := Int32) (pcJ := 50) (Lj := fun y5 => [(0, .ref (ad 10)), (1, .int a1), (2, .int a2), (3, .int a3), (4, .int y1)]) (sj := fun y5 => [.int y5, .int a1, .ref (ad 12)]) (fun y5 => ?_) (fun j6 hj6 => ?_)
      · refine z_iast (pc := 50) hE lX_12 dX10_put_50 ?_
        refine z_aload_n (pc := 51) hE 0 0 rfl rfl dX10_put_51 ?_
        refine z_getr (pc := 52) hE fk_RX10_18 lX_10 rfl dX10_put_52 ?_
        refine z_iload_n (pc := 55) hE 1 1 rfl rfl dX10_put_55 ?_
        refine z_iload (pc := 56) hE 4 rfl dX10_put_56 ?_
        refine z_join (Y := Int32) (pcJ := 72) (Lj := fun y7 => [(0, .ref (ad 10)), (1, .int a1), (2, .int a2), (3, .int a3), (4, .int y1)]) (sj := fun y7 => [.int y7, .int a1, .ref (ad 13)]) (fun y7 => ?_) (fun j8 hj8 => ?_)
        · refine z_iast (pc := 72) hE lX_13 dX10_put_72 ?_
          refine z_aload_n (pc := 73) hE 0 0 rfl rfl dX10_put_73 ?_
          refine z_getr (pc := 74) hE fk_RX10_21 lX_10 rfl dX10_put_74 ?_
          refine z_iload_n (pc := 77) hE 1 1 rfl rfl dX10_put_77 ?_
          refine z_iload (pc := 78) hE 4 rfl dX10_put_78 ?_
          refine z_if_eq (pc := 80) hE 93 rfl dX10_put_80 ?_ ?_
          · refine z_iconst (pc := 93) hE dX10_put_93 q_iconst_0 ?_
            refine z_iast (pc := 94) hE lX_14 dX10_put_94 ?_
            exact z_return (pc := 95) hE hr dX10_put_95
          · refine z_gets (pc := 83) hE xZ_1 w_9 dX10_put_83 ?_
            refine z_iload_n (pc := 86) hE 2 2 rfl rfl dX10_put_86 ?_
            refine z_ti (pc := 87) hE tSOUTH xT_1 dX10_put_87 (fun x9 => ?_)
            refine z_iload_n (pc := 88) hE 3 3 rfl rfl dX10_put_88 ?_
            refine z_imul (pc := 89) hE dX10_put_89 ?_
            refine z_goto (pc := 90) hE 94 rfl dX10_put_90 ?_
            refine z_iast (pc := 94) hE lX_14 dX10_put_94 ?_
            exact z_return (pc := 95) hE hr dX10_put_95
        refine z_if_eq (pc := 58) hE 71 rfl dX10_put_58 ?_ ?_
        · refine z_iconst (pc := 71) hE dX10_put_71 q_iconst_0 ?_
          exact z_sub [0, 1, 2, 3, 4] rfl (hj8 ((0 : Int32)))
        · refine z_gets (pc := 61) hE xZ_0 w_10 dX10_put_61 ?_
          refine z_iload_n (pc := 64) hE 2 2 rfl rfl dX10_put_64 ?_
          refine z_ti (pc := 65) hE tEAST xT_0 dX10_put_65 (fun x10 => ?_)
          refine z_iload_n (pc := 66) hE 3 3 rfl rfl dX10_put_66 ?_
          refine z_imul (pc := 67) hE dX10_put_67 ?_
          refine z_goto (pc := 68) hE 72 rfl dX10_put_68 ?_
          exact z_sub [0, 1, 2, 3, 4] rfl (hj8 (x10 * a3))
      refine z_if_eq (pc := 42) hE 49 rfl dX10_put_42 ?_ ?_
      · refine z_iconst (pc := 49) hE dX10_put_49 q_iconst_0 ?_
        exact z_sub [0, 1, 2, 3, 4] rfl (hj6 ((0 : Int32)))
      · refine z_iload_n (pc := 45) hE 3 3 rfl rfl dX10_put_45 ?_
        refine z_goto (pc := 46) hE 50 rfl dX10_put_46 ?_
        exact z_sub [0, 1, 2, 3, 4] rfl (hj6 a3)
    refine z_if_eq (pc := 26) hE 33 rfl dX10_put_26 ?_ ?_
    · refine z_iconst (pc := 33) hE dX10_put_33 q_iconst_m1 ?_
      exact z_sub [1, 2, 3, 4, 0] rfl (hj4 ((-1 : Int32)))
    · refine z_iload_n (pc := 29) hE 3 2 rfl rfl dX10_put_29 ?_
      refine z_goto (pc := 30) hE 34 rfl dX10_put_30 ?_
      exact z_sub [1, 2, 3, 4, 0] rfl (hj4 a2)
  refine z_join (Y := Unit) (pcJ := 16) (Lj := fun y11 => [(0, .ref (ad 10)), (1, .int a1), (2, .int a2), (3, .int a3)]) (sj := fun y11 => []) (fun y11 => ?_) (fun j12 hj12 => ?_)
  · refine z_iconst (pc := 16) hE dX10_put_16 q_iconst_0 ?_
    exact z_sub [0, 1, 2, 3] rfl (hj2 ((0 : Int32)))
  refine z_if_lt (pc := 1) hE 16 rfl dX10_put_1 ?_ ?_
  · exact z_sub [0, 1, 2, 3] rfl (hj12 ())
  · refine z_iload_n (pc := 4) hE 2 2 rfl rfl dX10_put_4 ?_
    refine z_gets (pc := 5) hE xZ_0 w_10 dX10_put_5 ?_
    refine z_tlen (pc := 8) hE tEAST rfl xT_0 dX10_put_8 ?_
    refine z_icmp_ge (pc := 9) hE 16 rfl dX10_put_9 ?_ ?_
    · exact z_sub [0, 1, 2, 3] rfl (hj12 ())
    · refine z_iconst (pc := 12) hE dX10_put_12 q_iconst_1 ?_
      refine z_goto (pc := 13) hE 17 rfl dX10_put_13 ?_
      exact z_sub [0, 1, 2, 3] rfl (hj2 ((1 : Int32)))
set_option maxRecDepth 100000 in
set_option maxHeartbeats 4000000 in
theorem c_X10_read {l : Launch} {ad : Nat → Nat} {ca : FieldType → ClassId} {D : va_G} {tt : Nat → Nat}  : zC l yX10_read cX10_read 3 (some .boolean) 2 layX ad ca D (xtX ad tt) [.ref (ad 10), .ref (ad 1)] zvi (p_X10_read) := by
  refine z_enter (by decide) (Nat.le_of_ble_eq_true rfl) (fun E hE hl0 hcD hr => ?_)
  have hE : zok layX ad (xtX ad tt) E cX10_read 3 RX10 2 := hE
  show Z layX ad E 3 (zFin layX ad E zvi) 0 [(0, .ref (ad 10)), (1, .ref (ad 1))] [] (p_X10_read)
  unfold p_X10_read
  refine z_iconst (pc := 0) hE dX10_read_0 q_iconst_0 ?_
  refine z_istore_n (L' := [(2, .int ((0 : Int32))), (0, .ref (ad 10)), (1, .ref (ad 1))]) (pc := 1) hE 2 rfl (by decide) rfl dX10_read_1 ?_
  refine z_sub (L' := [(0, .ref (ad 10)), (1, .ref (ad 1)), (2, .int ((0 : Int32)))]) [1, 2, 0] rfl ?_
  refine z_loop (V := Int32) (X := Unit) (hd := 2) (ex := 38) (Lh := fun v1 => [(0, .ref (ad 10)), (1, .ref (ad 1)), (2, .int v1)]) (Lx := fun e4 => [(0, .ref (ad 10)), (1, .ref (ad 1))]) (fun rc3 k2 hrc3 hk2 v1 => ?_) zNF ((0 : Int32)) _ (fun e4 => ?_)
  · unfold p_X10_read_b2
    refine z_iload_n (pc := 2) hE 2 2 rfl rfl dX10_read_2 ?_
    refine z_bipush (pc := 3) hE dX10_read_3 q_bipush_10 ?_
    refine z_icmp_ge (pc := 5) hE 38 rfl dX10_read_5 ?_ ?_
    · exact z_sub [0, 1] rfl (hk2 ())
    · refine z_iload_n (pc := 8) hE 2 2 rfl rfl dX10_read_8 ?_
      refine z_join (Y := Unit) (pcJ := 21) (Lj := fun y5 => [(0, .ref (ad 10)), (1, .ref (ad 1)), (2, .int v1)]) (sj := fun y5 => []) (fun y5 => ?_) (fun j6 hj6 => ?_)
      · refine z_aload_n (pc := 21) hE 0 0 rfl rfl dX10_read_21 ?_
        refine z_aload_n (pc := 22) hE 1 1 rfl rfl dX10_read_22 ?_
        refine z_iload_n (pc := 23) hE 2 2 rfl rfl dX10_read_23 ?_
        refine z_callVi (pc := 24) (st := []) [.ref (ad 1), .int v1] hE kk_RX10_39 (c_X10_readOne v1) lX_10 rfl rfl rfl (Nat.le_of_ble_eq_true rfl) (by decide) dX10_read_24 (fun x7 => ?_)
        refine z_if_ne (pc := 27) hE 32 rfl dX10_read_27 ?_ ?_
        · refine z_iinc (L' := [(2, .int (v1 + (1 : Int32))), (0, .ref (ad 10)), (1, .ref (ad 1))]) (pc := 32) hE 2 rfl (zinc q_iconst_1) (by decide) rfl dX10_read_32 ?_
          refine z_goto (pc := 35) hE 2 rfl dX10_read_35 ?_
          exact z_sub [1, 2, 0] rfl (hrc3 (v1 + (1 : Int32)))
        · refine z_iconst (pc := 30) hE dX10_read_30 q_iconst_0 ?_
          exact z_zreturn (pc := 31) hE hr dX10_read_31
      refine z_if_le (pc := 9) hE 21 rfl dX10_read_9 ?_ ?_
      · exact z_sub [0, 1, 2] rfl (hj6 ())
      · refine z_aload_n (pc := 12) hE 1 1 rfl rfl dX10_read_12 ?_
        refine z_bipush (pc := 13) hE dX10_read_13 q_bipush_47 ?_
        refine z_callVi (pc := 15) (st := []) [.int ((47 : Int32))] hE kk_RX10_33 (c_X8_take ((47 : Int32))) lX_1 rfl rfl rfl (Nat.le_of_ble_eq_true rfl) (by decide) dX10_read_15 (fun x8 => ?_)
        refine z_if_eq (pc := 18) hE 30 rfl dX10_read_18 ?_ ?_
        · refine z_iconst (pc := 30) hE dX10_read_30 q_iconst_0 ?_
          exact z_zreturn (pc := 31) hE hr dX10_read_31
        · exact z_sub [0, 1, 2] rfl (hj6 ())
  · refine z_aload_n (pc := 38) hE 1 1 rfl rfl dX10_read_38 ?_
    refine z_callVi (pc := 39) (st := []) [] hE kk_RX10_43 (c_X8_isRead) lX_1 rfl rfl rfl (Nat.le_of_ble_eq_true rfl) (by decide) dX10_read_39 (fun x9 => ?_)
    refine z_if_ne (pc := 42) hE 47 rfl dX10_read_42 ?_ ?_
    · refine z_iconst (pc := 47) hE dX10_read_47 q_iconst_0 ?_
      refine z_istore_n (L' := [(2, .int ((0 : Int32))), (0, .ref (ad 10)), (1, .ref (ad 1))]) (pc := 48) hE 2 rfl (by decide) rfl dX10_read_48 ?_
      refine z_sub (L' := [(0, .ref (ad 10)), (2, .int ((0 : Int32)))]) [1, 0] rfl ?_
      refine z_loop (V := Int32) (X := Unit) (hd := 49) (ex := 84) (Lh := fun v10 => [(0, .ref (ad 10)), (2, .int v10)]) (Lx := fun e13 => []) (fun rc12 k11 hrc12 hk11 v10 => ?_) zNF ((0 : Int32)) _ (fun e13 => ?_)
      · unfold p_X10_read_b49
        refine z_iload_n (pc := 49) hE 1 2 rfl rfl dX10_read_49 ?_
        refine z_bipush (pc := 50) hE dX10_read_50 q_bipush_10 ?_
        refine z_icmp_ge (pc := 52) hE 84 rfl dX10_read_52 ?_ ?_
        · exact z_sub [] rfl (hk11 ())
        · refine z_aload_n (pc := 55) hE 0 0 rfl rfl dX10_read_55 ?_
          refine z_iload_n (pc := 56) hE 1 2 rfl rfl dX10_read_56 ?_
          refine z_aload_n (pc := 57) hE 0 0 rfl rfl dX10_read_57 ?_
          refine z_getr (pc := 58) hE fk_RX10_24 lX_10 rfl dX10_read_58 ?_
          refine z_iconst (pc := 61) hE dX10_read_61 q_iconst_2 ?_
          refine z_iload_n (pc := 62) hE 1 2 rfl rfl dX10_read_62 ?_
          refine z_imul (pc := 63) hE dX10_read_63 ?_
          refine z_iald (pc := 64) hE lX_15 dX10_read_64 (fun x14 => ?_)
          refine z_aload_n (pc := 65) hE 0 0 rfl rfl dX10_read_65 ?_
          refine z_getr (pc := 66) hE fk_RX10_24 lX_10 rfl dX10_read_66 ?_
          refine z_iconst (pc := 69) hE dX10_read_69 q_iconst_2 ?_
          refine z_iload_n (pc := 70) hE 1 2 rfl rfl dX10_read_70 ?_
          refine z_imul (pc := 71) hE dX10_read_71 ?_
          refine z_iconst (pc := 72) hE dX10_read_72 q_iconst_1 ?_
          refine z_iadd (pc := 73) hE dX10_read_73 ?_
          refine z_iald (pc := 74) hE lX_15 dX10_read_74 (fun x15 => ?_)
          refine z_callVv (pc := 75) (st := []) [.int v10, .int x14, .int x15] hE kk_RX10_47 (c_X10_put v10 x14 x15) lX_10 rfl rfl rfl (Nat.le_of_ble_eq_true rfl) (by decide) dX10_read_75 (fun x16 => ?_)
          refine z_iinc (L' := [(2, .int (v10 + (1 : Int32))), (0, .ref (ad 10))]) (pc := 78) hE 1 rfl (zinc q_iconst_1) (by decide) rfl dX10_read_78 ?_
          refine z_goto (pc := 81) hE 49 rfl dX10_read_81 ?_
          exact z_sub [1, 0] rfl (hrc12 (v10 + (1 : Int32)))
      · refine z_iconst (pc := 84) hE dX10_read_84 q_iconst_1 ?_
        exact z_zreturn (pc := 85) hE hr dX10_read_85
    · refine z_iconst (pc := 45) hE dX10_read_45 q_iconst_0 ?_
      exact z_zreturn (pc := 46) hE hr dX10_read_46
