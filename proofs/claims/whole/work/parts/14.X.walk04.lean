set_option maxRecDepth 100000 in
set_option maxHeartbeats 4000000 in
theorem c_X11_mark {l : Launch} {ad : Nat → Nat} {ca : FieldType → ClassId} {D : va_G} {tt : Nat → Nat} (a1 : Int32) (a2 : Int32) (a3 : Int32) : zC l yX11_mark cX11_mark 4 (some .int) 1 layX ad ca D (xtX ad tt) [.ref (ad 0), .int a1, .int a2, .int a3] zvi (p_X11_mark a1 a2 a3) := by
  refine z_enter (by decide) (Nat.le_of_ble_eq_true rfl) (fun E hE hl0 hcD hr => ?_)
  have hE : zok layX ad (xtX ad tt) E cX11_mark 4 RX11 1 := hE
  show Z layX ad E 4 (zFin layX ad E zvi) 0 [(0, .ref (ad 0)), (1, .int a1), (2, .int a2), (3, .int a3)] [] (p_X11_mark a1 a2 a3)
  unfold p_X11_mark
  refine z_aload_n (pc := 0) hE 0 0 rfl rfl dX11_mark_0 ?_
  refine z_getr (pc := 1) hE fk_RX11_19 lX_0 rfl dX11_mark_1 ?_
  refine z_iload_n (pc := 4) hE 1 1 rfl rfl dX11_mark_4 ?_
  refine z_callVi (pc := 5) (st := []) [.int a1] hE kk_RX11_136 (c_X9_has a1) lX_3 rfl rfl rfl (Nat.le_of_ble_eq_true rfl) (by decide) dX11_mark_5 (fun x1 => ?_)
  refine z_if_eq (pc := 8) hE 42 rfl dX11_mark_8 ?_ ?_
  · refine z_iconst (pc := 42) hE dX11_mark_42 q_iconst_m1 ?_
    exact z_ireturn (pc := 43) hE hr dX11_mark_43
  · refine z_iload_n (pc := 11) hE 2 2 rfl rfl dX11_mark_11 ?_
    refine z_if_lt (pc := 12) hE 42 rfl dX11_mark_12 ?_ ?_
    · refine z_iconst (pc := 42) hE dX11_mark_42 q_iconst_m1 ?_
      exact z_ireturn (pc := 43) hE hr dX11_mark_43
    · refine z_iload_n (pc := 15) hE 2 2 rfl rfl dX11_mark_15 ?_
      refine z_iconst (pc := 16) hE dX11_mark_16 q_iconst_2 ?_
      refine z_icmp_gt (pc := 17) hE 42 rfl dX11_mark_17 ?_ ?_
      · refine z_iconst (pc := 42) hE dX11_mark_42 q_iconst_m1 ?_
        exact z_ireturn (pc := 43) hE hr dX11_mark_43
      · refine z_iload_n (pc := 20) hE 3 3 rfl rfl dX11_mark_20 ?_
        refine z_if_lt (pc := 21) hE 42 rfl dX11_mark_21 ?_ ?_
        · refine z_iconst (pc := 42) hE dX11_mark_42 q_iconst_m1 ?_
          exact z_ireturn (pc := 43) hE hr dX11_mark_43
        · refine z_iload_n (pc := 24) hE 3 3 rfl rfl dX11_mark_24 ?_
          refine z_bipush (pc := 25) hE dX11_mark_25 q_bipush_99 ?_
          refine z_icmp_gt (pc := 27) hE 42 rfl dX11_mark_27 ?_ ?_
          · refine z_iconst (pc := 42) hE dX11_mark_42 q_iconst_m1 ?_
            exact z_ireturn (pc := 43) hE hr dX11_mark_43
          · refine z_aload_n (pc := 30) hE 0 0 rfl rfl dX11_mark_30 ?_
            refine z_getr (pc := 31) hE fk_RX11_66 lX_0 rfl dX11_mark_31 ?_
            refine z_geti (pc := 34) hE fk_RX11_121 lX_50 rfl dX11_mark_34 (fun x2 => ?_)
            refine z_bipush (pc := 37) hE dX11_mark_37 q_bipush_12 ?_
            refine z_icmp_lt (pc := 39) hE 44 rfl dX11_mark_39 ?_ ?_
            · refine z_aload_n (pc := 44) hE 0 0 rfl rfl dX11_mark_44 ?_
              refine z_getr (pc := 45) hE fk_RX11_66 lX_0 rfl dX11_mark_45 ?_
              refine z_iload_n (pc := 48) hE 1 1 rfl rfl dX11_mark_48 ?_
              refine z_iload_n (pc := 49) hE 2 2 rfl rfl dX11_mark_49 ?_
              refine z_iload_n (pc := 50) hE 3 3 rfl rfl dX11_mark_50 ?_
              refine z_callVv (pc := 51) (st := []) [.int a1, .int a2, .int a3] hE kk_RX11_373 (c_X5_add a1 a2 a3) lX_50 rfl rfl rfl (Nat.le_of_ble_eq_true rfl) (by decide) dX11_mark_51 (fun x3 => ?_)
              refine z_aload_n (pc := 54) hE 0 0 rfl rfl dX11_mark_54 ?_
              refine z_getr (pc := 55) hE fk_RX11_66 lX_0 rfl dX11_mark_55 ?_
              refine z_geti (pc := 58) hE fk_RX11_121 lX_50 rfl dX11_mark_58 (fun x4 => ?_)
              exact z_ireturn (pc := 61) hE hr dX11_mark_61
            · refine z_iconst (pc := 42) hE dX11_mark_42 q_iconst_m1 ?_
              exact z_ireturn (pc := 43) hE hr dX11_mark_43
set_option maxRecDepth 100000 in
set_option maxHeartbeats 4000000 in
theorem c_X11_wipe {l : Launch} {ad : Nat → Nat} {ca : FieldType → ClassId} {D : va_G} {tt : Nat → Nat}  : zC l yX11_wipe cX11_wipe 2 (some .int) 0 layX ad ca D (xtX ad tt) [.ref (ad 0)] zvi (p_X11_wipe) := by
  refine z_enter (by decide) (Nat.le_of_ble_eq_true rfl) (fun E hE hl0 hcD hr => ?_)
  have hE : zok layX ad (xtX ad tt) E cX11_wipe 2 RX11 0 := hE
  show Z layX ad E 2 (zFin layX ad E zvi) 0 [(0, .ref (ad 0))] [] (p_X11_wipe)
  unfold p_X11_wipe
  refine z_aload_n (pc := 0) hE 0 0 rfl rfl dX11_wipe_0 ?_
  refine z_getr (pc := 1) hE fk_RX11_66 lX_0 rfl dX11_wipe_1 ?_
  refine z_geti (pc := 4) hE fk_RX11_121 lX_50 rfl dX11_wipe_4 (fun x1 => ?_)
  refine z_istore_n (L' := [(1, .int x1), (0, .ref (ad 0))]) (pc := 7) hE 1 rfl (by decide) rfl dX11_wipe_7 ?_
  refine z_aload_n (pc := 8) hE 1 0 rfl rfl dX11_wipe_8 ?_
  refine z_getr (pc := 9) hE fk_RX11_66 lX_0 rfl dX11_wipe_9 ?_
  refine z_iconst (pc := 12) hE dX11_wipe_12 q_iconst_0 ?_
  refine z_puti (pc := 13) hE fk_RX11_121 lX_50 rfl dX11_wipe_13 ?_
  refine z_iload_n (pc := 16) hE 0 1 rfl rfl dX11_wipe_16 ?_
  exact z_ireturn (pc := 17) hE hr dX11_wipe_17
set_option maxRecDepth 100000 in
set_option maxHeartbeats 4000000 in
theorem c_X11_lay {l : Launch} {ad : Nat → Nat} {ca : FieldType → ClassId} {D : va_G} {tt : Nat → Nat} (a1 : Int32) : zC l yX11_lay cX11_lay 3 (some .int) 4 layX ad ca D (xtX ad tt) [.ref (ad 0), .int a1] zvi (p_X11_lay a1) := by
  refine z_enter (by decide) (Nat.le_of_ble_eq_true rfl) (fun E hE hl0 hcD hr => ?_)
  have hE : zok layX ad (xtX ad tt) E cX11_lay 3 RX11 4 := hE
  show Z layX ad E 3 (zFin layX ad E zvi) 0 [(0, .ref (ad 0)), (1, .int a1)] [] (p_X11_lay a1)
  unfold p_X11_lay
  refine z_aload_n (pc := 0) hE 0 0 rfl rfl dX11_lay_0 ?_
  refine z_getr (pc := 1) hE fk_RX11_19 lX_0 rfl dX11_lay_1 ?_
  refine z_iload_n (pc := 4) hE 1 1 rfl rfl dX11_lay_4 ?_
  refine z_callVi (pc := 5) (st := []) [.int a1] hE kk_RX11_136 (c_X9_has a1) lX_3 rfl rfl rfl (Nat.le_of_ble_eq_true rfl) (by decide) dX11_lay_5 (fun x1 => ?_)
  refine z_if_ne (pc := 8) hE 13 rfl dX11_lay_8 ?_ ?_
  · refine z_aload_n (pc := 13) hE 0 0 rfl rfl dX11_lay_13 ?_
    refine z_getr (pc := 14) hE fk_RX11_66 lX_0 rfl dX11_lay_14 ?_
    refine z_aload_n (pc := 17) hE 0 0 rfl rfl dX11_lay_17 ?_
    refine z_getr (pc := 18) hE fk_RX11_42 lX_0 rfl dX11_lay_18 ?_
    refine z_iload_n (pc := 21) hE 1 1 rfl rfl dX11_lay_21 ?_
    refine z_callVi (pc := 22) (st := []) [.ref (ad 20), .int a1] hE kk_RX11_375 (c_X5_fitting 20 zfk_20 a1) lX_50 rfl rfl rfl (Nat.le_of_ble_eq_true rfl) (by decide) dX11_lay_22 (fun x2 => ?_)
    refine z_istore_n (L' := [(2, .int x2), (0, .ref (ad 0)), (1, .int a1)]) (pc := 25) hE 2 rfl (by decide) rfl dX11_lay_25 ?_
    refine z_aload_n (pc := 26) hE 1 0 rfl rfl dX11_lay_26 ?_
    refine z_getr (pc := 27) hE fk_RX11_59 lX_0 rfl dX11_lay_27 ?_
    refine z_iconst (pc := 30) hE dX11_lay_30 q_iconst_0 ?_
    refine z_puti (pc := 31) hE fk_RX11_288 lX_48 rfl dX11_lay_31 ?_
    refine z_aload_n (pc := 34) hE 1 0 rfl rfl dX11_lay_34 ?_
    refine z_getr (pc := 35) hE fk_RX11_59 lX_0 rfl dX11_lay_35 ?_
    refine z_iload_n (pc := 38) hE 0 2 rfl rfl dX11_lay_38 ?_
    refine z_callSi (pc := 39) (st := [.ref (ad 48)]) [.int x2] hE kk_RX11_250 (c_J6_bitCount_0f7a4 x2) rfl rfl (Nat.le_of_ble_eq_true rfl) (by decide) dX11_lay_39 (fun x3 => ?_)
    refine z_i2l (pc := 42) hE dX11_lay_42 ?_
    refine z_callVv (pc := 43) (st := []) [.long x3.toInt64] hE kk_RX11_306 (c_X1_add x3.toInt64) lX_48 rfl rfl rfl (Nat.le_of_ble_eq_true rfl) (by decide) dX11_lay_43 (fun x4 => ?_)
    refine z_iload_n (pc := 46) hE 0 2 rfl rfl dX11_lay_46 ?_
    exact z_ireturn (pc := 47) hE hr dX11_lay_47
  · refine z_iconst (pc := 11) hE dX11_lay_11 q_iconst_m1 ?_
    exact z_ireturn (pc := 12) hE hr dX11_lay_12
set_option maxRecDepth 100000 in
set_option maxHeartbeats 4000000 in
theorem c_X11_ways {l : Launch} {ad : Nat → Nat} {ca : FieldType → ClassId} {D : va_G} {tt : Nat → Nat}  : zC l yX11_ways cX11_ways 3 (some .int) 103 layX ad ca D (xtX ad tt) [.ref (ad 0)] zvi (p_X11_ways) := by
  refine z_enter (by decide) (Nat.le_of_ble_eq_true rfl) (fun E hE hl0 hcD hr => ?_)
  have hE : zok layX ad (xtX ad tt) E cX11_ways 3 RX11 103 := hE
  show Z layX ad E 3 (zFin layX ad E zvi) 0 [(0, .ref (ad 0))] [] (p_X11_ways)
  unfold p_X11_ways
  refine z_aload_n (pc := 0) hE 0 0 rfl rfl dX11_ways_0 ?_
  refine z_getr (pc := 1) hE fk_RX11_66 lX_0 rfl dX11_ways_1 ?_
  refine z_aload_n (pc := 4) hE 0 0 rfl rfl dX11_ways_4 ?_
  refine z_getr (pc := 5) hE fk_RX11_42 lX_0 rfl dX11_ways_5 ?_
  refine z_callVi (pc := 8) (st := []) [.ref (ad 20)] hE kk_RX11_378 (c_X5_goThrough 20 zfk_20) lX_50 rfl rfl rfl (Nat.le_of_ble_eq_true rfl) (by decide) dX11_ways_8 (fun x1 => ?_)
  refine z_istore_n (L' := [(1, .int x1), (0, .ref (ad 0))]) (pc := 11) hE 1 rfl (by decide) rfl dX11_ways_11 ?_
  refine z_aload_n (pc := 12) hE 1 0 rfl rfl dX11_ways_12 ?_
  refine z_getr (pc := 13) hE fk_RX11_59 lX_0 rfl dX11_ways_13 ?_
  refine z_iconst (pc := 16) hE dX11_ways_16 q_iconst_0 ?_
  refine z_puti (pc := 17) hE fk_RX11_288 lX_48 rfl dX11_ways_17 ?_
  refine z_iconst (pc := 20) hE dX11_ways_20 q_iconst_0 ?_
  refine z_istore_n (L' := [(2, .int ((0 : Int32))), (1, .int x1), (0, .ref (ad 0))]) (pc := 21) hE 2 rfl (by decide) rfl dX11_ways_21 ?_
  refine z_sub (L' := [(0, .ref (ad 0)), (1, .int x1), (2, .int ((0 : Int32)))]) [2, 1, 0] rfl ?_
  refine z_loop (V := Int32) (X := Unit) (hd := 22) (ex := 60) (Lh := fun v2 => [(0, .ref (ad 0)), (1, .int x1), (2, .int v2)]) (Lx := fun e5 => [(1, .int x1)]) (fun rc4 k3 hrc4 hk3 v2 => ?_) zNF ((0 : Int32)) _ (fun e5 => ?_)
  · unfold p_X11_ways_b22
    refine z_iload_n (pc := 22) hE 1 1 rfl rfl dX11_ways_22 ?_
    refine z_if_le (pc := 23) hE 60 rfl dX11_ways_23 ?_ ?_
    · exact z_sub [1] rfl (hk3 ())
    · refine z_iload_n (pc := 26) hE 2 2 rfl rfl dX11_ways_26 ?_
      refine z_aload_n (pc := 27) hE 0 0 rfl rfl dX11_ways_27 ?_
      refine z_getr (pc := 28) hE fk_RX11_66 lX_0 rfl dX11_ways_28 ?_
      refine z_geti (pc := 31) hE fk_RX11_382 lX_50 rfl dX11_ways_31 (fun x6 => ?_)
      refine z_icmp_ge (pc := 34) hE 60 rfl dX11_ways_34 ?_ ?_
      · exact z_sub [1] rfl (hk3 ())
      · refine z_aload_n (pc := 37) hE 0 0 rfl rfl dX11_ways_37 ?_
        refine z_getr (pc := 38) hE fk_RX11_59 lX_0 rfl dX11_ways_38 ?_
        refine z_aload_n (pc := 41) hE 0 0 rfl rfl dX11_ways_41 ?_
        refine z_getr (pc := 42) hE fk_RX11_66 lX_0 rfl dX11_ways_42 ?_
        refine z_getr (pc := 45) hE fk_RX11_385 lX_50 rfl dX11_ways_45 ?_
        refine z_iload_n (pc := 48) hE 2 2 rfl rfl dX11_ways_48 ?_
        refine z_iald (pc := 49) hE lX_57 dX11_ways_49 (fun x7 => ?_)
        refine z_i2l (pc := 50) hE dX11_ways_50 ?_
        refine z_callVv (pc := 51) (st := []) [.long x7.toInt64] hE kk_RX11_306 (c_X1_add x7.toInt64) lX_48 rfl rfl rfl (Nat.le_of_ble_eq_true rfl) (by decide) dX11_ways_51 (fun x8 => ?_)
        refine z_iinc (L' := [(2, .int (v2 + (1 : Int32))), (0, .ref (ad 0)), (1, .int x1)]) (pc := 54) hE 2 rfl (zinc q_iconst_1) (by decide) rfl dX11_ways_54 ?_
        refine z_goto (pc := 57) hE 22 rfl dX11_ways_57 ?_
        exact z_sub [1, 2, 0] rfl (hrc4 (v2 + (1 : Int32)))
  · refine z_iload_n (pc := 60) hE 0 1 rfl rfl dX11_ways_60 ?_
    exact z_ireturn (pc := 61) hE hr dX11_ways_61
set_option maxRecDepth 100000 in
set_option maxHeartbeats 4000000 in
theorem c_X11_sure {l : Launch} {ad : Nat → Nat} {ca : FieldType → ClassId} {D : va_G} {tt : Nat → Nat}  : zC l yX11_sure cX11_sure 4 (some .int) 103 layX ad ca D (xtX ad tt) [.ref (ad 0)] zvi (p_X11_sure) := by
  refine z_enter (by decide) (Nat.le_of_ble_eq_true rfl) (fun E hE hl0 hcD hr => ?_)
  have hE : zok layX ad (xtX ad tt) E cX11_sure 4 RX11 103 := hE
  show Z layX ad E 4 (zFin layX ad E zvi) 0 [(0, .ref (ad 0))] [] (p_X11_sure)
  unfold p_X11_sure
  refine z_aload_n (pc := 0) hE 0 0 rfl rfl dX11_sure_0 ?_
  refine z_getr (pc := 1) hE fk_RX11_66 lX_0 rfl dX11_sure_1 ?_
  refine z_aload_n (pc := 4) hE 0 0 rfl rfl dX11_sure_4 ?_
  refine z_getr (pc := 5) hE fk_RX11_42 lX_0 rfl dX11_sure_5 ?_
  refine z_callVi (pc := 8) (st := []) [.ref (ad 20)] hE kk_RX11_378 (c_X5_goThrough 20 zfk_20) lX_50 rfl rfl rfl (Nat.le_of_ble_eq_true rfl) (by decide) dX11_sure_8 (fun x1 => ?_)
  refine z_istore_n (L' := [(1, .int x1), (0, .ref (ad 0))]) (pc := 11) hE 1 rfl (by decide) rfl dX11_sure_11 ?_
  refine z_aload_n (pc := 12) hE 1 0 rfl rfl dX11_sure_12 ?_
  refine z_getr (pc := 13) hE fk_RX11_59 lX_0 rfl dX11_sure_13 ?_
  refine z_iconst (pc := 16) hE dX11_sure_16 q_iconst_0 ?_
  refine z_puti (pc := 17) hE fk_RX11_288 lX_48 rfl dX11_sure_17 ?_
  refine z_iconst (pc := 20) hE dX11_sure_20 q_iconst_0 ?_
  refine z_istore_n (L' := [(2, .int ((0 : Int32))), (1, .int x1), (0, .ref (ad 0))]) (pc := 21) hE 2 rfl (by decide) rfl dX11_sure_21 ?_
  refine z_iconst (pc := 22) hE dX11_sure_22 q_iconst_0 ?_
  refine z_istore_n (L' := [(3, .int ((0 : Int32))), (2, .int ((0 : Int32))), (1, .int x1), (0, .ref (ad 0))]) (pc := 23) hE 3 rfl (by decide) rfl dX11_sure_23 ?_
  refine z_sub (L' := [(0, .ref (ad 0)), (1, .int x1), (2, .int ((0 : Int32))), (3, .int ((0 : Int32)))]) [3, 2, 1, 0] rfl ?_
  refine z_loop (V := (Int32 × Int32)) (X := Int32) (hd := 24) (ex := 91) (Lh := fun v2 => [(0, .ref (ad 0)), (1, .int x1), (2, .int v2.1), (3, .int v2.2)]) (Lx := fun e5 => [(2, .int e5)]) (fun rc4 k3 hrc4 hk3 v2 => ?_) zNF ((0 : Int32), (0 : Int32)) _ (fun e5 => ?_)
  · unfold p_X11_sure_b24
    refine z_iload_n (pc := 24) hE 1 1 rfl rfl dX11_sure_24 ?_
    refine z_if_le (pc := 25) hE 91 rfl dX11_sure_25 ?_ ?_
    · exact z_sub [2] rfl (hk3 v2.1)
    · refine z_iload_n (pc := 28) hE 3 3 rfl rfl dX11_sure_28 ?_
      refine z_aload_n (pc := 29) hE 0 0 rfl rfl dX11_sure_29 ?_
      refine z_getr (pc := 30) hE fk_RX11_66 lX_0 rfl dX11_sure_30 ?_
      refine z_geti (pc := 33) hE fk_RX11_382 lX_50 rfl dX11_sure_33 (fun x6 => ?_)
      refine z_icmp_ge (pc := 36) hE 91 rfl dX11_sure_36 ?_ ?_
      · exact z_sub [2] rfl (hk3 v2.1)
      · refine z_aload_n (pc := 39) hE 0 0 rfl rfl dX11_sure_39 ?_
        refine z_getr (pc := 40) hE fk_RX11_66 lX_0 rfl dX11_sure_40 ?_
        refine z_geti (pc := 43) hE fk_RX11_386 lX_50 rfl dX11_sure_43 (fun x7 => ?_)
        refine z_iload_n (pc := 46) hE 3 3 rfl rfl dX11_sure_46 ?_
        refine z_ishr (pc := 47) hE dX11_sure_47 ?_
        refine z_iconst (pc := 48) hE dX11_sure_48 q_iconst_1 ?_
        refine z_iand (pc := 49) hE dX11_sure_49 ?_
        refine z_iconst (pc := 50) hE dX11_sure_50 q_iconst_1 ?_
        refine z_join (Y := Int32) (pcJ := 85) (Lj := fun y8 => [(0, .ref (ad 0)), (1, .int x1), (2, .int y8), (3, .int v2.2)]) (sj := fun y8 => []) (fun y8 => ?_) (fun j9 hj9 => ?_)
        · refine z_iinc (L' := [(3, .int (v2.2 + (1 : Int32))), (0, .ref (ad 0)), (1, .int x1), (2, .int y8)]) (pc := 85) hE 3 rfl (zinc q_iconst_1) (by decide) rfl dX11_sure_85 ?_
          refine z_goto (pc := 88) hE 24 rfl dX11_sure_88 ?_
          exact z_sub [1, 2, 3, 0] rfl (hrc4 (y8, v2.2 + (1 : Int32)))
        refine z_icmp_ne (pc := 51) hE 85 rfl dX11_sure_51 ?_ ?_
        · exact z_sub [0, 1, 2, 3] rfl (hj9 v2.1)
        · refine z_iload_n (pc := 54) hE 2 2 rfl rfl dX11_sure_54 ?_
          refine z_iconst (pc := 55) hE dX11_sure_55 q_iconst_1 ?_
          refine z_aload_n (pc := 56) hE 0 0 rfl rfl dX11_sure_56 ?_
          refine z_getr (pc := 57) hE fk_RX11_66 lX_0 rfl dX11_sure_57 ?_
          refine z_getr (pc := 60) hE fk_RX11_389 lX_50 rfl dX11_sure_60 ?_
          refine z_iload_n (pc := 63) hE 3 3 rfl rfl dX11_sure_63 ?_
          refine z_iald (pc := 64) hE lX_54 dX11_sure_64 (fun x10 => ?_)
          refine z_ishl (pc := 65) hE dX11_sure_65 ?_
          refine z_ior (pc := 66) hE dX11_sure_66 ?_
          refine z_istore_n (L' := [(2, .int (v2.1 ||| (((1 : Int32)) <<< (x10 &&& 31)))), (0, .ref (ad 0)), (1, .int x1), (3, .int v2.2)]) (pc := 67) hE 2 rfl (by decide) rfl dX11_sure_67 ?_
          refine z_aload_n (pc := 68) hE 1 0 rfl rfl dX11_sure_68 ?_
          refine z_getr (pc := 69) hE fk_RX11_59 lX_0 rfl dX11_sure_69 ?_
          refine z_aload_n (pc := 72) hE 1 0 rfl rfl dX11_sure_72 ?_
          refine z_getr (pc := 73) hE fk_RX11_66 lX_0 rfl dX11_sure_73 ?_
          refine z_getr (pc := 76) hE fk_RX11_385 lX_50 rfl dX11_sure_76 ?_
          refine z_iload_n (pc := 79) hE 3 3 rfl rfl dX11_sure_79 ?_
          refine z_iald (pc := 80) hE lX_57 dX11_sure_80 (fun x11 => ?_)
          refine z_i2l (pc := 81) hE dX11_sure_81 ?_
          refine z_callVv (pc := 82) (st := []) [.long x11.toInt64] hE kk_RX11_306 (c_X1_add x11.toInt64) lX_48 rfl rfl rfl (Nat.le_of_ble_eq_true rfl) (by decide) dX11_sure_82 (fun x12 => ?_)
          exact z_sub [1, 2, 0, 3] rfl (hj9 (v2.1 ||| (((1 : Int32)) <<< (x10 &&& 31))))
  · refine z_iload_n (pc := 91) hE 0 2 rfl rfl dX11_sure_91 ?_
    exact z_ireturn (pc := 92) hE hr dX11_sure_92
set_option maxRecDepth 100000 in
set_option maxHeartbeats 4000000 in
theorem c_X11_power {l : Launch} {ad : Nat → Nat} {ca : FieldType → ClassId} {D : va_G} {tt : Nat → Nat} (a1 : Int32) (a2 : Int32) : zC l yX11_power cX11_power 5 (some .long) 0 layX ad ca D (xtX ad tt) [.int a1, .int a2] zvl (p_X11_power a1 a2) := by
  refine z_enter (by decide) (Nat.le_of_ble_eq_true rfl) (fun E hE hl0 hcD hr => ?_)
  have hE : zok layX ad (xtX ad tt) E cX11_power 5 RX11 0 := hE
  show Z layX ad E 5 (zFin layX ad E zvl) 0 [(0, .int a1), (1, .int a2)] [] (p_X11_power a1 a2)
  unfold p_X11_power
  refine z_lconst (v := (1 : Int64)) (pc := 0) hE dX11_power_0 (by decide) ?_
  refine z_lstore_n (L' := [(2, .long ((1 : Int64))), (0, .int a1), (1, .int a2)]) (pc := 1) hE 2 rfl (by decide) rfl dX11_power_1 ?_
  refine z_iconst (pc := 2) hE dX11_power_2 q_iconst_0 ?_
  refine z_istore (L' := [(4, .int ((0 : Int32))), (2, .long ((1 : Int64))), (0, .int a1), (1, .int a2)]) (pc := 3) hE (by decide) rfl dX11_power_3 ?_
  refine z_sub (L' := [(0, .int a1), (1, .int a2), (2, .long ((1 : Int64))), (4, .int ((0 : Int32)))]) [2, 3, 1, 0] rfl ?_
  refine z_loop (V := (Int64 × Int32)) (X := Int64) (hd := 5) (ex := 22) (Lh := fun v1 => [(0, .int a1), (1, .int a2), (2, .long v1.1), (4, .int v1.2)]) (Lx := fun e4 => [(2, .long e4)]) (fun rc3 k2 hrc3 hk2 v1 => ?_) zNF ((1 : Int64), (0 : Int32)) _ (fun e4 => ?_)
  · unfold p_X11_power_b5
    refine z_iload (pc := 5) hE 3 rfl dX11_power_5 ?_
    refine z_iload_n (pc := 7) hE 1 1 rfl rfl dX11_power_7 ?_
    refine z_icmp_ge (pc := 8) hE 22 rfl dX11_power_8 ?_ ?_
    · exact z_sub [2] rfl (hk2 v1.1)
    · refine z_lload_n (pc := 11) hE 2 2 rfl rfl dX11_power_11 ?_
      refine z_iload_n (pc := 12) hE 0 0 rfl rfl dX11_power_12 ?_
      refine z_i2l (pc := 13) hE dX11_power_13 ?_
      refine z_lmul (pc := 14) hE dX11_power_14 ?_
      refine z_lstore_n (L' := [(2, .long (v1.1 * a1.toInt64)), (0, .int a1), (1, .int a2), (4, .int v1.2)]) (pc := 15) hE 2 rfl (by decide) rfl dX11_power_15 ?_
      refine z_iinc (L' := [(4, .int (v1.2 + (1 : Int32))), (2, .long (v1.1 * a1.toInt64)), (0, .int a1), (1, .int a2)]) (pc := 16) hE 3 rfl (zinc q_iconst_1) (by decide) rfl dX11_power_16 ?_
      refine z_goto (pc := 19) hE 5 rfl dX11_power_19 ?_
      exact z_sub [2, 3, 1, 0] rfl (hrc3 (v1.1 * a1.toInt64, v1.2 + (1 : Int32)))
  · refine z_lload_n (pc := 22) hE 0 2 rfl rfl dX11_power_22 ?_
    exact z_lreturn (pc := 23) hE hr dX11_power_23
set_option maxRecDepth 100000 in
set_option maxHeartbeats 4000000 in
theorem c_X11_likely {l : Launch} {ad : Nat → Nat} {ca : FieldType → ClassId} {D : va_G} {tt : Nat → Nat} (a1 : Int32) (a2 : Int32) (a3 : Int32) (a4 : Int32) : zC l yX11_likely cX11_likely 9 (some .long) 2 layX ad ca D (xtX ad tt) [.ref (ad 0), .int a1, .int a2, .int a3, .int a4] zvl (p_X11_likely a1 a2 a3 a4) := by
  refine z_enter (by decide) (Nat.le_of_ble_eq_true rfl) (fun E hE hl0 hcD hr => ?_)
  have hE : zok layX ad (xtX ad tt) E cX11_likely 9 RX11 2 := hE
  show Z layX ad E 9 (zFin layX ad E zvl) 0 [(0, .ref (ad 0)), (1, .int a1), (2, .int a2), (3, .int a3), (4, .int a4)] [] (p_X11_likely a1 a2 a3 a4)
  unfold p_X11_likely
  refine z_lconst (v := (0 : Int64)) (pc := 0) hE dX11_likely_0 (by decide) ?_
  refine z_lstore (L' := [(5, .long ((0 : Int64))), (0, .ref (ad 0)), (1, .int a1), (2, .int a2), (3, .int a3), (4, .int a4)]) (pc := 1) hE (by decide) rfl dX11_likely_1 ?_
  refine z_iconst (pc := 3) hE dX11_likely_3 q_iconst_0 ?_
  refine z_istore (L' := [(7, .int ((0 : Int32))), (5, .long ((0 : Int64))), (0, .ref (ad 0)), (1, .int a1), (2, .int a2), (3, .int a3), (4, .int a4)]) (pc := 4) hE (by decide) rfl dX11_likely_4 ?_
  refine z_sub (L' := [(0, .ref (ad 0)), (1, .int a1), (2, .int a2), (3, .int a3), (4, .int a4), (5, .long ((0 : Int64))), (7, .int ((0 : Int32)))]) [2, 3, 4, 5, 6, 1, 0] rfl ?_
  refine z_loop (V := (Int64 × Int32)) (X := Int64) (hd := 6) (ex := 66) (Lh := fun v1 => [(0, .ref (ad 0)), (1, .int a1), (2, .int a2), (3, .int a3), (4, .int a4), (5, .long v1.1), (7, .int v1.2)]) (Lx := fun e4 => [(5, .long e4)]) (fun rc3 k2 hrc3 hk2 v1 => ?_) zNF ((0 : Int64), (0 : Int32)) _ (fun e4 => ?_)
  · unfold p_X11_likely_b6
    refine z_iload (pc := 6) hE 6 rfl dX11_likely_6 ?_
    refine z_iconst (pc := 8) hE dX11_likely_8 q_iconst_1 ?_
    refine z_iload_n (pc := 9) hE 2 2 rfl rfl dX11_likely_9 ?_
    refine z_ishl (pc := 10) hE dX11_likely_10 ?_
    refine z_icmp_ge (pc := 11) hE 66 rfl dX11_likely_11 ?_ ?_
    · exact z_sub [5] rfl (hk2 v1.1)
    · refine z_aload_n (pc := 14) hE 0 0 rfl rfl dX11_likely_14 ?_
      refine z_getr (pc := 15) hE fk_RX11_42 lX_0 rfl dX11_likely_15 ?_
      refine z_iload_n (pc := 18) hE 1 1 rfl rfl dX11_likely_18 ?_
      refine z_iload_n (pc := 19) hE 2 2 rfl rfl dX11_likely_19 ?_
      refine z_iload (pc := 20) hE 6 rfl dX11_likely_20 ?_
      refine z_iload (pc := 22) hE 4 rfl dX11_likely_22 ?_
      refine z_callVi (pc := 24) (st := []) [.int a1, .int a2, .int v1.2, .int a4] hE kk_RX11_408 (c_X3_staysNear 20 zfk_20 a1 a2 v1.2 a4) lX_20 rfl rfl rfl (Nat.le_of_ble_eq_true rfl) (by decide) dX11_likely_24 (fun x5 => ?_)
      refine z_join (Y := Int64) (pcJ := 60) (Lj := fun y6 => [(0, .ref (ad 0)), (1, .int a1), (2, .int a2), (3, .int a3), (4, .int a4), (5, .long y6), (7, .int v1.2)]) (sj := fun y6 => []) (fun y6 => ?_) (fun j7 hj7 => ?_)
      · refine z_iinc (L' := [(7, .int (v1.2 + (1 : Int32))), (0, .ref (ad 0)), (1, .int a1), (2, .int a2), (3, .int a3), (4, .int a4), (5, .long y6)]) (pc := 60) hE 6 rfl (zinc q_iconst_1) (by decide) rfl dX11_likely_60 ?_
        refine z_goto (pc := 63) hE 6 rfl dX11_likely_63 ?_
        exact z_sub [1, 2, 3, 4, 5, 6, 0] rfl (hrc3 (y6, v1.2 + (1 : Int32)))
      refine z_if_eq (pc := 27) hE 60 rfl dX11_likely_27 ?_ ?_
      · exact z_sub [0, 1, 2, 3, 4, 5, 6] rfl (hj7 v1.1)
      · refine z_iload (pc := 30) hE 6 rfl dX11_likely_30 ?_
        refine z_callSi (pc := 32) (st := []) [.int v1.2] hE kk_RX11_250 (c_J6_bitCount_0f7a4 v1.2) rfl rfl (Nat.le_of_ble_eq_true rfl) (by decide) dX11_likely_32 (fun x8 => ?_)
        refine z_istore (L' := [(8, .int x8), (0, .ref (ad 0)), (1, .int a1), (2, .int a2), (3, .int a3), (4, .int a4), (5, .long v1.1), (7, .int v1.2)]) (pc := 35) hE (by decide) rfl dX11_likely_35 ?_
        refine z_lload (pc := 37) hE 6 rfl dX11_likely_37 ?_
        refine z_iload_n (pc := 39) hE 4 3 rfl rfl dX11_likely_39 ?_
        refine z_iload (pc := 40) hE 0 rfl dX11_likely_40 ?_
        refine z_callSl (pc := 42) (st := [.long v1.1]) [.int a3, .int x8] hE kk_RX11_399 (c_X11_power a3 x8) rfl rfl (Nat.le_of_ble_eq_true rfl) (by decide) dX11_likely_42 (fun x9 => ?_)
        refine z_bipush (pc := 45) hE dX11_likely_45 q_bipush_10 ?_
        refine z_iload_n (pc := 47) hE 4 3 rfl rfl dX11_likely_47 ?_
        refine z_isub (pc := 48) hE dX11_likely_48 ?_
        refine z_iload_n (pc := 49) hE 3 2 rfl rfl dX11_likely_49 ?_
        refine z_iload (pc := 50) hE 0 rfl dX11_likely_50 ?_
        refine z_isub (pc := 52) hE dX11_likely_52 ?_
        refine z_callSl (pc := 53) (st := [.long x9, .long v1.1]) [.int (((10 : Int32)) - a3), .int (a2 - x8)] hE kk_RX11_399 (c_X11_power (((10 : Int32)) - a3) (a2 - x8)) rfl rfl (Nat.le_of_ble_eq_true rfl) (by decide) dX11_likely_53 (fun x10 => ?_)
        refine z_lmul (pc := 56) hE dX11_likely_56 ?_
        refine z_ladd (pc := 57) hE dX11_likely_57 ?_
        refine z_lstore (L' := [(5, .long (v1.1 + (x9 * x10))), (8, .int x8), (0, .ref (ad 0)), (1, .int a1), (2, .int a2), (3, .int a3), (4, .int a4), (7, .int v1.2)]) (pc := 58) hE (by decide) rfl dX11_likely_58 ?_
        exact z_sub [2, 3, 4, 5, 6, 0, 7] rfl (hj7 (v1.1 + (x9 * x10)))
  · refine z_lload (pc := 66) hE 0 rfl dX11_likely_66 ?_
    exact z_lreturn (pc := 68) hE hr dX11_likely_68
set_option maxRecDepth 100000 in
set_option maxHeartbeats 4000000 in
theorem c_X11_tellFraction {l : Launch} {ad : Nat → Nat} {ca : FieldType → ClassId} {D : va_G} {tt : Nat → Nat} (a1 : Int64) (a2 : Int64) : zC l yX11_tellFraction cX11_tellFraction 12 none 2 layX ad ca D (xtX ad tt) [.ref (ad 0), .long a1, .long a2] zvn (p_X11_tellFraction a1 a2) := by
  refine z_enter (by decide) (Nat.le_of_ble_eq_true rfl) (fun E hE hl0 hcD hr => ?_)
  have hE : zok layX ad (xtX ad tt) E cX11_tellFraction 12 RX11 2 := hE
  show Z layX ad E 12 (zFin layX ad E zvn) 0 [(0, .ref (ad 0)), (1, .long a1), (3, .long a2)] [] (p_X11_tellFraction a1 a2)
  unfold p_X11_tellFraction
  refine z_lload_n (pc := 0) hE 2 3 rfl rfl dX11_tellFraction_0 ?_
  refine z_lstore (L' := [(5, .long a2), (0, .ref (ad 0)), (1, .long a1), (3, .long a2)]) (pc := 1) hE (by decide) rfl dX11_tellFraction_1 ?_
  refine z_lload_n (pc := 3) hE 2 1 rfl rfl dX11_tellFraction_3 ?_
  refine z_lstore (L' := [(7, .long a1), (5, .long a2), (0, .ref (ad 0)), (1, .long a1), (3, .long a2)]) (pc := 4) hE (by decide) rfl dX11_tellFraction_4 ?_
  refine z_iconst (pc := 6) hE dX11_tellFraction_6 q_iconst_0 ?_
  refine z_istore (L' := [(9, .int ((0 : Int32))), (7, .long a1), (5, .long a2), (0, .ref (ad 0)), (1, .long a1), (3, .long a2)]) (pc := 7) hE (by decide) rfl dX11_tellFraction_7 ?_
  refine z_sub (L' := [(0, .ref (ad 0)), (1, .long a1), (3, .long a2), (5, .long a2), (7, .long a1), (9, .int ((0 : Int32)))]) [3, 4, 5, 2, 1, 0] rfl ?_
  refine z_loop (V := (Int64 × Int64 × Int32)) (X := Int64) (hd := 9) (ex := 45) (Lh := fun v1 => [(0, .ref (ad 0)), (1, .long a1), (3, .long a2), (5, .long v1.1), (7, .long v1.2.1), (9, .int v1.2.2)]) (Lx := fun e4 => [(0, .ref (ad 0)), (1, .long a1), (3, .long a2), (5, .long e4)]) (fun rc3 k2 hrc3 hk2 v1 => ?_) zNF (a2, a1, (0 : Int32)) _ (fun e4 => ?_)
  · unfold p_X11_tellFraction_b9
    refine z_iload (pc := 9) hE 5 rfl dX11_tellFraction_9 ?_
    refine z_sipush (pc := 11) hE dX11_tellFraction_11 q_sipush_128 ?_
    refine z_icmp_ge (pc := 14) hE 45 rfl dX11_tellFraction_14 ?_ ?_
    · exact z_sub [0, 1, 2, 3] rfl (hk2 v1.1)
    · refine z_lload (pc := 17) hE 4 rfl dX11_tellFraction_17 ?_
      refine z_lconst (v := (0 : Int64)) (pc := 19) hE dX11_tellFraction_19 (by decide) ?_
      refine z_lcmp (pc := 20) hE dX11_tellFraction_20 ?_
      refine z_if_eq (pc := 21) hE 45 rfl dX11_tellFraction_21 ?_ ?_
      · exact z_sub [0, 1, 2, 3] rfl (hk2 v1.1)
      · refine z_lload (pc := 24) hE 3 rfl dX11_tellFraction_24 ?_
        refine z_lload (pc := 26) hE 4 rfl dX11_tellFraction_26 ?_
        refine z_lrem (pc := 28) hE dX11_tellFraction_28 ?_
        refine z_lstore (L' := [(10, .long (v1.1 - v1.1 / v1.2.1 * v1.2.1)), (0, .ref (ad 0)), (1, .long a1), (3, .long a2), (5, .long v1.1), (7, .long v1.2.1), (9, .int v1.2.2)]) (pc := 29) hE (by decide) rfl dX11_tellFraction_29 ?_
        refine z_lload (pc := 31) hE 5 rfl dX11_tellFraction_31 ?_
        refine z_lstore (L' := [(5, .long v1.2.1), (10, .long (v1.1 - v1.1 / v1.2.1 * v1.2.1)), (0, .ref (ad 0)), (1, .long a1), (3, .long a2), (7, .long v1.2.1), (9, .int v1.2.2)]) (pc := 33) hE (by decide) rfl dX11_tellFraction_33 ?_
        refine z_lload (pc := 35) hE 1 rfl dX11_tellFraction_35 ?_
        refine z_lstore (L' := [(7, .long (v1.1 - v1.1 / v1.2.1 * v1.2.1)), (5, .long v1.2.1), (10, .long (v1.1 - v1.1 / v1.2.1 * v1.2.1)), (0, .ref (ad 0)), (1, .long a1), (3, .long a2), (9, .int v1.2.2)]) (pc := 37) hE (by decide) rfl dX11_tellFraction_37 ?_
        refine z_iinc (L' := [(9, .int (v1.2.2 + (1 : Int32))), (7, .long (v1.1 - v1.1 / v1.2.1 * v1.2.1)), (5, .long v1.2.1), (10, .long (v1.1 - v1.1 / v1.2.1 * v1.2.1)), (0, .ref (ad 0)), (1, .long a1), (3, .long a2)]) (pc := 39) hE 6 rfl (zinc q_iconst_1) (by decide) rfl dX11_tellFraction_39 ?_
        refine z_goto (pc := 42) hE 9 rfl dX11_tellFraction_42 ?_
        exact z_sub [4, 5, 6, 2, 1, 0] rfl (hrc3 (v1.2.1, v1.1 - v1.1 / v1.2.1 * v1.2.1, v1.2.2 + (1 : Int32)))
  · refine z_lload (pc := 45) hE 3 rfl dX11_tellFraction_45 ?_
    refine z_lconst (v := (0 : Int64)) (pc := 47) hE dX11_tellFraction_47 (by decide) ?_
    refine z_lcmp (pc := 48) hE dX11_tellFraction_48 ?_
    refine z_if_eq (pc := 49) hE 64 rfl dX11_tellFraction_49 ?_ ?_
    · exact z_return (pc := 64) hE hr dX11_tellFraction_64
    · refine z_aload_n (pc := 52) hE 0 0 rfl rfl dX11_tellFraction_52 ?_
      refine z_lload_n (pc := 53) hE 1 1 rfl rfl dX11_tellFraction_53 ?_
      refine z_lload (pc := 54) hE 3 rfl dX11_tellFraction_54 ?_
      refine z_ldiv (pc := 56) hE dX11_tellFraction_56 ?_
      refine z_lload_n (pc := 57) hE 2 3 rfl rfl dX11_tellFraction_57 ?_
      refine z_lload (pc := 58) hE 3 rfl dX11_tellFraction_58 ?_
      refine z_ldiv (pc := 60) hE dX11_tellFraction_60 ?_
      refine z_callVv (pc := 61) (st := []) [.long (a1 / e4), .long (a2 / e4)] hE kk_RX11_242 (c_X11_tell (a1 / e4) (a2 / e4)) lX_0 rfl rfl rfl (Nat.le_of_ble_eq_true rfl) (by decide) dX11_tellFraction_61 (fun x5 => ?_)
      exact z_return (pc := 64) hE hr dX11_tellFraction_64
set_option maxRecDepth 100000 in
set_option maxHeartbeats 4000000 in
theorem c_X11_chance {l : Launch} {ad : Nat → Nat} {ca : FieldType → ClassId} {D : va_G} {tt : Nat → Nat} (a1 : Int32) (a2 : Int32) (a3 : Int32) (a4 : Int32) : zC l yX11_chance cX11_chance 5 (some .int) 4 layX ad ca D (xtX ad tt) [.ref (ad 0), .int a1, .int a2, .int a3, .int a4] zvi (p_X11_chance a1 a2 a3 a4) := by
  refine z_enter (by decide) (Nat.le_of_ble_eq_true rfl) (fun E hE hl0 hcD hr => ?_)
  have hE : zok layX ad (xtX ad tt) E cX11_chance 5 RX11 4 := hE
  show Z layX ad E 5 (zFin layX ad E zvi) 0 [(0, .ref (ad 0)), (1, .int a1), (2, .int a2), (3, .int a3), (4, .int a4)] [] (p_X11_chance a1 a2 a3 a4)
  unfold p_X11_chance
  refine z_aload_n (pc := 0) hE 0 0 rfl rfl dX11_chance_0 ?_
  refine z_getr (pc := 1) hE fk_RX11_42 lX_0 rfl dX11_chance_1 ?_
  refine z_iload_n (pc := 4) hE 1 1 rfl rfl dX11_chance_4 ?_
  refine z_callVi (pc := 5) (st := []) [.int a1] hE kk_RX11_160 (c_X3_has 20 zfk_20 a1) lX_20 rfl rfl rfl (Nat.le_of_ble_eq_true rfl) (by decide) dX11_chance_5 (fun x1 => ?_)
  refine z_if_eq (pc := 8) hE 44 rfl dX11_chance_8 ?_ ?_
  · refine z_iconst (pc := 44) hE dX11_chance_44 q_iconst_m1 ?_
    exact z_ireturn (pc := 45) hE hr dX11_chance_45
  · refine z_iload_n (pc := 11) hE 2 2 rfl rfl dX11_chance_11 ?_
    refine z_iconst (pc := 12) hE dX11_chance_12 q_iconst_1 ?_
    refine z_icmp_lt (pc := 13) hE 44 rfl dX11_chance_13 ?_ ?_
    · refine z_iconst (pc := 44) hE dX11_chance_44 q_iconst_m1 ?_
      exact z_ireturn (pc := 45) hE hr dX11_chance_45
    · refine z_iload_n (pc := 16) hE 2 2 rfl rfl dX11_chance_16 ?_
      refine z_bipush (pc := 17) hE dX11_chance_17 q_bipush_8 ?_
      refine z_icmp_gt (pc := 19) hE 44 rfl dX11_chance_19 ?_ ?_
      · refine z_iconst (pc := 44) hE dX11_chance_44 q_iconst_m1 ?_
        exact z_ireturn (pc := 45) hE hr dX11_chance_45
      · refine z_iload_n (pc := 22) hE 3 3 rfl rfl dX11_chance_22 ?_
        refine z_if_lt (pc := 23) hE 44 rfl dX11_chance_23 ?_ ?_
        · refine z_iconst (pc := 44) hE dX11_chance_44 q_iconst_m1 ?_
          exact z_ireturn (pc := 45) hE hr dX11_chance_45
        · refine z_iload_n (pc := 26) hE 3 3 rfl rfl dX11_chance_26 ?_
          refine z_bipush (pc := 27) hE dX11_chance_27 q_bipush_10 ?_
          refine z_icmp_gt (pc := 29) hE 44 rfl dX11_chance_29 ?_ ?_
          · refine z_iconst (pc := 44) hE dX11_chance_44 q_iconst_m1 ?_
            exact z_ireturn (pc := 45) hE hr dX11_chance_45
          · refine z_iload (pc := 32) hE 4 rfl dX11_chance_32 ?_
            refine z_if_lt (pc := 34) hE 44 rfl dX11_chance_34 ?_ ?_
            · refine z_iconst (pc := 44) hE dX11_chance_44 q_iconst_m1 ?_
              exact z_ireturn (pc := 45) hE hr dX11_chance_45
            · refine z_iload (pc := 37) hE 4 rfl dX11_chance_37 ?_
              refine z_bipush (pc := 39) hE dX11_chance_39 q_bipush_18 ?_
              refine z_icmp_le (pc := 41) hE 46 rfl dX11_chance_41 ?_ ?_
              · refine z_aload_n (pc := 46) hE 0 0 rfl rfl dX11_chance_46 ?_
                refine z_getr (pc := 47) hE fk_RX11_42 lX_0 rfl dX11_chance_47 ?_
                refine z_getr (pc := 50) hE fk_RX11_185 lX_20 rfl dX11_chance_50 ?_
                refine z_iload_n (pc := 53) hE 1 1 rfl rfl dX11_chance_53 ?_
                refine z_iald (pc := 54) hE lX_28 dX11_chance_54 (fun x2 => ?_)
                refine z_iconst (pc := 55) hE dX11_chance_55 q_iconst_1 ?_
                refine z_icmp_eq (pc := 56) hE 62 rfl dX11_chance_56 ?_ ?_
                · refine z_aload_n (pc := 62) hE 0 0 rfl rfl dX11_chance_62 ?_
                  refine z_getr (pc := 63) hE fk_RX11_42 lX_0 rfl dX11_chance_63 ?_
                  refine z_iload_n (pc := 66) hE 1 1 rfl rfl dX11_chance_66 ?_
                  refine z_callVv (pc := 67) (st := []) [.int a1] hE kk_RX11_392 (c_X3_foresee 20 zfk_20 a1) lX_20 rfl rfl rfl (Nat.le_of_ble_eq_true rfl) (by decide) dX11_chance_67 (fun x3 => ?_)
                  refine z_aload_n (pc := 70) hE 0 0 rfl rfl dX11_chance_70 ?_
                  refine z_aload_n (pc := 71) hE 0 0 rfl rfl dX11_chance_71 ?_
                  refine z_iload_n (pc := 72) hE 1 1 rfl rfl dX11_chance_72 ?_
                  refine z_iload_n (pc := 73) hE 2 2 rfl rfl dX11_chance_73 ?_
                  refine z_iload_n (pc := 74) hE 3 3 rfl rfl dX11_chance_74 ?_
                  refine z_iload (pc := 75) hE 4 rfl dX11_chance_75 ?_
                  refine z_callVl (pc := 77) (st := [.ref (ad 0)]) [.int a1, .int a2, .int a3, .int a4] hE kk_RX11_395 (c_X11_likely a1 a2 a3 a4) lX_0 rfl rfl rfl (Nat.le_of_ble_eq_true rfl) (by decide) dX11_chance_77 (fun x4 => ?_)
                  refine z_bipush (pc := 80) hE dX11_chance_80 q_bipush_10 ?_
                  refine z_iload_n (pc := 82) hE 2 2 rfl rfl dX11_chance_82 ?_
                  refine z_callSl (pc := 83) (st := [.long x4, .ref (ad 0)]) [.int ((10 : Int32)), .int a2] hE kk_RX11_399 (c_X11_power ((10 : Int32)) a2) rfl rfl (Nat.le_of_ble_eq_true rfl) (by decide) dX11_chance_83 (fun x5 => ?_)
                  refine z_callVv (pc := 86) (st := []) [.long x4, .long x5] hE kk_RX11_403 (c_X11_tellFraction x4 x5) lX_0 rfl rfl rfl (Nat.le_of_ble_eq_true rfl) (by decide) dX11_chance_86 (fun x6 => ?_)
                  refine z_iconst (pc := 89) hE dX11_chance_89 q_iconst_0 ?_
                  exact z_ireturn (pc := 90) hE hr dX11_chance_90
                · refine z_bipush (pc := 59) hE dX11_chance_59 q_bipush_m2 ?_
                  exact z_ireturn (pc := 61) hE hr dX11_chance_61
              · refine z_iconst (pc := 44) hE dX11_chance_44 q_iconst_m1 ?_
                exact z_ireturn (pc := 45) hE hr dX11_chance_45
set_option maxRecDepth 100000 in
set_option maxHeartbeats 4000000 in
theorem c_X11_when {l : Launch} {ad : Nat → Nat} {ca : FieldType → ClassId} {D : va_G} {tt : Nat → Nat} (a1 : Int32) (a2 : Int32) : zC l yX11_when cX11_when 9 (some .int) 4 layX ad ca D (xtX ad tt) [.ref (ad 0), .int a1, .int a2] zvi (p_X11_when a1 a2) := by
  refine z_enter (by decide) (Nat.le_of_ble_eq_true rfl) (fun E hE hl0 hcD hr => ?_)
  have hE : zok layX ad (xtX ad tt) E cX11_when 9 RX11 4 := hE
  show Z layX ad E 9 (zFin layX ad E zvi) 0 [(0, .ref (ad 0)), (1, .int a1), (2, .int a2)] [] (p_X11_when a1 a2)
  unfold p_X11_when
  refine z_aload_n (pc := 0) hE 0 0 rfl rfl dX11_when_0 ?_
  refine z_getr (pc := 1) hE fk_RX11_42 lX_0 rfl dX11_when_1 ?_
  refine z_iload_n (pc := 4) hE 1 1 rfl rfl dX11_when_4 ?_
  refine z_callVi (pc := 5) (st := []) [.int a1] hE kk_RX11_160 (c_X3_has 20 zfk_20 a1) lX_20 rfl rfl rfl (Nat.le_of_ble_eq_true rfl) (by decide) dX11_when_5 (fun x1 => ?_)
  refine z_if_eq (pc := 8) hE 21 rfl dX11_when_8 ?_ ?_
  · refine z_iconst (pc := 21) hE dX11_when_21 q_iconst_m1 ?_
    exact z_ireturn (pc := 22) hE hr dX11_when_22
  · refine z_iload_n (pc := 11) hE 2 2 rfl rfl dX11_when_11 ?_
    refine z_if_lt (pc := 12) hE 21 rfl dX11_when_12 ?_ ?_
    · refine z_iconst (pc := 21) hE dX11_when_21 q_iconst_m1 ?_
      exact z_ireturn (pc := 22) hE hr dX11_when_22
    · refine z_iload_n (pc := 15) hE 2 2 rfl rfl dX11_when_15 ?_
      refine z_bipush (pc := 16) hE dX11_when_16 q_bipush_10 ?_
      refine z_icmp_le (pc := 18) hE 23 rfl dX11_when_18 ?_ ?_
      · refine z_aload_n (pc := 23) hE 0 0 rfl rfl dX11_when_23 ?_
        refine z_getr (pc := 24) hE fk_RX11_42 lX_0 rfl dX11_when_24 ?_
        refine z_getr (pc := 27) hE fk_RX11_185 lX_20 rfl dX11_when_27 ?_
        refine z_iload_n (pc := 30) hE 1 1 rfl rfl dX11_when_30 ?_
        refine z_iald (pc := 31) hE lX_28 dX11_when_31 (fun x2 => ?_)
        refine z_iconst (pc := 32) hE dX11_when_32 q_iconst_1 ?_
        refine z_icmp_eq (pc := 33) hE 39 rfl dX11_when_33 ?_ ?_
        · refine z_aload_n (pc := 39) hE 0 0 rfl rfl dX11_when_39 ?_
          refine z_getr (pc := 40) hE fk_RX11_42 lX_0 rfl dX11_when_40 ?_
          refine z_iload_n (pc := 43) hE 1 1 rfl rfl dX11_when_43 ?_
          refine z_callVv (pc := 44) (st := []) [.int a1] hE kk_RX11_392 (c_X3_foresee 20 zfk_20 a1) lX_20 rfl rfl rfl (Nat.le_of_ble_eq_true rfl) (by decide) dX11_when_44 (fun x3 => ?_)
          refine z_ldc2 (pc := 47) hE w_11 dX11_when_47 ?_
          refine z_lstore_n (L' := [(3, .long ((-1 : Int64))), (0, .ref (ad 0)), (1, .int a1), (2, .int a2)]) (pc := 50) hE 3 rfl (by decide) rfl dX11_when_50 ?_
          refine z_iconst (pc := 51) hE dX11_when_51 q_iconst_1 ?_
          refine z_istore (L' := [(5, .int ((1 : Int32))), (3, .long ((-1 : Int64))), (0, .ref (ad 0)), (1, .int a1), (2, .int a2)]) (pc := 52) hE (by decide) rfl dX11_when_52 ?_
          refine z_iconst (pc := 54) hE dX11_when_54 q_iconst_1 ?_
          refine z_istore (L' := [(6, .int ((1 : Int32))), (5, .int ((1 : Int32))), (3, .long ((-1 : Int64))), (0, .ref (ad 0)), (1, .int a1), (2, .int a2)]) (pc := 55) hE (by decide) rfl dX11_when_55 ?_
          refine z_sub (L' := [(0, .ref (ad 0)), (1, .int a1), (2, .int a2), (3, .long ((-1 : Int64))), (5, .int ((1 : Int32))), (6, .int ((1 : Int32)))]) [3, 4, 5, 2, 1, 0] rfl ?_
          refine z_loop (V := (Int64 × Int32 × Int32)) (X := (Int64 × Int32)) (hd := 57) (ex := 114) (Lh := fun v4 => [(0, .ref (ad 0)), (1, .int a1), (2, .int a2), (3, .long v4.1), (5, .int v4.2.1), (6, .int v4.2.2)]) (Lx := fun e7 => [(0, .ref (ad 0)), (3, .long e7.1), (5, .int e7.2)]) (fun rc6 k5 hrc6 hk5 v4 => ?_) zNF ((-1 : Int64), (1 : Int32), (1 : Int32)) _ (fun e7 => ?_)
          · unfold p_X11_when_b57
            refine z_iload (pc := 57) hE 5 rfl dX11_when_57 ?_
            refine z_bipush (pc := 59) hE dX11_when_59 q_bipush_8 ?_
            refine z_icmp_gt (pc := 61) hE 114 rfl dX11_when_61 ?_ ?_
            · exact z_sub [0, 3, 4] rfl (hk5 (v4.1, v4.2.1))
            · refine z_aload_n (pc := 64) hE 0 0 rfl rfl dX11_when_64 ?_
              refine z_iload_n (pc := 65) hE 1 1 rfl rfl dX11_when_65 ?_
              refine z_iload (pc := 66) hE 5 rfl dX11_when_66 ?_
              refine z_iload_n (pc := 68) hE 2 2 rfl rfl dX11_when_68 ?_
              refine z_aload_n (pc := 69) hE 0 0 rfl rfl dX11_when_69 ?_
              refine z_getr (pc := 70) hE fk_RX11_42 lX_0 rfl dX11_when_70 ?_
              refine z_getr (pc := 73) hE fk_RX11_170 lX_20 rfl dX11_when_73 ?_
              refine z_iload_n (pc := 76) hE 1 1 rfl rfl dX11_when_76 ?_
              refine z_iald (pc := 77) hE lX_26 dX11_when_77 (fun x8 => ?_)
              refine z_callVl (pc := 78) (st := []) [.int a1, .int v4.2.2, .int a2, .int x8] hE kk_RX11_395 (c_X11_likely a1 v4.2.2 a2 x8) lX_0 rfl rfl rfl (Nat.le_of_ble_eq_true rfl) (by decide) dX11_when_78 (fun x9 => ?_)
              refine z_bipush (pc := 81) hE dX11_when_81 q_bipush_10 ?_
              refine z_bipush (pc := 83) hE dX11_when_83 q_bipush_8 ?_
              refine z_iload (pc := 85) hE 5 rfl dX11_when_85 ?_
              refine z_isub (pc := 87) hE dX11_when_87 ?_
              refine z_callSl (pc := 88) (st := [.long x9]) [.int ((10 : Int32)), .int (((8 : Int32)) - v4.2.2)] hE kk_RX11_399 (c_X11_power ((10 : Int32)) (((8 : Int32)) - v4.2.2)) rfl rfl (Nat.le_of_ble_eq_true rfl) (by decide) dX11_when_88 (fun x10 => ?_)
              refine z_lmul (pc := 91) hE dX11_when_91 ?_
              refine z_lstore (L' := [(7, .long (x9 * x10)), (0, .ref (ad 0)), (1, .int a1), (2, .int a2), (3, .long v4.1), (5, .int v4.2.1), (6, .int v4.2.2)]) (pc := 92) hE (by decide) rfl dX11_when_92 ?_
              refine z_lload (pc := 94) hE 0 rfl dX11_when_94 ?_
              refine z_lload_n (pc := 96) hE 4 3 rfl rfl dX11_when_96 ?_
              refine z_lcmp (pc := 97) hE dX11_when_97 ?_
              refine z_join (Y := (Int64 × Int32)) (pcJ := 108) (Lj := fun y11 => [(0, .ref (ad 0)), (1, .int a1), (2, .int a2), (3, .long y11.1), (5, .int y11.2), (6, .int v4.2.2)]) (sj := fun y11 => []) (fun y11 => ?_) (fun j12 hj12 => ?_)
              · refine z_iinc (L' := [(6, .int (v4.2.2 + (1 : Int32))), (0, .ref (ad 0)), (1, .int a1), (2, .int a2), (3, .long y11.1), (5, .int y11.2)]) (pc := 108) hE 5 rfl (zinc q_iconst_1) (by decide) rfl dX11_when_108 ?_
                refine z_goto (pc := 111) hE 57 rfl dX11_when_111 ?_
                exact z_sub [1, 2, 3, 4, 5, 0] rfl (hrc6 (y11.1, y11.2, v4.2.2 + (1 : Int32)))
              refine z_if_le (pc := 98) hE 108 rfl dX11_when_98 ?_ ?_
              · exact z_sub [1, 2, 3, 4, 5, 6] rfl (hj12 (v4.1, v4.2.1))
              · refine z_lload (pc := 101) hE 0 rfl dX11_when_101 ?_
                refine z_lstore_n (L' := [(3, .long (x9 * x10)), (7, .long (x9 * x10)), (0, .ref (ad 0)), (1, .int a1), (2, .int a2), (5, .int v4.2.1), (6, .int v4.2.2)]) (pc := 103) hE 3 rfl (by decide) rfl dX11_when_103 ?_
                refine z_iload (pc := 104) hE 6 rfl dX11_when_104 ?_
                refine z_istore (L' := [(5, .int v4.2.2), (3, .long (x9 * x10)), (7, .long (x9 * x10)), (0, .ref (ad 0)), (1, .int a1), (2, .int a2), (6, .int v4.2.2)]) (pc := 106) hE (by decide) rfl dX11_when_106 ?_
                exact z_sub [3, 4, 5, 1, 0, 6] rfl (hj12 (x9 * x10, v4.2.2))
          · refine z_aload_n (pc := 114) hE 0 0 rfl rfl dX11_when_114 ?_
            refine z_lload_n (pc := 115) hE 1 3 rfl rfl dX11_when_115 ?_
            refine z_bipush (pc := 116) hE dX11_when_116 q_bipush_10 ?_
            refine z_bipush (pc := 118) hE dX11_when_118 q_bipush_8 ?_
            refine z_callSl (pc := 120) (st := [.long e7.1, .ref (ad 0)]) [.int ((10 : Int32)), .int ((8 : Int32))] hE kk_RX11_399 (c_X11_power ((10 : Int32)) ((8 : Int32))) rfl rfl (Nat.le_of_ble_eq_true rfl) (by decide) dX11_when_120 (fun x13 => ?_)
            refine z_callVv (pc := 123) (st := []) [.long e7.1, .long x13] hE kk_RX11_403 (c_X11_tellFraction e7.1 x13) lX_0 rfl rfl rfl (Nat.le_of_ble_eq_true rfl) (by decide) dX11_when_123 (fun x14 => ?_)
            refine z_iload (pc := 126) hE 2 rfl dX11_when_126 ?_
            exact z_ireturn (pc := 128) hE hr dX11_when_128
        · refine z_bipush (pc := 36) hE dX11_when_36 q_bipush_m2 ?_
          exact z_ireturn (pc := 38) hE hr dX11_when_38
      · refine z_iconst (pc := 21) hE dX11_when_21 q_iconst_m1 ?_
        exact z_ireturn (pc := 22) hE hr dX11_when_22
set_option maxRecDepth 100000 in
set_option maxHeartbeats 4000000 in
theorem c_X11_stir {l : Launch} {ad : Nat → Nat} {ca : FieldType → ClassId} {D : va_G} {tt : Nat → Nat} (a1 : Int32) : zC l yX11_stir cX11_stir 1 (some .int) 0 layX ad ca D (xtX ad tt) [.int a1] zvi (p_X11_stir a1) := by
  refine z_enter (by decide) (Nat.le_of_ble_eq_true rfl) (fun E hE hl0 hcD hr => ?_)
  have hE : zok layX ad (xtX ad tt) E cX11_stir 1 RX11 0 := hE
  show Z layX ad E 1 (zFin layX ad E zvi) 0 [(0, .int a1)] [] (p_X11_stir a1)
  unfold p_X11_stir
  refine z_iload_n (pc := 0) hE 0 0 rfl rfl dX11_stir_0 ?_
  refine z_ldcw (pc := 1) hE w_12 dX11_stir_1 ?_
  refine z_imul (pc := 4) hE dX11_stir_4 ?_
  refine z_sipush (pc := 5) hE dX11_stir_5 q_sipush_12345 ?_
  refine z_iadd (pc := 8) hE dX11_stir_8 ?_
  exact z_ireturn (pc := 9) hE hr dX11_stir_9
set_option maxRecDepth 100000 in
set_option maxHeartbeats 4000000 in
theorem c_X11_drawn {l : Launch} {ad : Nat → Nat} {ca : FieldType → ClassId} {D : va_G} {tt : Nat → Nat} (a1 : Int32) (a2 : Int32) : zC l yX11_drawn cX11_drawn 2 (some .int) 0 layX ad ca D (xtX ad tt) [.int a1, .int a2] zvi (p_X11_drawn a1 a2) := by
  refine z_enter (by decide) (Nat.le_of_ble_eq_true rfl) (fun E hE hl0 hcD hr => ?_)
  have hE : zok layX ad (xtX ad tt) E cX11_drawn 2 RX11 0 := hE
  show Z layX ad E 2 (zFin layX ad E zvi) 0 [(0, .int a1), (1, .int a2)] [] (p_X11_drawn a1 a2)
  unfold p_X11_drawn
  refine z_iload_n (pc := 0) hE 1 1 rfl rfl dX11_drawn_0 ?_
  refine z_if_le (pc := 1) hE 13 rfl dX11_drawn_1 ?_ ?_
  · refine z_iconst (pc := 13) hE dX11_drawn_13 q_iconst_0 ?_
    exact z_ireturn (pc := 14) hE hr dX11_drawn_14
  · refine z_iload_n (pc := 4) hE 0 0 rfl rfl dX11_drawn_4 ?_
    refine z_bipush (pc := 5) hE dX11_drawn_5 q_bipush_16 ?_
    refine z_iushr (pc := 7) hE dX11_drawn_7 ?_
    refine z_iload_n (pc := 8) hE 1 1 rfl rfl dX11_drawn_8 ?_
    refine z_irem (pc := 9) hE dX11_drawn_9 ?_
    refine z_goto (pc := 10) hE 14 rfl dX11_drawn_10 ?_
    exact z_ireturn (pc := 14) hE hr dX11_drawn_14
set_option maxRecDepth 100000 in
set_option maxHeartbeats 4000000 in
theorem c_X11_season {l : Launch} {ad : Nat → Nat} {ca : FieldType → ClassId} {D : va_G} {tt : Nat → Nat} (a1 : Int32) (a2 : Int32) : zC l yX11_season cX11_season 8 (some .int) 6 layX ad ca D (xtX ad tt) [.ref (ad 0), .int a1, .int a2] zvi (p_X11_season a1 a2) := by
  refine z_enter (by decide) (Nat.le_of_ble_eq_true rfl) (fun E hE hl0 hcD hr => ?_)
  have hE : zok layX ad (xtX ad tt) E cX11_season 8 RX11 6 := hE
  show Z layX ad E 8 (zFin layX ad E zvi) 0 [(0, .ref (ad 0)), (1, .int a1), (2, .int a2)] [] (p_X11_season a1 a2)
  unfold p_X11_season
  refine z_iload_n (pc := 0) hE 2 2 rfl rfl dX11_season_0 ?_
  refine z_iconst (pc := 1) hE dX11_season_1 q_iconst_1 ?_
  refine z_icmp_lt (pc := 2) hE 21 rfl dX11_season_2 ?_ ?_
  · refine z_iconst (pc := 21) hE dX11_season_21 q_iconst_m1 ?_
    exact z_ireturn (pc := 22) hE hr dX11_season_22
  · refine z_iload_n (pc := 5) hE 2 2 rfl rfl dX11_season_5 ?_
    refine z_bipush (pc := 6) hE dX11_season_6 q_bipush_60 ?_
    refine z_icmp_gt (pc := 8) hE 21 rfl dX11_season_8 ?_ ?_
    · refine z_iconst (pc := 21) hE dX11_season_21 q_iconst_m1 ?_
      exact z_ireturn (pc := 22) hE hr dX11_season_22
    · refine z_aload_n (pc := 11) hE 0 0 rfl rfl dX11_season_11 ?_
      refine z_getr (pc := 12) hE fk_RX11_42 lX_0 rfl dX11_season_12 ?_
      refine z_geti (pc := 15) hE fk_RX11_197 lX_20 rfl dX11_season_15 (fun x1 => ?_)
      refine z_if_ne (pc := 18) hE 23 rfl dX11_season_18 ?_ ?_
      · refine z_aload_n (pc := 23) hE 0 0 rfl rfl dX11_season_23 ?_
        refine z_getr (pc := 24) hE fk_RX11_46 lX_0 rfl dX11_season_24 ?_
        refine z_aload_n (pc := 27) hE 0 0 rfl rfl dX11_season_27 ?_
        refine z_getr (pc := 28) hE fk_RX11_42 lX_0 rfl dX11_season_28 ?_
        refine z_callVv (pc := 31) (st := []) [.ref (ad 20)] hE kk_RX11_300 (c_X3_become 32 zfk_32 20 zfk_20) lX_32 rfl rfl rfl (Nat.le_of_ble_eq_true rfl) (by decide) dX11_season_31 (fun x2 => ?_)
        refine z_iload_n (pc := 34) hE 1 1 rfl rfl dX11_season_34 ?_
        refine z_istore_n (L' := [(3, .int a1), (0, .ref (ad 0)), (1, .int a1), (2, .int a2)]) (pc := 35) hE 3 rfl (by decide) rfl dX11_season_35 ?_
        refine z_iconst (pc := 36) hE dX11_season_36 q_iconst_0 ?_
        refine z_istore (L' := [(4, .int ((0 : Int32))), (3, .int a1), (0, .ref (ad 0)), (1, .int a1), (2, .int a2)]) (pc := 37) hE (by decide) rfl dX11_season_37 ?_
        refine z_iconst (pc := 39) hE dX11_season_39 q_iconst_0 ?_
        refine z_istore (L' := [(5, .int ((0 : Int32))), (4, .int ((0 : Int32))), (3, .int a1), (0, .ref (ad 0)), (1, .int a1), (2, .int a2)]) (pc := 40) hE (by decide) rfl dX11_season_40 ?_
        refine z_iconst (pc := 42) hE dX11_season_42 q_iconst_0 ?_
        refine z_istore (L' := [(6, .int ((0 : Int32))), (5, .int ((0 : Int32))), (4, .int ((0 : Int32))), (3, .int a1), (0, .ref (ad 0)), (1, .int a1), (2, .int a2)]) (pc := 43) hE (by decide) rfl dX11_season_43 ?_
        refine z_sub (L' := [(0, .ref (ad 0)), (2, .int a2), (3, .int a1), (4, .int ((0 : Int32))), (5, .int ((0 : Int32))), (6, .int ((0 : Int32)))]) [4, 6, 3, 2, 1, 0] rfl ?_
        refine z_loop (V := (Int32 × Int32 × Int32 × Int32)) (X := (Int32 × Int32)) (hd := 45) (ex := 154) (Lh := fun v3 => [(0, .ref (ad 0)), (2, .int a2), (3, .int v3.1), (4, .int v3.2.1), (5, .int v3.2.2.1), (6, .int v3.2.2.2)]) (Lx := fun e6 => [(0, .ref (ad 0)), (4, .int e6.1), (5, .int e6.2)]) (fun rc5 k4 hrc5 hk4 v3 => ?_) zNF (a1, (0 : Int32), (0 : Int32), (0 : Int32)) _ (fun e6 => ?_)
        · unfold p_X11_season_b45
          refine z_iload (pc := 45) hE 5 rfl dX11_season_45 ?_
          refine z_iload_n (pc := 47) hE 1 2 rfl rfl dX11_season_47 ?_
          refine z_icmp_ge (pc := 48) hE 154 rfl dX11_season_48 ?_ ?_
          · exact z_sub [0, 3, 4] rfl (hk4 (v3.2.1, v3.2.2.1))
          · refine z_iload_n (pc := 51) hE 2 3 rfl rfl dX11_season_51 ?_
            refine z_callSi (pc := 52) (st := []) [.int v3.1] hE kk_RX11_412 (c_X11_stir v3.1) rfl rfl (Nat.le_of_ble_eq_true rfl) (by decide) dX11_season_52 (fun x7 => ?_)
            refine z_istore_n (L' := [(3, .int x7), (0, .ref (ad 0)), (2, .int a2), (4, .int v3.2.1), (5, .int v3.2.2.1), (6, .int v3.2.2.2)]) (pc := 55) hE 3 rfl (by decide) rfl dX11_season_55 ?_
            refine z_aload_n (pc := 56) hE 1 0 rfl rfl dX11_season_56 ?_
            refine z_getr (pc := 57) hE fk_RX11_46 lX_0 rfl dX11_season_57 ?_
            refine z_iload_n (pc := 60) hE 0 3 rfl rfl dX11_season_60 ?_
            refine z_bipush (pc := 61) hE dX11_season_61 q_bipush_10 ?_
            refine z_callSi (pc := 63) (st := [.ref (ad 32)]) [.int x7, .int ((10 : Int32))] hE kk_RX11_415 (c_X11_drawn x7 ((10 : Int32))) rfl rfl (Nat.le_of_ble_eq_true rfl) (by decide) dX11_season_63 (fun x8 => ?_)
            refine z_puti (pc := 66) hE fk_RX11_194 lX_32 rfl dX11_season_66 ?_
            refine z_iload_n (pc := 69) hE 0 3 rfl rfl dX11_season_69 ?_
            refine z_callSi (pc := 70) (st := []) [.int x7] hE kk_RX11_412 (c_X11_stir x7) rfl rfl (Nat.le_of_ble_eq_true rfl) (by decide) dX11_season_70 (fun x9 => ?_)
            refine z_istore_n (L' := [(3, .int x9), (0, .ref (ad 0)), (2, .int a2), (4, .int v3.2.1), (5, .int v3.2.2.1), (6, .int v3.2.2.2)]) (pc := 73) hE 3 rfl (by decide) rfl dX11_season_73 ?_
            refine z_iload_n (pc := 74) hE 0 3 rfl rfl dX11_season_74 ?_
            refine z_aload_n (pc := 75) hE 1 0 rfl rfl dX11_season_75 ?_
            refine z_getr (pc := 76) hE fk_RX11_46 lX_0 rfl dX11_season_76 ?_
            refine z_geti (pc := 79) hE fk_RX11_197 lX_32 rfl dX11_season_79 (fun x10 => ?_)
            refine z_callSi (pc := 82) (st := []) [.int x9, .int x10] hE kk_RX11_415 (c_X11_drawn x9 x10) rfl rfl (Nat.le_of_ble_eq_true rfl) (by decide) dX11_season_82 (fun x11 => ?_)
            refine z_istore (L' := [(7, .int x11), (3, .int x9), (0, .ref (ad 0)), (2, .int a2), (4, .int v3.2.1), (5, .int v3.2.2.1), (6, .int v3.2.2.2)]) (pc := 85) hE (by decide) rfl dX11_season_85 ?_
            refine z_aload_n (pc := 87) hE 2 0 rfl rfl dX11_season_87 ?_
            refine z_getr (pc := 88) hE fk_RX11_46 lX_0 rfl dX11_season_88 ?_
            refine z_iload (pc := 91) hE 0 rfl dX11_season_91 ?_
            refine z_callSi (pc := 93) (st := []) [.ref (ad 32), .int x11] hE kk_RX11_214 (c_X11_setFree 32 zfk_32 x11) rfl rfl (Nat.le_of_ble_eq_true rfl) (by decide) dX11_season_93 (fun x12 => ?_)
            refine z_join (Y := Unit) (pcJ := 109) (Lj := fun y13 => [(0, .ref (ad 0)), (2, .int a2), (3, .int x9), (4, .int v3.2.1), (5, .int v3.2.2.1), (6, .int v3.2.2.2)]) (sj := fun y13 => []) (fun y13 => ?_) (fun j14 hj14 => ?_)
            · refine z_aload_n (pc := 109) hE 0 0 rfl rfl dX11_season_109 ?_
              refine z_getr (pc := 110) hE fk_RX11_46 lX_0 rfl dX11_season_110 ?_
              refine z_iconst (pc := 113) hE dX11_season_113 q_iconst_1 ?_
              refine z_callVi (pc := 114) (st := []) [.int ((1 : Int32))] hE kk_RX11_233 (c_X3_passHours 32 zfk_32 ((1 : Int32))) lX_32 rfl rfl rfl (Nat.le_of_ble_eq_true rfl) (by decide) dX11_season_114 (fun x15 => ?_)
              refine z_pop (pc := 117) hE dX11_season_117 rfl ?_
              refine z_iload (pc := 118) hE 3 rfl dX11_season_118 ?_
              refine z_aload_n (pc := 120) hE 0 0 rfl rfl dX11_season_120 ?_
              refine z_getr (pc := 121) hE fk_RX11_46 lX_0 rfl dX11_season_121 ?_
              refine z_geti (pc := 124) hE fk_RX11_236 lX_32 rfl dX11_season_124 (fun x16 => ?_)
              refine z_callSi (pc := 127) (st := [.int v3.2.1]) [.int x16] hE kk_RX11_250 (c_J6_bitCount_0f7a4 x16) rfl rfl (Nat.le_of_ble_eq_true rfl) (by decide) dX11_season_127 (fun x17 => ?_)
              refine z_iadd (pc := 130) hE dX11_season_130 ?_
              refine z_istore (L' := [(4, .int (v3.2.1 + x17)), (0, .ref (ad 0)), (2, .int a2), (3, .int x9), (5, .int v3.2.2.1), (6, .int v3.2.2.2)]) (pc := 131) hE (by decide) rfl dX11_season_131 ?_
              refine z_iload (pc := 133) hE 4 rfl dX11_season_133 ?_
              refine z_aload_n (pc := 135) hE 1 0 rfl rfl dX11_season_135 ?_
              refine z_getr (pc := 136) hE fk_RX11_46 lX_0 rfl dX11_season_136 ?_
              refine z_geti (pc := 139) hE fk_RX11_239 lX_32 rfl dX11_season_139 (fun x18 => ?_)
              refine z_callSi (pc := 142) (st := [.int v3.2.2.1]) [.int x18] hE kk_RX11_250 (c_J6_bitCount_0f7a4 x18) rfl rfl (Nat.le_of_ble_eq_true rfl) (by decide) dX11_season_142 (fun x19 => ?_)
              refine z_iadd (pc := 145) hE dX11_season_145 ?_
              refine z_istore (L' := [(5, .int (v3.2.2.1 + x19)), (4, .int (v3.2.1 + x17)), (0, .ref (ad 0)), (2, .int a2), (3, .int x9), (6, .int v3.2.2.2)]) (pc := 146) hE (by decide) rfl dX11_season_146 ?_
              refine z_iinc (L' := [(6, .int (v3.2.2.2 + (1 : Int32))), (5, .int (v3.2.2.1 + x19)), (4, .int (v3.2.1 + x17)), (0, .ref (ad 0)), (2, .int a2), (3, .int x9)]) (pc := 148) hE 5 rfl (zinc q_iconst_1) (by decide) rfl dX11_season_148 ?_
              refine z_goto (pc := 151) hE 45 rfl dX11_season_151 ?_
              exact z_sub [3, 4, 5, 2, 1, 0] rfl (hrc5 (x9, v3.2.1 + x17, v3.2.2.1 + x19, v3.2.2.2 + (1 : Int32)))
            refine z_if_ge (pc := 96) hE 109 rfl dX11_season_96 ?_ ?_
            · exact z_sub [2, 3, 1, 4, 5, 6] rfl (hj14 ())
            · refine z_aload_n (pc := 99) hE 2 0 rfl rfl dX11_season_99 ?_
              refine z_getr (pc := 100) hE fk_RX11_46 lX_0 rfl dX11_season_100 ?_
              refine z_iload (pc := 103) hE 0 rfl dX11_season_103 ?_
              refine z_callSi (pc := 105) (st := []) [.ref (ad 32), .int x11] hE kk_RX11_224 (c_X11_untie 32 zfk_32 x11) rfl rfl (Nat.le_of_ble_eq_true rfl) (by decide) dX11_season_105 (fun x20 => ?_)
              refine z_pop (pc := 108) hE dX11_season_108 rfl ?_
              exact z_sub [2, 3, 1, 4, 5, 6] rfl (hj14 ())
        · refine z_aload_n (pc := 154) hE 0 0 rfl rfl dX11_season_154 ?_
          refine z_iload (pc := 155) hE 1 rfl dX11_season_155 ?_
          refine z_i2l (pc := 157) hE dX11_season_157 ?_
          refine z_aload_n (pc := 158) hE 0 0 rfl rfl dX11_season_158 ?_
          refine z_getr (pc := 159) hE fk_RX11_46 lX_0 rfl dX11_season_159 ?_
          refine z_iconst (pc := 162) hE dX11_season_162 q_iconst_1 ?_
          refine z_callVi (pc := 163) (st := [.long e6.1.toInt64, .ref (ad 0)]) [.int ((1 : Int32))] hE kk_RX11_247 (c_X3_those 32 zfk_32 ((1 : Int32))) lX_32 rfl rfl rfl (Nat.le_of_ble_eq_true rfl) (by decide) dX11_season_163 (fun x21 => ?_)
          refine z_callSi (pc := 166) (st := [.long e6.1.toInt64, .ref (ad 0)]) [.int x21] hE kk_RX11_250 (c_J6_bitCount_0f7a4 x21) rfl rfl (Nat.le_of_ble_eq_true rfl) (by decide) dX11_season_166 (fun x22 => ?_)
          refine z_i2l (pc := 169) hE dX11_season_169 ?_
          refine z_callVv (pc := 170) (st := []) [.long e6.1.toInt64, .long x22.toInt64] hE kk_RX11_242 (c_X11_tell e6.1.toInt64 x22.toInt64) lX_0 rfl rfl rfl (Nat.le_of_ble_eq_true rfl) (by decide) dX11_season_170 (fun x23 => ?_)
          refine z_iload (pc := 173) hE 2 rfl dX11_season_173 ?_
          exact z_ireturn (pc := 175) hE hr dX11_season_175
      · refine z_iconst (pc := 21) hE dX11_season_21 q_iconst_m1 ?_
        exact z_ireturn (pc := 22) hE hr dX11_season_22
set_option maxRecDepth 100000 in
set_option maxHeartbeats 4000000 in
theorem c_X11_keep {l : Launch} {ad : Nat → Nat} {ca : FieldType → ClassId} {D : va_G} {tt : Nat → Nat} (a1 : Int32) : zC l yX11_keep cX11_keep 2 (some .boolean) 2 layX ad ca D (xtX ad tt) [.ref (ad 0), .int a1] zvi (p_X11_keep a1) := by
  refine z_enter (by decide) (Nat.le_of_ble_eq_true rfl) (fun E hE hl0 hcD hr => ?_)
  have hE : zok layX ad (xtX ad tt) E cX11_keep 2 RX11 2 := hE
  show Z layX ad E 2 (zFin layX ad E zvi) 0 [(0, .ref (ad 0)), (1, .int a1)] [] (p_X11_keep a1)
  unfold p_X11_keep
  refine z_iload_n (pc := 0) hE 1 1 rfl rfl dX11_keep_0 ?_
  refine z_if_lt (pc := 1) hE 9 rfl dX11_keep_1 ?_ ?_
  · refine z_iconst (pc := 9) hE dX11_keep_9 q_iconst_0 ?_
    exact z_zreturn (pc := 10) hE hr dX11_keep_10
  · refine z_iload_n (pc := 4) hE 1 1 rfl rfl dX11_keep_4 ?_
    refine z_iconst (pc := 5) hE dX11_keep_5 q_iconst_3 ?_
    refine z_icmp_lt (pc := 6) hE 11 rfl dX11_keep_6 ?_ ?_
    · refine z_aload_n (pc := 11) hE 0 0 rfl rfl dX11_keep_11 ?_
      refine z_getr (pc := 12) hE fk_RX11_52 lX_0 rfl dX11_keep_12 ?_
      refine z_aload_n (pc := 15) hE 0 0 rfl rfl dX11_keep_15 ?_
      refine z_getr (pc := 16) hE fk_RX11_42 lX_0 rfl dX11_keep_16 ?_
      refine z_iload_n (pc := 19) hE 1 1 rfl rfl dX11_keep_19 ?_
      refine z_callVv (pc := 20) (st := []) [.ref (ad 20), .int a1] hE kk_RX11_419 (c_X6_store 20 zfk_20 a1) lX_44 rfl rfl rfl (Nat.le_of_ble_eq_true rfl) (by decide) dX11_keep_20 (fun x1 => ?_)
      refine z_iconst (pc := 23) hE dX11_keep_23 q_iconst_1 ?_
      exact z_zreturn (pc := 24) hE hr dX11_keep_24
    · refine z_iconst (pc := 9) hE dX11_keep_9 q_iconst_0 ?_
      exact z_zreturn (pc := 10) hE hr dX11_keep_10
set_option maxRecDepth 100000 in
set_option maxHeartbeats 4000000 in
theorem c_X11_again {l : Launch} {ad : Nat → Nat} {ca : FieldType → ClassId} {D : va_G} {tt : Nat → Nat} (a1 : Int32) : zC l yX11_again cX11_again 2 (some .boolean) 2 layX ad ca D (xtX ad tt) [.ref (ad 0), .int a1] zvi (p_X11_again a1) := by
  refine z_enter (by decide) (Nat.le_of_ble_eq_true rfl) (fun E hE hl0 hcD hr => ?_)
  have hE : zok layX ad (xtX ad tt) E cX11_again 2 RX11 2 := hE
  show Z layX ad E 2 (zFin layX ad E zvi) 0 [(0, .ref (ad 0)), (1, .int a1)] [] (p_X11_again a1)
  unfold p_X11_again
  refine z_iload_n (pc := 0) hE 1 1 rfl rfl dX11_again_0 ?_
  refine z_if_lt (pc := 1) hE 21 rfl dX11_again_1 ?_ ?_
  · refine z_iconst (pc := 21) hE dX11_again_21 q_iconst_0 ?_
    exact z_zreturn (pc := 22) hE hr dX11_again_22
  · refine z_iload_n (pc := 4) hE 1 1 rfl rfl dX11_again_4 ?_
    refine z_iconst (pc := 5) hE dX11_again_5 q_iconst_3 ?_
    refine z_icmp_ge (pc := 6) hE 21 rfl dX11_again_6 ?_ ?_
    · refine z_iconst (pc := 21) hE dX11_again_21 q_iconst_0 ?_
      exact z_zreturn (pc := 22) hE hr dX11_again_22
    · refine z_aload_n (pc := 9) hE 0 0 rfl rfl dX11_again_9 ?_
      refine z_getr (pc := 10) hE fk_RX11_52 lX_0 rfl dX11_again_10 ?_
      refine z_getr (pc := 13) hE fk_RX11_423 lX_44 rfl dX11_again_13 ?_
      refine z_iload_n (pc := 16) hE 1 1 rfl rfl dX11_again_16 ?_
      refine z_zald (pc := 17) hE lX_47 dX11_again_17 (fun x1 => ?_)
      refine z_if_ne (pc := 18) hE 23 rfl dX11_again_18 ?_ ?_
      · refine z_aload_n (pc := 23) hE 0 0 rfl rfl dX11_again_23 ?_
        refine z_getr (pc := 24) hE fk_RX11_52 lX_0 rfl dX11_again_24 ?_
        refine z_aload_n (pc := 27) hE 0 0 rfl rfl dX11_again_27 ?_
        refine z_getr (pc := 28) hE fk_RX11_42 lX_0 rfl dX11_again_28 ?_
        refine z_iload_n (pc := 31) hE 1 1 rfl rfl dX11_again_31 ?_
        refine z_callVv (pc := 32) (st := []) [.ref (ad 20), .int a1] hE kk_RX11_427 (c_X6_fetch 20 zfk_20 a1) lX_44 rfl rfl rfl (Nat.le_of_ble_eq_true rfl) (by decide) dX11_again_32 (fun x2 => ?_)
        refine z_aload_n (pc := 35) hE 0 0 rfl rfl dX11_again_35 ?_
        refine z_getr (pc := 36) hE fk_RX11_52 lX_0 rfl dX11_again_36 ?_
        refine z_callVv (pc := 39) (st := []) [] hE kk_RX11_122 (c_X6_forgetActs) lX_44 rfl rfl rfl (Nat.le_of_ble_eq_true rfl) (by decide) dX11_again_39 (fun x3 => ?_)
        refine z_iconst (pc := 42) hE dX11_again_42 q_iconst_1 ?_
        exact z_zreturn (pc := 43) hE hr dX11_again_43
      · refine z_iconst (pc := 21) hE dX11_again_21 q_iconst_0 ?_
        exact z_zreturn (pc := 22) hE hr dX11_again_22
set_option maxRecDepth 100000 in
set_option maxHeartbeats 4000000 in
theorem c_X11_count {l : Launch} {ad : Nat → Nat} {ca : FieldType → ClassId} {D : va_G} {tt : Nat → Nat} (a1 : Int32) : zC l yX11_count cX11_count 2 (some .int) 1 layX ad ca D (xtX ad tt) [.ref (ad 0), .int a1] zvi (p_X11_count a1) := by
  refine z_enter (by decide) (Nat.le_of_ble_eq_true rfl) (fun E hE hl0 hcD hr => ?_)
  have hE : zok layX ad (xtX ad tt) E cX11_count 2 RX11 1 := hE
  show Z layX ad E 2 (zFin layX ad E zvi) 0 [(0, .ref (ad 0)), (1, .int a1)] [] (p_X11_count a1)
  unfold p_X11_count
  refine z_iload_n (pc := 0) hE 1 1 rfl rfl dX11_count_0 ?_
  refine z_case a1 (0 : Int32) (fun hc1 => ?_) (fun hc1 => ?_)
  · refine z_tableIn (pc := 1) hE 63 64 dX11_count_1 (by rw [hc1]; decide) (by rw [hc1]; decide) (by rw [hc1]; rfl) rfl ?_
    refine z_aload_n (pc := 64) hE 0 0 rfl rfl dX11_count_64 ?_
    refine z_getr (pc := 65) hE fk_RX11_19 lX_0 rfl dX11_count_65 ?_
    refine z_geti (pc := 68) hE fk_RX11_331 lX_3 rfl dX11_count_68 (fun x2 => ?_)
    exact z_ireturn (pc := 71) hE hr dX11_count_71
  refine z_case a1 (1 : Int32) (fun hc3 => ?_) (fun hc3 => ?_)
  · refine z_tableIn (pc := 1) hE 71 72 dX11_count_1 (by rw [hc3]; decide) (by rw [hc3]; decide) (by rw [hc3]; rfl) rfl ?_
    refine z_aload_n (pc := 72) hE 0 0 rfl rfl dX11_count_72 ?_
    refine z_getr (pc := 73) hE fk_RX11_42 lX_0 rfl dX11_count_73 ?_
    refine z_geti (pc := 76) hE fk_RX11_197 lX_20 rfl dX11_count_76 (fun x4 => ?_)
    exact z_ireturn (pc := 79) hE hr dX11_count_79
  refine z_case a1 (2 : Int32) (fun hc5 => ?_) (fun hc5 => ?_)
  · refine z_tableIn (pc := 1) hE 79 80 dX11_count_1 (by rw [hc5]; decide) (by rw [hc5]; decide) (by rw [hc5]; rfl) rfl ?_
    refine z_aload_n (pc := 80) hE 0 0 rfl rfl dX11_count_80 ?_
    refine z_getr (pc := 81) hE fk_RX11_42 lX_0 rfl dX11_count_81 ?_
    refine z_geti (pc := 84) hE fk_RX11_430 lX_20 rfl dX11_count_84 (fun x6 => ?_)
    exact z_ireturn (pc := 87) hE hr dX11_count_87
  refine z_case a1 (3 : Int32) (fun hc7 => ?_) (fun hc7 => ?_)
  · refine z_tableIn (pc := 1) hE 87 88 dX11_count_1 (by rw [hc7]; decide) (by rw [hc7]; decide) (by rw [hc7]; rfl) rfl ?_
    refine z_aload_n (pc := 88) hE 0 0 rfl rfl dX11_count_88 ?_
    refine z_getr (pc := 89) hE fk_RX11_42 lX_0 rfl dX11_count_89 ?_
    refine z_iconst (pc := 92) hE dX11_count_92 q_iconst_0 ?_
    refine z_callVi (pc := 93) (st := []) [.int ((0 : Int32))] hE kk_RX11_247 (c_X3_those 20 zfk_20 ((0 : Int32))) lX_20 rfl rfl rfl (Nat.le_of_ble_eq_true rfl) (by decide) dX11_count_93 (fun x8 => ?_)
    exact z_ireturn (pc := 96) hE hr dX11_count_96
  refine z_case a1 (4 : Int32) (fun hc9 => ?_) (fun hc9 => ?_)
  · refine z_tableIn (pc := 1) hE 96 97 dX11_count_1 (by rw [hc9]; decide) (by rw [hc9]; decide) (by rw [hc9]; rfl) rfl ?_
    refine z_aload_n (pc := 97) hE 0 0 rfl rfl dX11_count_97 ?_
    refine z_getr (pc := 98) hE fk_RX11_42 lX_0 rfl dX11_count_98 ?_
    refine z_iconst (pc := 101) hE dX11_count_101 q_iconst_1 ?_
    refine z_callVi (pc := 102) (st := []) [.int ((1 : Int32))] hE kk_RX11_247 (c_X3_those 20 zfk_20 ((1 : Int32))) lX_20 rfl rfl rfl (Nat.le_of_ble_eq_true rfl) (by decide) dX11_count_102 (fun x10 => ?_)
    exact z_ireturn (pc := 105) hE hr dX11_count_105
  refine z_case a1 (5 : Int32) (fun hc11 => ?_) (fun hc11 => ?_)
  · refine z_tableIn (pc := 1) hE 105 106 dX11_count_1 (by rw [hc11]; decide) (by rw [hc11]; decide) (by rw [hc11]; rfl) rfl ?_
    refine z_aload_n (pc := 106) hE 0 0 rfl rfl dX11_count_106 ?_
    refine z_getr (pc := 107) hE fk_RX11_42 lX_0 rfl dX11_count_107 ?_
    refine z_iconst (pc := 110) hE dX11_count_110 q_iconst_2 ?_
    refine z_callVi (pc := 111) (st := []) [.int ((2 : Int32))] hE kk_RX11_247 (c_X3_those 20 zfk_20 ((2 : Int32))) lX_20 rfl rfl rfl (Nat.le_of_ble_eq_true rfl) (by decide) dX11_count_111 (fun x12 => ?_)
    exact z_ireturn (pc := 114) hE hr dX11_count_114
  refine z_case a1 (6 : Int32) (fun hc13 => ?_) (fun hc13 => ?_)
  · refine z_tableIn (pc := 1) hE 114 115 dX11_count_1 (by rw [hc13]; decide) (by rw [hc13]; decide) (by rw [hc13]; rfl) rfl ?_
    refine z_aload_n (pc := 115) hE 0 0 rfl rfl dX11_count_115 ?_
    refine z_getr (pc := 116) hE fk_RX11_42 lX_0 rfl dX11_count_116 ?_
    refine z_iconst (pc := 119) hE dX11_count_119 q_iconst_3 ?_
    refine z_callVi (pc := 120) (st := []) [.int ((3 : Int32))] hE kk_RX11_247 (c_X3_those 20 zfk_20 ((3 : Int32))) lX_20 rfl rfl rfl (Nat.le_of_ble_eq_true rfl) (by decide) dX11_count_120 (fun x14 => ?_)
    exact z_ireturn (pc := 123) hE hr dX11_count_123
  refine z_case a1 (7 : Int32) (fun hc15 => ?_) (fun hc15 => ?_)
  · refine z_tableIn (pc := 1) hE 123 124 dX11_count_1 (by rw [hc15]; decide) (by rw [hc15]; decide) (by rw [hc15]; rfl) rfl ?_
    refine z_aload_n (pc := 124) hE 0 0 rfl rfl dX11_count_124 ?_
    refine z_getr (pc := 125) hE fk_RX11_42 lX_0 rfl dX11_count_125 ?_
    refine z_geti (pc := 128) hE fk_RX11_194 lX_20 rfl dX11_count_128 (fun x16 => ?_)
    exact z_ireturn (pc := 131) hE hr dX11_count_131
  refine z_case a1 (8 : Int32) (fun hc17 => ?_) (fun hc17 => ?_)
  · refine z_tableIn (pc := 1) hE 131 132 dX11_count_1 (by rw [hc17]; decide) (by rw [hc17]; decide) (by rw [hc17]; rfl) rfl ?_
    refine z_aload_n (pc := 132) hE 0 0 rfl rfl dX11_count_132 ?_
    refine z_getr (pc := 133) hE fk_RX11_66 lX_0 rfl dX11_count_133 ?_
    refine z_geti (pc := 136) hE fk_RX11_121 lX_50 rfl dX11_count_136 (fun x18 => ?_)
    exact z_ireturn (pc := 139) hE hr dX11_count_139
  refine z_case a1 (9 : Int32) (fun hc19 => ?_) (fun hc19 => ?_)
  · refine z_tableIn (pc := 1) hE 139 140 dX11_count_1 (by rw [hc19]; decide) (by rw [hc19]; decide) (by rw [hc19]; rfl) rfl ?_
    refine z_aload_n (pc := 140) hE 0 0 rfl rfl dX11_count_140 ?_
    refine z_getr (pc := 141) hE fk_RX11_52 lX_0 rfl dX11_count_141 ?_
    refine z_geti (pc := 144) hE fk_RX11_266 lX_44 rfl dX11_count_144 (fun x20 => ?_)
    exact z_ireturn (pc := 147) hE hr dX11_count_147
  refine z_case a1 (10 : Int32) (fun hc21 => ?_) (fun hc21 => ?_)
  · refine z_tableIn (pc := 1) hE 147 148 dX11_count_1 (by rw [hc21]; decide) (by rw [hc21]; decide) (by rw [hc21]; rfl) rfl ?_
    refine z_aload_n (pc := 148) hE 0 0 rfl rfl dX11_count_148 ?_
    refine z_getr (pc := 149) hE fk_RX11_59 lX_0 rfl dX11_count_149 ?_
    refine z_geti (pc := 152) hE fk_RX11_288 lX_48 rfl dX11_count_152 (fun x22 => ?_)
    exact z_ireturn (pc := 155) hE hr dX11_count_155
  refine z_case a1 (11 : Int32) (fun hc23 => ?_) (fun hc23 => ?_)
  · refine z_tableIn (pc := 1) hE 155 156 dX11_count_1 (by rw [hc23]; decide) (by rw [hc23]; decide) (by rw [hc23]; rfl) rfl ?_
    refine z_aload_n (pc := 156) hE 0 0 rfl rfl dX11_count_156 ?_
    refine z_getr (pc := 157) hE fk_RX11_10 lX_0 rfl dX11_count_157 ?_
    refine z_geti (pc := 160) hE fk_RX11_95 lX_1 rfl dX11_count_160 (fun x24 => ?_)
    exact z_ireturn (pc := 163) hE hr dX11_count_163
  have ihc1 := zne (0) hc1 (by decide)
  have ihc3 := zne (1) hc3 (by decide)
  have ihc5 := zne (2) hc5 (by decide)
  have ihc7 := zne (3) hc7 (by decide)
  have ihc9 := zne (4) hc9 (by decide)
  have ihc11 := zne (5) hc11 (by decide)
  have ihc13 := zne (6) hc13 (by decide)
  have ihc15 := zne (7) hc15 (by decide)
  have ihc17 := zne (8) hc17 (by decide)
  have ihc19 := zne (9) hc19 (by decide)
  have ihc21 := zne (10) hc21 (by decide)
  have ihc23 := zne (11) hc23 (by decide)
  refine z_tableOut (pc := 1) hE 164 dX11_count_1 (by omega) rfl ?_
  refine z_bipush (pc := 164) hE dX11_count_164 q_bipush_m100 ?_
  exact z_ireturn (pc := 166) hE hr dX11_count_166
set_option maxRecDepth 100000 in
set_option maxHeartbeats 4000000 in
theorem c_X11_row {l : Launch} {ad : Nat → Nat} {ca : FieldType → ClassId} {D : va_G} {tt : Nat → Nat} (hlt : l.stackTraces = false) (a1 : Int32) : zCX l yX11_row cX11_row 2 (some .long) 6 layX ad ca D (xtX ad tt) [.ref (ad 0), .int a1] zvl (p_X11_row a1) := by
  refine z_enterX hlt (by decide) (Nat.le_of_ble_eq_true rfl) (fun E hE hlt hT hrm hr => ?_)
  have hE : zok layX ad (xtX ad tt) E cX11_row 2 RX11 6 := hE
  show Z layX ad E 2 (zFinX layX ad E zvl) 0 [(0, .ref (ad 0)), (1, .int a1)] [] (p_X11_row a1)
  unfold p_X11_row
  refine z_iload_n (pc := 0) hE 1 1 rfl rfl dX11_row_0 ?_
  refine z_join (Y := Unit) (pcJ := 15) (Lj := fun y1 => []) (sj := fun y1 => []) (fun y1 => ?_) (fun j2 hj2 => ?_)
  · exact z_throw (pc := 15) hE xThr hlt hT hrm (Nat.le_of_ble_eq_true rfl) (by decide) dX11_row_15 dX11_row_18 dX11_row_19 dX11_row_22
  refine z_if_lt (pc := 1) hE 15 rfl dX11_row_1 ?_ ?_
  · exact z_sub [] rfl (hj2 ())
  · refine z_iload_n (pc := 4) hE 1 1 rfl rfl dX11_row_4 ?_
    refine z_aload_n (pc := 5) hE 0 0 rfl rfl dX11_row_5 ?_
    refine z_getr (pc := 6) hE fk_RX11_59 lX_0 rfl dX11_row_6 ?_
    refine z_geti (pc := 9) hE fk_RX11_288 lX_48 rfl dX11_row_9 (fun x3 => ?_)
    refine z_icmp_lt (pc := 12) hE 23 rfl dX11_row_12 ?_ ?_
    · refine z_aload_n (pc := 23) hE 0 0 rfl rfl dX11_row_23 ?_
      refine z_getr (pc := 24) hE fk_RX11_59 lX_0 rfl dX11_row_24 ?_
      refine z_getr (pc := 27) hE fk_RX11_433 lX_48 rfl dX11_row_27 ?_
      refine z_iload_n (pc := 30) hE 1 1 rfl rfl dX11_row_30 ?_
      refine z_lald (pc := 31) hE lX_49 dX11_row_31 (fun x4 => ?_)
      exact z_lreturnX (pc := 32) hE hr dX11_row_32
    · exact z_sub [] rfl (hj2 ())
