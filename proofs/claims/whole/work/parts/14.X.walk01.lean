set_option maxRecDepth 100000 in
set_option maxHeartbeats 4000000 in
theorem c_X8_isRead {l : Launch} {ad : Nat → Nat} {ca : FieldType → ClassId} {D : va_G} {tt : Nat → Nat}  : zC l yX8_isRead cX8_isRead 1 (some .boolean) 0 layX ad ca D (xtX ad tt) [.ref (ad 1)] zvi (p_X8_isRead) := by
  refine z_enter (by decide) (Nat.le_of_ble_eq_true rfl) (fun E hE hl0 hcD hr => ?_)
  have hE : zok layX ad (xtX ad tt) E cX8_isRead 1 RX8 0 := hE
  show Z layX ad E 1 (zFin layX ad E zvi) 0 [(0, .ref (ad 1))] [] (p_X8_isRead)
  unfold p_X8_isRead
  refine z_aload_n (pc := 0) hE 0 0 rfl rfl dX8_isRead_0 ?_
  refine z_geti (pc := 1) hE fk_RX8_19 lX_1 rfl dX8_isRead_1 (fun x1 => ?_)
  refine z_aload_n (pc := 4) hE 0 0 rfl rfl dX8_isRead_4 ?_
  refine z_geti (pc := 5) hE fk_RX8_15 lX_1 rfl dX8_isRead_5 (fun x2 => ?_)
  refine z_icmp_ne (pc := 8) hE 15 rfl dX8_isRead_8 ?_ ?_
  · refine z_iconst (pc := 15) hE dX8_isRead_15 q_iconst_0 ?_
    exact z_zreturn (pc := 16) hE hr dX8_isRead_16
  · refine z_iconst (pc := 11) hE dX8_isRead_11 q_iconst_1 ?_
    refine z_goto (pc := 12) hE 16 rfl dX8_isRead_12 ?_
    exact z_zreturn (pc := 16) hE hr dX8_isRead_16
set_option maxRecDepth 100000 in
set_option maxHeartbeats 4000000 in
theorem c_X8_next {l : Launch} {ad : Nat → Nat} {ca : FieldType → ClassId} {D : va_G} {tt : Nat → Nat}  : zC l yX8_next cX8_next 1 (some .int) 0 layX ad ca D (xtX ad tt) [.ref (ad 1)] zvi (p_X8_next) := by
  refine z_enter (by decide) (Nat.le_of_ble_eq_true rfl) (fun E hE hl0 hcD hr => ?_)
  have hE : zok layX ad (xtX ad tt) E cX8_next 1 RX8 0 := hE
  show Z layX ad E 1 (zFin layX ad E zvi) 0 [(0, .ref (ad 1))] [] (p_X8_next)
  unfold p_X8_next
  refine z_aload_n (pc := 0) hE 0 0 rfl rfl dX8_next_0 ?_
  refine z_geti (pc := 1) hE fk_RX8_19 lX_1 rfl dX8_next_1 (fun x1 => ?_)
  refine z_aload_n (pc := 4) hE 0 0 rfl rfl dX8_next_4 ?_
  refine z_geti (pc := 5) hE fk_RX8_28 lX_1 rfl dX8_next_5 (fun x2 => ?_)
  refine z_icmp_ge (pc := 8) hE 23 rfl dX8_next_8 ?_ ?_
  · refine z_iconst (pc := 23) hE dX8_next_23 q_iconst_m1 ?_
    exact z_ireturn (pc := 24) hE hr dX8_next_24
  · refine z_aload_n (pc := 11) hE 0 0 rfl rfl dX8_next_11 ?_
    refine z_getr (pc := 12) hE fk_RX8_9 lX_1 rfl dX8_next_12 ?_
    refine z_aload_n (pc := 15) hE 0 0 rfl rfl dX8_next_15 ?_
    refine z_geti (pc := 16) hE fk_RX8_19 lX_1 rfl dX8_next_16 (fun x3 => ?_)
    refine z_cald (pc := 19) hE lX_2 dX8_next_19 (fun x4 => ?_)
    refine z_goto (pc := 20) hE 24 rfl dX8_next_20 ?_
    exact z_ireturn (pc := 24) hE hr dX8_next_24
set_option maxRecDepth 100000 in
set_option maxHeartbeats 4000000 in
theorem c_X8_step {l : Launch} {ad : Nat → Nat} {ca : FieldType → ClassId} {D : va_G} {tt : Nat → Nat}  : zC l yX8_step cX8_step 1 none 0 layX ad ca D (xtX ad tt) [.ref (ad 1)] zvn (p_X8_step) := by
  refine z_enter (by decide) (Nat.le_of_ble_eq_true rfl) (fun E hE hl0 hcD hr => ?_)
  have hE : zok layX ad (xtX ad tt) E cX8_step 1 RX8 0 := hE
  show Z layX ad E 1 (zFin layX ad E zvn) 0 [(0, .ref (ad 1))] [] (p_X8_step)
  unfold p_X8_step
  refine z_aload_n (pc := 0) hE 0 0 rfl rfl dX8_step_0 ?_
  refine z_dup (pc := 1) hE dX8_step_1 rfl ?_
  refine z_geti (pc := 2) hE fk_RX8_19 lX_1 rfl dX8_step_2 (fun x1 => ?_)
  refine z_iconst (pc := 5) hE dX8_step_5 q_iconst_1 ?_
  refine z_iadd (pc := 6) hE dX8_step_6 ?_
  refine z_puti (pc := 7) hE fk_RX8_19 lX_1 rfl dX8_step_7 ?_
  exact z_return (pc := 10) hE hr dX8_step_10
set_option maxRecDepth 100000 in
set_option maxHeartbeats 4000000 in
theorem c_X8_digit {l : Launch} {ad : Nat → Nat} {ca : FieldType → ClassId} {D : va_G} {tt : Nat → Nat} (a1 : Int32) (a2 : Int32) : zC l yX8_digit cX8_digit 4 (some .int) 0 layX ad ca D (xtX ad tt) [.ref (ad 1), .int a1, .int a2] zvi (p_X8_digit a1 a2) := by
  refine z_enter (by decide) (Nat.le_of_ble_eq_true rfl) (fun E hE hl0 hcD hr => ?_)
  have hE : zok layX ad (xtX ad tt) E cX8_digit 4 RX8 0 := hE
  show Z layX ad E 4 (zFin layX ad E zvi) 0 [(0, .ref (ad 1)), (1, .int a1), (2, .int a2)] [] (p_X8_digit a1 a2)
  unfold p_X8_digit
  refine z_aload_n (pc := 0) hE 0 0 rfl rfl dX8_digit_0 ?_
  refine z_geti (pc := 1) hE fk_RX8_19 lX_1 rfl dX8_digit_1 (fun x1 => ?_)
  refine z_aload_n (pc := 4) hE 0 0 rfl rfl dX8_digit_4 ?_
  refine z_geti (pc := 5) hE fk_RX8_28 lX_1 rfl dX8_digit_5 (fun x2 => ?_)
  refine z_join (Y := Int32) (pcJ := 27) (Lj := fun y3 => [(0, .ref (ad 1)), (1, .int a1), (2, .int a2)]) (sj := fun y3 => [.int y3]) (fun y3 => ?_) (fun j4 hj4 => ?_)
  · refine z_istore_n (L' := [(3, .int y3), (0, .ref (ad 1)), (1, .int a1), (2, .int a2)]) (pc := 27) hE 3 rfl (by decide) rfl dX8_digit_27 ?_
    refine z_iload_n (pc := 28) hE 0 3 rfl rfl dX8_digit_28 ?_
    refine z_iload_n (pc := 29) hE 2 1 rfl rfl dX8_digit_29 ?_
    refine z_icmp_lt (pc := 30) hE 38 rfl dX8_digit_30 ?_ ?_
    · refine z_iconst (pc := 38) hE dX8_digit_38 q_iconst_m1 ?_
      exact z_ireturn (pc := 39) hE hr dX8_digit_39
    · refine z_iload_n (pc := 33) hE 0 3 rfl rfl dX8_digit_33 ?_
      refine z_iload_n (pc := 34) hE 3 2 rfl rfl dX8_digit_34 ?_
      refine z_icmp_le (pc := 35) hE 40 rfl dX8_digit_35 ?_ ?_
      · refine z_aload_n (pc := 40) hE 1 0 rfl rfl dX8_digit_40 ?_
        refine z_dup (pc := 41) hE dX8_digit_41 rfl ?_
        refine z_geti (pc := 42) hE fk_RX8_19 lX_1 rfl dX8_digit_42 (fun x5 => ?_)
        refine z_iconst (pc := 45) hE dX8_digit_45 q_iconst_1 ?_
        refine z_iadd (pc := 46) hE dX8_digit_46 ?_
        refine z_puti (pc := 47) hE fk_RX8_19 lX_1 rfl dX8_digit_47 ?_
        refine z_iload_n (pc := 50) hE 0 3 rfl rfl dX8_digit_50 ?_
        exact z_ireturn (pc := 51) hE hr dX8_digit_51
      · refine z_iconst (pc := 38) hE dX8_digit_38 q_iconst_m1 ?_
        exact z_ireturn (pc := 39) hE hr dX8_digit_39
  refine z_icmp_ge (pc := 8) hE 26 rfl dX8_digit_8 ?_ ?_
  · refine z_iconst (pc := 26) hE dX8_digit_26 q_iconst_m1 ?_
    exact z_sub [0, 1, 2] rfl (hj4 ((-1 : Int32)))
  · refine z_aload_n (pc := 11) hE 0 0 rfl rfl dX8_digit_11 ?_
    refine z_getr (pc := 12) hE fk_RX8_9 lX_1 rfl dX8_digit_12 ?_
    refine z_aload_n (pc := 15) hE 0 0 rfl rfl dX8_digit_15 ?_
    refine z_geti (pc := 16) hE fk_RX8_19 lX_1 rfl dX8_digit_16 (fun x6 => ?_)
    refine z_cald (pc := 19) hE lX_2 dX8_digit_19 (fun x7 => ?_)
    refine z_bipush (pc := 20) hE dX8_digit_20 q_bipush_48 ?_
    refine z_isub (pc := 22) hE dX8_digit_22 ?_
    refine z_goto (pc := 23) hE 27 rfl dX8_digit_23 ?_
    exact z_sub [0, 1, 2] rfl (hj4 (x7 - ((48 : Int32))))
set_option maxRecDepth 100000 in
set_option maxHeartbeats 4000000 in
theorem c_X0_readFirst {l : Launch} {ad : Nat → Nat} {ca : FieldType → ClassId} {D : va_G} {tt : Nat → Nat} (a2 : Int32) : zC l yX0_readFirst cX0_readFirst 3 (some .boolean) 1 layX ad ca D (xtX ad tt) [.ref (ad 58), .ref (ad 1), .int a2] zvi (p_X0_readFirst a2) := by
  refine z_enter (by decide) (Nat.le_of_ble_eq_true rfl) (fun E hE hl0 hcD hr => ?_)
  have hE : zok layX ad (xtX ad tt) E cX0_readFirst 3 RX0 1 := hE
  show Z layX ad E 3 (zFin layX ad E zvi) 0 [(0, .ref (ad 58)), (1, .ref (ad 1)), (2, .int a2)] [] (p_X0_readFirst a2)
  unfold p_X0_readFirst
  refine z_aload_n (pc := 0) hE 0 0 rfl rfl dX0_readFirst_0 ?_
  refine z_getr (pc := 1) hE fk_RX0_15 lX_58 rfl dX0_readFirst_1 ?_
  refine z_iload_n (pc := 4) hE 2 2 rfl rfl dX0_readFirst_4 ?_
  refine z_aload_n (pc := 5) hE 1 1 rfl rfl dX0_readFirst_5 ?_
  refine z_iconst (pc := 6) hE dX0_readFirst_6 q_iconst_0 ?_
  refine z_bipush (pc := 7) hE dX0_readFirst_7 q_bipush_9 ?_
  refine z_callVi (pc := 9) (st := [.int a2, .ref (ad 60)]) [.int ((0 : Int32)), .int ((9 : Int32))] hE kk_RX0_58 (c_X8_digit ((0 : Int32)) ((9 : Int32))) lX_1 rfl rfl rfl (Nat.le_of_ble_eq_true rfl) (by decide) dX0_readFirst_9 (fun x1 => ?_)
  refine z_iast (pc := 12) hE lX_60 dX0_readFirst_12 ?_
  refine z_aload_n (pc := 13) hE 0 0 rfl rfl dX0_readFirst_13 ?_
  refine z_getr (pc := 14) hE fk_RX0_15 lX_58 rfl dX0_readFirst_14 ?_
  refine z_iload_n (pc := 17) hE 2 2 rfl rfl dX0_readFirst_17 ?_
  refine z_iald (pc := 18) hE lX_60 dX0_readFirst_18 (fun x2 => ?_)
  refine z_if_lt (pc := 19) hE 26 rfl dX0_readFirst_19 ?_ ?_
  · refine z_iconst (pc := 26) hE dX0_readFirst_26 q_iconst_0 ?_
    exact z_zreturn (pc := 27) hE hr dX0_readFirst_27
  · refine z_iconst (pc := 22) hE dX0_readFirst_22 q_iconst_1 ?_
    refine z_goto (pc := 23) hE 27 rfl dX0_readFirst_23 ?_
    exact z_zreturn (pc := 27) hE hr dX0_readFirst_27
set_option maxRecDepth 100000 in
set_option maxHeartbeats 4000000 in
theorem c_X0_readSecond {l : Launch} {ad : Nat → Nat} {ca : FieldType → ClassId} {D : va_G} {tt : Nat → Nat} (a2 : Int32) : zC l yX0_readSecond cX0_readSecond 3 (some .boolean) 1 layX ad ca D (xtX ad tt) [.ref (ad 58), .ref (ad 1), .int a2] zvi (p_X0_readSecond a2) := by
  refine z_enter (by decide) (Nat.le_of_ble_eq_true rfl) (fun E hE hl0 hcD hr => ?_)
  have hE : zok layX ad (xtX ad tt) E cX0_readSecond 3 RX0 1 := hE
  show Z layX ad E 3 (zFin layX ad E zvi) 0 [(0, .ref (ad 58)), (1, .ref (ad 1)), (2, .int a2)] [] (p_X0_readSecond a2)
  unfold p_X0_readSecond
  refine z_aload_n (pc := 0) hE 0 0 rfl rfl dX0_readSecond_0 ?_
  refine z_getr (pc := 1) hE fk_RX0_18 lX_58 rfl dX0_readSecond_1 ?_
  refine z_iload_n (pc := 4) hE 2 2 rfl rfl dX0_readSecond_4 ?_
  refine z_aload_n (pc := 5) hE 1 1 rfl rfl dX0_readSecond_5 ?_
  refine z_iconst (pc := 6) hE dX0_readSecond_6 q_iconst_0 ?_
  refine z_bipush (pc := 7) hE dX0_readSecond_7 q_bipush_9 ?_
  refine z_callVi (pc := 9) (st := [.int a2, .ref (ad 61)]) [.int ((0 : Int32)), .int ((9 : Int32))] hE kk_RX0_58 (c_X8_digit ((0 : Int32)) ((9 : Int32))) lX_1 rfl rfl rfl (Nat.le_of_ble_eq_true rfl) (by decide) dX0_readSecond_9 (fun x1 => ?_)
  refine z_iast (pc := 12) hE lX_61 dX0_readSecond_12 ?_
  refine z_aload_n (pc := 13) hE 0 0 rfl rfl dX0_readSecond_13 ?_
  refine z_getr (pc := 14) hE fk_RX0_18 lX_58 rfl dX0_readSecond_14 ?_
  refine z_iload_n (pc := 17) hE 2 2 rfl rfl dX0_readSecond_17 ?_
  refine z_iald (pc := 18) hE lX_61 dX0_readSecond_18 (fun x2 => ?_)
  refine z_if_lt (pc := 19) hE 26 rfl dX0_readSecond_19 ?_ ?_
  · refine z_iconst (pc := 26) hE dX0_readSecond_26 q_iconst_0 ?_
    exact z_zreturn (pc := 27) hE hr dX0_readSecond_27
  · refine z_iconst (pc := 22) hE dX0_readSecond_22 q_iconst_1 ?_
    refine z_goto (pc := 23) hE 27 rfl dX0_readSecond_23 ?_
    exact z_zreturn (pc := 27) hE hr dX0_readSecond_27
set_option maxRecDepth 100000 in
set_option maxHeartbeats 4000000 in
theorem c_X8_take {l : Launch} {ad : Nat → Nat} {ca : FieldType → ClassId} {D : va_G} {tt : Nat → Nat} (a1 : Int32) : zC l yX8_take cX8_take 2 (some .boolean) 0 layX ad ca D (xtX ad tt) [.ref (ad 1), .int a1] zvi (p_X8_take a1) := by
  refine z_enter (by decide) (Nat.le_of_ble_eq_true rfl) (fun E hE hl0 hcD hr => ?_)
  have hE : zok layX ad (xtX ad tt) E cX8_take 2 RX8 0 := hE
  show Z layX ad E 2 (zFin layX ad E zvi) 0 [(0, .ref (ad 1)), (1, .int a1)] [] (p_X8_take a1)
  unfold p_X8_take
  refine z_aload_n (pc := 0) hE 0 0 rfl rfl dX8_take_0 ?_
  refine z_geti (pc := 1) hE fk_RX8_19 lX_1 rfl dX8_take_1 (fun x1 => ?_)
  refine z_aload_n (pc := 4) hE 0 0 rfl rfl dX8_take_4 ?_
  refine z_geti (pc := 5) hE fk_RX8_28 lX_1 rfl dX8_take_5 (fun x2 => ?_)
  refine z_icmp_ge (pc := 8) hE 24 rfl dX8_take_8 ?_ ?_
  · refine z_iconst (pc := 24) hE dX8_take_24 q_iconst_0 ?_
    exact z_zreturn (pc := 25) hE hr dX8_take_25
  · refine z_aload_n (pc := 11) hE 0 0 rfl rfl dX8_take_11 ?_
    refine z_getr (pc := 12) hE fk_RX8_9 lX_1 rfl dX8_take_12 ?_
    refine z_aload_n (pc := 15) hE 0 0 rfl rfl dX8_take_15 ?_
    refine z_geti (pc := 16) hE fk_RX8_19 lX_1 rfl dX8_take_16 (fun x3 => ?_)
    refine z_cald (pc := 19) hE lX_2 dX8_take_19 (fun x4 => ?_)
    refine z_iload_n (pc := 20) hE 1 1 rfl rfl dX8_take_20 ?_
    refine z_icmp_eq (pc := 21) hE 26 rfl dX8_take_21 ?_ ?_
    · refine z_aload_n (pc := 26) hE 0 0 rfl rfl dX8_take_26 ?_
      refine z_dup (pc := 27) hE dX8_take_27 rfl ?_
      refine z_geti (pc := 28) hE fk_RX8_19 lX_1 rfl dX8_take_28 (fun x5 => ?_)
      refine z_iconst (pc := 31) hE dX8_take_31 q_iconst_1 ?_
      refine z_iadd (pc := 32) hE dX8_take_32 ?_
      refine z_puti (pc := 33) hE fk_RX8_19 lX_1 rfl dX8_take_33 ?_
      refine z_iconst (pc := 36) hE dX8_take_36 q_iconst_1 ?_
      exact z_zreturn (pc := 37) hE hr dX8_take_37
    · refine z_iconst (pc := 24) hE dX8_take_24 q_iconst_0 ?_
      exact z_zreturn (pc := 25) hE hr dX8_take_25
set_option maxRecDepth 100000 in
set_option maxHeartbeats 4000000 in
theorem c_X0_readChange {l : Launch} {ad : Nat → Nat} {ca : FieldType → ClassId} {D : va_G} {tt : Nat → Nat} (a2 : Int32) : zC l yX0_readChange cX0_readChange 4 (some .boolean) 2 layX ad ca D (xtX ad tt) [.ref (ad 58), .ref (ad 1), .int a2] zvi (p_X0_readChange a2) := by
  refine z_enter (by decide) (Nat.le_of_ble_eq_true rfl) (fun E hE hl0 hcD hr => ?_)
  have hE : zok layX ad (xtX ad tt) E cX0_readChange 4 RX0 2 := hE
  show Z layX ad E 4 (zFin layX ad E zvi) 0 [(0, .ref (ad 58)), (1, .ref (ad 1)), (2, .int a2)] [] (p_X0_readChange a2)
  unfold p_X0_readChange
  refine z_aload_n (pc := 0) hE 1 1 rfl rfl dX0_readChange_0 ?_
  refine z_bipush (pc := 1) hE dX0_readChange_1 q_bipush_45 ?_
  refine z_callVi (pc := 3) (st := []) [.int ((45 : Int32))] hE kk_RX0_35 (c_X8_take ((45 : Int32))) lX_1 rfl rfl rfl (Nat.le_of_ble_eq_true rfl) (by decide) dX0_readChange_3 (fun x1 => ?_)
  refine z_istore_n (L' := [(3, .int x1), (0, .ref (ad 58)), (1, .ref (ad 1)), (2, .int a2)]) (pc := 6) hE 3 rfl (by decide) rfl dX0_readChange_6 ?_
  refine z_iload_n (pc := 7) hE 0 3 rfl rfl dX0_readChange_7 ?_
  refine z_join (Y := Unit) (pcJ := 20) (Lj := fun y2 => [(0, .ref (ad 58)), (1, .ref (ad 1)), (2, .int a2), (3, .int x1)]) (sj := fun y2 => []) (fun y2 => ?_) (fun j3 hj3 => ?_)
  · refine z_aload_n (pc := 20) hE 0 0 rfl rfl dX0_readChange_20 ?_
    refine z_aload_n (pc := 21) hE 1 1 rfl rfl dX0_readChange_21 ?_
    refine z_iload_n (pc := 22) hE 2 2 rfl rfl dX0_readChange_22 ?_
    refine z_callVi (pc := 23) (st := []) [.ref (ad 1), .int a2] hE kk_RX0_49 (c_X0_readSecond a2) lX_58 rfl rfl rfl (Nat.le_of_ble_eq_true rfl) (by decide) dX0_readChange_23 (fun x4 => ?_)
    refine z_if_ne (pc := 26) hE 31 rfl dX0_readChange_26 ?_ ?_
    · refine z_aload_n (pc := 31) hE 0 0 rfl rfl dX0_readChange_31 ?_
      refine z_getr (pc := 32) hE fk_RX0_18 lX_58 rfl dX0_readChange_32 ?_
      refine z_iload_n (pc := 35) hE 2 2 rfl rfl dX0_readChange_35 ?_
      refine z_iload_n (pc := 36) hE 3 3 rfl rfl dX0_readChange_36 ?_
      refine z_if_eq (pc := 37) hE 50 rfl dX0_readChange_37 ?_ ?_
      · refine z_aload_n (pc := 50) hE 0 0 rfl rfl dX0_readChange_50 ?_
        refine z_getr (pc := 51) hE fk_RX0_18 lX_58 rfl dX0_readChange_51 ?_
        refine z_iload_n (pc := 54) hE 2 2 rfl rfl dX0_readChange_54 ?_
        refine z_iald (pc := 55) hE lX_61 dX0_readChange_55 (fun x5 => ?_)
        refine z_iast (pc := 56) hE lX_61 dX0_readChange_56 ?_
        refine z_iconst (pc := 57) hE dX0_readChange_57 q_iconst_1 ?_
        exact z_zreturn (pc := 58) hE hr dX0_readChange_58
      · refine z_aload_n (pc := 40) hE 0 0 rfl rfl dX0_readChange_40 ?_
        refine z_getr (pc := 41) hE fk_RX0_18 lX_58 rfl dX0_readChange_41 ?_
        refine z_iload_n (pc := 44) hE 2 2 rfl rfl dX0_readChange_44 ?_
        refine z_iald (pc := 45) hE lX_61 dX0_readChange_45 (fun x6 => ?_)
        refine z_ineg (pc := 46) hE dX0_readChange_46 ?_
        refine z_goto (pc := 47) hE 56 rfl dX0_readChange_47 ?_
        refine z_iast (pc := 56) hE lX_61 dX0_readChange_56 ?_
        refine z_iconst (pc := 57) hE dX0_readChange_57 q_iconst_1 ?_
        exact z_zreturn (pc := 58) hE hr dX0_readChange_58
    · refine z_iconst (pc := 29) hE dX0_readChange_29 q_iconst_0 ?_
      exact z_zreturn (pc := 30) hE hr dX0_readChange_30
  refine z_if_ne (pc := 8) hE 20 rfl dX0_readChange_8 ?_ ?_
  · exact z_sub [1, 2, 3, 0] rfl (hj3 ())
  · refine z_aload_n (pc := 11) hE 2 1 rfl rfl dX0_readChange_11 ?_
    refine z_bipush (pc := 12) hE dX0_readChange_12 q_bipush_43 ?_
    refine z_callVi (pc := 14) (st := []) [.int ((43 : Int32))] hE kk_RX0_35 (c_X8_take ((43 : Int32))) lX_1 rfl rfl rfl (Nat.le_of_ble_eq_true rfl) (by decide) dX0_readChange_14 (fun x7 => ?_)
    refine z_if_eq (pc := 17) hE 29 rfl dX0_readChange_17 ?_ ?_
    · refine z_iconst (pc := 29) hE dX0_readChange_29 q_iconst_0 ?_
      exact z_zreturn (pc := 30) hE hr dX0_readChange_30
    · exact z_sub [1, 2, 3, 0] rfl (hj3 ())
set_option maxRecDepth 100000 in
set_option maxHeartbeats 4000000 in
theorem c_X8_isDigit {l : Launch} {ad : Nat → Nat} {ca : FieldType → ClassId} {D : va_G} {tt : Nat → Nat}  : zC l yX8_isDigit cX8_isDigit 1 (some .boolean) 0 layX ad ca D (xtX ad tt) [.ref (ad 1)] zvi (p_X8_isDigit) := by
  refine z_enter (by decide) (Nat.le_of_ble_eq_true rfl) (fun E hE hl0 hcD hr => ?_)
  have hE : zok layX ad (xtX ad tt) E cX8_isDigit 1 RX8 0 := hE
  show Z layX ad E 1 (zFin layX ad E zvi) 0 [(0, .ref (ad 1))] [] (p_X8_isDigit)
  unfold p_X8_isDigit
  refine z_aload_n (pc := 0) hE 0 0 rfl rfl dX8_isDigit_0 ?_
  refine z_geti (pc := 1) hE fk_RX8_19 lX_1 rfl dX8_isDigit_1 (fun x1 => ?_)
  refine z_aload_n (pc := 4) hE 0 0 rfl rfl dX8_isDigit_4 ?_
  refine z_geti (pc := 5) hE fk_RX8_28 lX_1 rfl dX8_isDigit_5 (fun x2 => ?_)
  refine z_icmp_ge (pc := 8) hE 43 rfl dX8_isDigit_8 ?_ ?_
  · refine z_iconst (pc := 43) hE dX8_isDigit_43 q_iconst_0 ?_
    exact z_zreturn (pc := 44) hE hr dX8_isDigit_44
  · refine z_aload_n (pc := 11) hE 0 0 rfl rfl dX8_isDigit_11 ?_
    refine z_getr (pc := 12) hE fk_RX8_9 lX_1 rfl dX8_isDigit_12 ?_
    refine z_aload_n (pc := 15) hE 0 0 rfl rfl dX8_isDigit_15 ?_
    refine z_geti (pc := 16) hE fk_RX8_19 lX_1 rfl dX8_isDigit_16 (fun x3 => ?_)
    refine z_cald (pc := 19) hE lX_2 dX8_isDigit_19 (fun x4 => ?_)
    refine z_bipush (pc := 20) hE dX8_isDigit_20 q_bipush_48 ?_
    refine z_icmp_lt (pc := 22) hE 43 rfl dX8_isDigit_22 ?_ ?_
    · refine z_iconst (pc := 43) hE dX8_isDigit_43 q_iconst_0 ?_
      exact z_zreturn (pc := 44) hE hr dX8_isDigit_44
    · refine z_aload_n (pc := 25) hE 0 0 rfl rfl dX8_isDigit_25 ?_
      refine z_getr (pc := 26) hE fk_RX8_9 lX_1 rfl dX8_isDigit_26 ?_
      refine z_aload_n (pc := 29) hE 0 0 rfl rfl dX8_isDigit_29 ?_
      refine z_geti (pc := 30) hE fk_RX8_19 lX_1 rfl dX8_isDigit_30 (fun x5 => ?_)
      refine z_cald (pc := 33) hE lX_2 dX8_isDigit_33 (fun x6 => ?_)
      refine z_bipush (pc := 34) hE dX8_isDigit_34 q_bipush_57 ?_
      refine z_icmp_gt (pc := 36) hE 43 rfl dX8_isDigit_36 ?_ ?_
      · refine z_iconst (pc := 43) hE dX8_isDigit_43 q_iconst_0 ?_
        exact z_zreturn (pc := 44) hE hr dX8_isDigit_44
      · refine z_iconst (pc := 39) hE dX8_isDigit_39 q_iconst_1 ?_
        refine z_goto (pc := 40) hE 44 rfl dX8_isDigit_40 ?_
        exact z_zreturn (pc := 44) hE hr dX8_isDigit_44
set_option maxRecDepth 100000 in
set_option maxHeartbeats 4000000 in
theorem c_X8_number {l : Launch} {ad : Nat → Nat} {ca : FieldType → ClassId} {D : va_G} {tt : Nat → Nat}  : zC l yX8_number cX8_number 2 (some .int) 1 layX ad ca D (xtX ad tt) [.ref (ad 1)] zvi (p_X8_number) := by
  refine z_enter (by decide) (Nat.le_of_ble_eq_true rfl) (fun E hE hl0 hcD hr => ?_)
  have hE : zok layX ad (xtX ad tt) E cX8_number 2 RX8 1 := hE
  show Z layX ad E 2 (zFin layX ad E zvi) 0 [(0, .ref (ad 1))] [] (p_X8_number)
  unfold p_X8_number
  refine z_aload_n (pc := 0) hE 0 0 rfl rfl dX8_number_0 ?_
  refine z_iconst (pc := 1) hE dX8_number_1 q_iconst_0 ?_
  refine z_bipush (pc := 2) hE dX8_number_2 q_bipush_9 ?_
  refine z_callVi (pc := 4) (st := []) [.int ((0 : Int32)), .int ((9 : Int32))] hE kk_RX8_31 (c_X8_digit ((0 : Int32)) ((9 : Int32))) lX_1 rfl rfl rfl (Nat.le_of_ble_eq_true rfl) (by decide) dX8_number_4 (fun x1 => ?_)
  refine z_istore_n (L' := [(1, .int x1), (0, .ref (ad 1))]) (pc := 7) hE 1 rfl (by decide) rfl dX8_number_7 ?_
  refine z_iload_n (pc := 8) hE 0 1 rfl rfl dX8_number_8 ?_
  refine z_if_lt (pc := 9) hE 32 rfl dX8_number_9 ?_ ?_
  · refine z_iload_n (pc := 32) hE 0 1 rfl rfl dX8_number_32 ?_
    exact z_ireturn (pc := 33) hE hr dX8_number_33
  · refine z_aload_n (pc := 12) hE 1 0 rfl rfl dX8_number_12 ?_
    refine z_callVi (pc := 13) (st := []) [] hE kk_RX8_34 (c_X8_isDigit) lX_1 rfl rfl rfl (Nat.le_of_ble_eq_true rfl) (by decide) dX8_number_13 (fun x2 => ?_)
    refine z_if_eq (pc := 16) hE 32 rfl dX8_number_16 ?_ ?_
    · refine z_iload_n (pc := 32) hE 0 1 rfl rfl dX8_number_32 ?_
      exact z_ireturn (pc := 33) hE hr dX8_number_33
    · refine z_iload_n (pc := 19) hE 0 1 rfl rfl dX8_number_19 ?_
      refine z_bipush (pc := 20) hE dX8_number_20 q_bipush_10 ?_
      refine z_imul (pc := 22) hE dX8_number_22 ?_
      refine z_aload_n (pc := 23) hE 1 0 rfl rfl dX8_number_23 ?_
      refine z_iconst (pc := 24) hE dX8_number_24 q_iconst_0 ?_
      refine z_bipush (pc := 25) hE dX8_number_25 q_bipush_9 ?_
      refine z_callVi (pc := 27) (st := [.int (x1 * ((10 : Int32)))]) [.int ((0 : Int32)), .int ((9 : Int32))] hE kk_RX8_31 (c_X8_digit ((0 : Int32)) ((9 : Int32))) lX_1 rfl rfl rfl (Nat.le_of_ble_eq_true rfl) (by decide) dX8_number_27 (fun x3 => ?_)
      refine z_iadd (pc := 30) hE dX8_number_30 ?_
      refine z_istore_n (L' := [(1, .int ((x1 * ((10 : Int32))) + x3)), (0, .ref (ad 1))]) (pc := 31) hE 1 rfl (by decide) rfl dX8_number_31 ?_
      refine z_iload_n (pc := 32) hE 0 1 rfl rfl dX8_number_32 ?_
      exact z_ireturn (pc := 33) hE hr dX8_number_33
set_option maxRecDepth 100000 in
set_option maxHeartbeats 4000000 in
theorem c_X0_readOne {l : Launch} {ad : Nat → Nat} {ca : FieldType → ClassId} {D : va_G} {tt : Nat → Nat} (a2 : Int32) : zC l yX0_readOne cX0_readOne 3 (some .boolean) 3 layX ad ca D (xtX ad tt) [.ref (ad 58), .ref (ad 1), .int a2] zvi (p_X0_readOne a2) := by
  refine z_enter (by decide) (Nat.le_of_ble_eq_true rfl) (fun E hE hl0 hcD hr => ?_)
  have hE : zok layX ad (xtX ad tt) E cX0_readOne 3 RX0 3 := hE
  show Z layX ad E 3 (zFin layX ad E zvi) 0 [(0, .ref (ad 58)), (1, .ref (ad 1)), (2, .int a2)] [] (p_X0_readOne a2)
  unfold p_X0_readOne
  refine z_aload_n (pc := 0) hE 0 0 rfl rfl dX0_readOne_0 ?_
  refine z_getr (pc := 1) hE fk_RX0_9 lX_58 rfl dX0_readOne_1 ?_
  refine z_iload_n (pc := 4) hE 2 2 rfl rfl dX0_readOne_4 ?_
  refine z_aload_n (pc := 5) hE 1 1 rfl rfl dX0_readOne_5 ?_
  refine z_callVi (pc := 6) (st := [.int a2, .ref (ad 59)]) [] hE kk_RX0_39 (c_X8_next) lX_1 rfl rfl rfl (Nat.le_of_ble_eq_true rfl) (by decide) dX0_readOne_6 (fun x1 => ?_)
  refine z_iast (pc := 9) hE lX_59 dX0_readOne_9 ?_
  refine z_aload_n (pc := 10) hE 0 0 rfl rfl dX0_readOne_10 ?_
  refine z_getr (pc := 11) hE fk_RX0_9 lX_58 rfl dX0_readOne_11 ?_
  refine z_iload_n (pc := 14) hE 2 2 rfl rfl dX0_readOne_14 ?_
  refine z_iald (pc := 15) hE lX_59 dX0_readOne_15 (fun x2 => ?_)
  refine z_case x2 (99 : Int32) (fun hc3 => ?_) (fun hc3 => ?_)
  · refine z_lookup (pc := 16) hE 52 68 dX0_readOne_16 (by decide) (by rw [hc3]; decide) rfl ?_
    refine z_aload_n (pc := 68) hE 1 1 rfl rfl dX0_readOne_68 ?_
    refine z_callVv (pc := 69) (st := []) [] hE kk_RX0_43 (c_X8_step) lX_1 rfl rfl rfl (Nat.le_of_ble_eq_true rfl) (by decide) dX0_readOne_69 (fun x4 => ?_)
    refine z_aload_n (pc := 72) hE 0 0 rfl rfl dX0_readOne_72 ?_
    refine z_aload_n (pc := 73) hE 1 1 rfl rfl dX0_readOne_73 ?_
    refine z_iload_n (pc := 74) hE 2 2 rfl rfl dX0_readOne_74 ?_
    refine z_callVi (pc := 75) (st := []) [.ref (ad 1), .int a2] hE kk_RX0_46 (c_X0_readFirst a2) lX_58 rfl rfl rfl (Nat.le_of_ble_eq_true rfl) (by decide) dX0_readOne_75 (fun x5 => ?_)
    exact z_zreturn (pc := 78) hE hr dX0_readOne_78
  refine z_case x2 (104 : Int32) (fun hc6 => ?_) (fun hc6 => ?_)
  · refine z_lookup (pc := 16) hE 119 135 dX0_readOne_16 (by decide) (by rw [hc6]; decide) rfl ?_
    refine z_aload_n (pc := 135) hE 1 1 rfl rfl dX0_readOne_135 ?_
    refine z_callVv (pc := 136) (st := []) [] hE kk_RX0_43 (c_X8_step) lX_1 rfl rfl rfl (Nat.le_of_ble_eq_true rfl) (by decide) dX0_readOne_136 (fun x7 => ?_)
    refine z_aload_n (pc := 139) hE 0 0 rfl rfl dX0_readOne_139 ?_
    refine z_getr (pc := 140) hE fk_RX0_15 lX_58 rfl dX0_readOne_140 ?_
    refine z_iload_n (pc := 143) hE 2 2 rfl rfl dX0_readOne_143 ?_
    refine z_aload_n (pc := 144) hE 1 1 rfl rfl dX0_readOne_144 ?_
    refine z_callVi (pc := 145) (st := [.int a2, .ref (ad 60)]) [] hE kk_RX0_55 (c_X8_number) lX_1 rfl rfl rfl (Nat.le_of_ble_eq_true rfl) (by decide) dX0_readOne_145 (fun x8 => ?_)
    refine z_iast (pc := 148) hE lX_60 dX0_readOne_148 ?_
    refine z_aload_n (pc := 149) hE 0 0 rfl rfl dX0_readOne_149 ?_
    refine z_getr (pc := 150) hE fk_RX0_15 lX_58 rfl dX0_readOne_150 ?_
    refine z_iload_n (pc := 153) hE 2 2 rfl rfl dX0_readOne_153 ?_
    refine z_iald (pc := 154) hE lX_60 dX0_readOne_154 (fun x9 => ?_)
    refine z_if_lt (pc := 155) hE 162 rfl dX0_readOne_155 ?_ ?_
    · refine z_iconst (pc := 162) hE dX0_readOne_162 q_iconst_0 ?_
      exact z_zreturn (pc := 163) hE hr dX0_readOne_163
    · refine z_iconst (pc := 158) hE dX0_readOne_158 q_iconst_1 ?_
      refine z_goto (pc := 159) hE 163 rfl dX0_readOne_159 ?_
      exact z_zreturn (pc := 163) hE hr dX0_readOne_163
  refine z_case x2 (108 : Int32) (fun hc10 => ?_) (fun hc10 => ?_)
  · refine z_lookup (pc := 16) hE 52 68 dX0_readOne_16 (by decide) (by rw [hc10]; decide) rfl ?_
    refine z_aload_n (pc := 68) hE 1 1 rfl rfl dX0_readOne_68 ?_
    refine z_callVv (pc := 69) (st := []) [] hE kk_RX0_43 (c_X8_step) lX_1 rfl rfl rfl (Nat.le_of_ble_eq_true rfl) (by decide) dX0_readOne_69 (fun x11 => ?_)
    refine z_aload_n (pc := 72) hE 0 0 rfl rfl dX0_readOne_72 ?_
    refine z_aload_n (pc := 73) hE 1 1 rfl rfl dX0_readOne_73 ?_
    refine z_iload_n (pc := 74) hE 2 2 rfl rfl dX0_readOne_74 ?_
    refine z_callVi (pc := 75) (st := []) [.ref (ad 1), .int a2] hE kk_RX0_46 (c_X0_readFirst a2) lX_58 rfl rfl rfl (Nat.le_of_ble_eq_true rfl) (by decide) dX0_readOne_75 (fun x12 => ?_)
    exact z_zreturn (pc := 78) hE hr dX0_readOne_78
  refine z_case x2 (109 : Int32) (fun hc13 => ?_) (fun hc13 => ?_)
  · refine z_lookup (pc := 16) hE 63 79 dX0_readOne_16 (by decide) (by rw [hc13]; decide) rfl ?_
    refine z_aload_n (pc := 79) hE 1 1 rfl rfl dX0_readOne_79 ?_
    refine z_callVv (pc := 80) (st := []) [] hE kk_RX0_43 (c_X8_step) lX_1 rfl rfl rfl (Nat.le_of_ble_eq_true rfl) (by decide) dX0_readOne_80 (fun x14 => ?_)
    refine z_aload_n (pc := 83) hE 0 0 rfl rfl dX0_readOne_83 ?_
    refine z_aload_n (pc := 84) hE 1 1 rfl rfl dX0_readOne_84 ?_
    refine z_iload_n (pc := 85) hE 2 2 rfl rfl dX0_readOne_85 ?_
    refine z_callVi (pc := 86) (st := []) [.ref (ad 1), .int a2] hE kk_RX0_46 (c_X0_readFirst a2) lX_58 rfl rfl rfl (Nat.le_of_ble_eq_true rfl) (by decide) dX0_readOne_86 (fun x15 => ?_)
    refine z_if_eq (pc := 89) hE 105 rfl dX0_readOne_89 ?_ ?_
    · refine z_iconst (pc := 105) hE dX0_readOne_105 q_iconst_0 ?_
      exact z_zreturn (pc := 106) hE hr dX0_readOne_106
    · refine z_aload_n (pc := 92) hE 0 0 rfl rfl dX0_readOne_92 ?_
      refine z_aload_n (pc := 93) hE 1 1 rfl rfl dX0_readOne_93 ?_
      refine z_iload_n (pc := 94) hE 2 2 rfl rfl dX0_readOne_94 ?_
      refine z_callVi (pc := 95) (st := []) [.ref (ad 1), .int a2] hE kk_RX0_49 (c_X0_readSecond a2) lX_58 rfl rfl rfl (Nat.le_of_ble_eq_true rfl) (by decide) dX0_readOne_95 (fun x16 => ?_)
      refine z_if_eq (pc := 98) hE 105 rfl dX0_readOne_98 ?_ ?_
      · refine z_iconst (pc := 105) hE dX0_readOne_105 q_iconst_0 ?_
        exact z_zreturn (pc := 106) hE hr dX0_readOne_106
      · refine z_iconst (pc := 101) hE dX0_readOne_101 q_iconst_1 ?_
        refine z_goto (pc := 102) hE 106 rfl dX0_readOne_102 ?_
        exact z_zreturn (pc := 106) hE hr dX0_readOne_106
  refine z_case x2 (115 : Int32) (fun hc17 => ?_) (fun hc17 => ?_)
  · refine z_lookup (pc := 16) hE 91 107 dX0_readOne_16 (by decide) (by rw [hc17]; decide) rfl ?_
    refine z_aload_n (pc := 107) hE 1 1 rfl rfl dX0_readOne_107 ?_
    refine z_callVv (pc := 108) (st := []) [] hE kk_RX0_43 (c_X8_step) lX_1 rfl rfl rfl (Nat.le_of_ble_eq_true rfl) (by decide) dX0_readOne_108 (fun x18 => ?_)
    refine z_aload_n (pc := 111) hE 0 0 rfl rfl dX0_readOne_111 ?_
    refine z_aload_n (pc := 112) hE 1 1 rfl rfl dX0_readOne_112 ?_
    refine z_iload_n (pc := 113) hE 2 2 rfl rfl dX0_readOne_113 ?_
    refine z_callVi (pc := 114) (st := []) [.ref (ad 1), .int a2] hE kk_RX0_46 (c_X0_readFirst a2) lX_58 rfl rfl rfl (Nat.le_of_ble_eq_true rfl) (by decide) dX0_readOne_114 (fun x19 => ?_)
    refine z_if_eq (pc := 117) hE 133 rfl dX0_readOne_117 ?_ ?_
    · refine z_iconst (pc := 133) hE dX0_readOne_133 q_iconst_0 ?_
      exact z_zreturn (pc := 134) hE hr dX0_readOne_134
    · refine z_aload_n (pc := 120) hE 0 0 rfl rfl dX0_readOne_120 ?_
      refine z_aload_n (pc := 121) hE 1 1 rfl rfl dX0_readOne_121 ?_
      refine z_iload_n (pc := 122) hE 2 2 rfl rfl dX0_readOne_122 ?_
      refine z_callVi (pc := 123) (st := []) [.ref (ad 1), .int a2] hE kk_RX0_52 (c_X0_readChange a2) lX_58 rfl rfl rfl (Nat.le_of_ble_eq_true rfl) (by decide) dX0_readOne_123 (fun x20 => ?_)
      refine z_if_eq (pc := 126) hE 133 rfl dX0_readOne_126 ?_ ?_
      · refine z_iconst (pc := 133) hE dX0_readOne_133 q_iconst_0 ?_
        exact z_zreturn (pc := 134) hE hr dX0_readOne_134
      · refine z_iconst (pc := 129) hE dX0_readOne_129 q_iconst_1 ?_
        refine z_goto (pc := 130) hE 134 rfl dX0_readOne_130 ?_
        exact z_zreturn (pc := 134) hE hr dX0_readOne_134
  have ihc3 := zne (99) hc3 (by decide)
  have ihc6 := zne (104) hc6 (by decide)
  have ihc10 := zne (108) hc10 (by decide)
  have ihc13 := zne (109) hc13 (by decide)
  have ihc17 := zne (115) hc17 (by decide)
  refine z_lookup (pc := 16) hE (148) 164 dX0_readOne_16 (by decide) (by simp [Op.lookupswitch.offset, ihc3, Ne.symm ihc3, ihc6, Ne.symm ihc6, ihc10, Ne.symm ihc10, ihc13, Ne.symm ihc13, ihc17, Ne.symm ihc17]) rfl ?_
  refine z_iconst (pc := 164) hE dX0_readOne_164 q_iconst_0 ?_
  exact z_zreturn (pc := 165) hE hr dX0_readOne_165
set_option maxRecDepth 100000 in
set_option maxHeartbeats 4000000 in
theorem c_X0_read {l : Launch} {ad : Nat → Nat} {ca : FieldType → ClassId} {D : va_G} {tt : Nat → Nat}  : zC l yX0_read cX0_read 4 (some .boolean) 4 layX ad ca D (xtX ad tt) [.ref (ad 58), .ref (ad 1)] zvi (p_X0_read) := by
  refine z_enter (by decide) (Nat.le_of_ble_eq_true rfl) (fun E hE hl0 hcD hr => ?_)
  have hE : zok layX ad (xtX ad tt) E cX0_read 4 RX0 4 := hE
  show Z layX ad E 4 (zFin layX ad E zvi) 0 [(0, .ref (ad 58)), (1, .ref (ad 1))] [] (p_X0_read)
  unfold p_X0_read
  refine z_aload_n (pc := 0) hE 0 0 rfl rfl dX0_read_0 ?_
  refine z_iconst (pc := 1) hE dX0_read_1 q_iconst_0 ?_
  refine z_puti (pc := 2) hE fk_RX0_21 lX_58 rfl dX0_read_2 ?_
  refine z_aload_n (pc := 5) hE 1 1 rfl rfl dX0_read_5 ?_
  refine z_callVi (pc := 6) (st := []) [] hE kk_RX0_25 (c_X8_isRead) lX_1 rfl rfl rfl (Nat.le_of_ble_eq_true rfl) (by decide) dX0_read_6 (fun x1 => ?_)
  refine z_istore_n (L' := [(2, .int x1), (0, .ref (ad 58)), (1, .ref (ad 1))]) (pc := 9) hE 2 rfl (by decide) rfl dX0_read_9 ?_
  refine z_iconst (pc := 10) hE dX0_read_10 q_iconst_0 ?_
  refine z_istore_n (L' := [(3, .int ((0 : Int32))), (2, .int x1), (0, .ref (ad 58)), (1, .ref (ad 1))]) (pc := 11) hE 3 rfl (by decide) rfl dX0_read_11 ?_
  refine z_sub (L' := [(0, .ref (ad 58)), (1, .ref (ad 1)), (2, .int x1), (3, .int ((0 : Int32)))]) [2, 3, 1, 0] rfl ?_
  refine z_loop (V := (Int32 × Int32)) (X := Int32) (hd := 12) (ex := 66) (Lh := fun v2 => [(0, .ref (ad 58)), (1, .ref (ad 1)), (2, .int v2.1), (3, .int v2.2)]) (Lx := fun e5 => [(2, .int e5)]) (fun rc4 k3 hrc4 hk3 v2 => ?_) zNF (x1, (0 : Int32)) _ (fun e5 => ?_)
  · unfold p_X0_read_b12
    refine z_iload_n (pc := 12) hE 2 2 rfl rfl dX0_read_12 ?_
    refine z_if_ne (pc := 13) hE 66 rfl dX0_read_13 ?_ ?_
    · exact z_sub [2] rfl (hk3 v2.1)
    · refine z_iload_n (pc := 16) hE 3 3 rfl rfl dX0_read_16 ?_
      refine z_bipush (pc := 17) hE dX0_read_17 q_bipush_20 ?_
      refine z_icmp_ge (pc := 19) hE 66 rfl dX0_read_19 ?_ ?_
      · exact z_sub [2] rfl (hk3 v2.1)
      · refine z_aload_n (pc := 22) hE 0 0 rfl rfl dX0_read_22 ?_
        refine z_aload_n (pc := 23) hE 1 1 rfl rfl dX0_read_23 ?_
        refine z_iload_n (pc := 24) hE 3 3 rfl rfl dX0_read_24 ?_
        refine z_callVi (pc := 25) (st := []) [.ref (ad 1), .int v2.2] hE kk_RX0_31 (c_X0_readOne v2.2) lX_58 rfl rfl rfl (Nat.le_of_ble_eq_true rfl) (by decide) dX0_read_25 (fun x6 => ?_)
        refine z_if_ne (pc := 28) hE 33 rfl dX0_read_28 ?_ ?_
        · refine z_aload_n (pc := 33) hE 0 0 rfl rfl dX0_read_33 ?_
          refine z_iload_n (pc := 34) hE 3 3 rfl rfl dX0_read_34 ?_
          refine z_iconst (pc := 35) hE dX0_read_35 q_iconst_1 ?_
          refine z_iadd (pc := 36) hE dX0_read_36 ?_
          refine z_puti (pc := 37) hE fk_RX0_21 lX_58 rfl dX0_read_37 ?_
          refine z_aload_n (pc := 40) hE 1 1 rfl rfl dX0_read_40 ?_
          refine z_callVi (pc := 41) (st := []) [] hE kk_RX0_25 (c_X8_isRead) lX_1 rfl rfl rfl (Nat.le_of_ble_eq_true rfl) (by decide) dX0_read_41 (fun x7 => ?_)
          refine z_istore_n (L' := [(2, .int x7), (0, .ref (ad 58)), (1, .ref (ad 1)), (3, .int v2.2)]) (pc := 44) hE 2 rfl (by decide) rfl dX0_read_44 ?_
          refine z_iload_n (pc := 45) hE 0 2 rfl rfl dX0_read_45 ?_
          refine z_join (Y := Unit) (pcJ := 60) (Lj := fun y8 => [(0, .ref (ad 58)), (1, .ref (ad 1)), (2, .int x7), (3, .int v2.2)]) (sj := fun y8 => []) (fun y8 => ?_) (fun j9 hj9 => ?_)
          · refine z_iinc (L' := [(3, .int (v2.2 + (1 : Int32))), (0, .ref (ad 58)), (1, .ref (ad 1)), (2, .int x7)]) (pc := 60) hE 3 rfl (zinc q_iconst_1) (by decide) rfl dX0_read_60 ?_
            refine z_goto (pc := 63) hE 12 rfl dX0_read_63 ?_
            exact z_sub [1, 2, 3, 0] rfl (hrc4 (x7, v2.2 + (1 : Int32)))
          refine z_if_ne (pc := 46) hE 60 rfl dX0_read_46 ?_ ?_
          · exact z_sub [1, 2, 0, 3] rfl (hj9 ())
          · refine z_aload_n (pc := 49) hE 2 1 rfl rfl dX0_read_49 ?_
            refine z_bipush (pc := 50) hE dX0_read_50 q_bipush_59 ?_
            refine z_callVi (pc := 52) (st := []) [.int ((59 : Int32))] hE kk_RX0_35 (c_X8_take ((59 : Int32))) lX_1 rfl rfl rfl (Nat.le_of_ble_eq_true rfl) (by decide) dX0_read_52 (fun x10 => ?_)
            refine z_if_ne (pc := 55) hE 60 rfl dX0_read_55 ?_ ?_
            · exact z_sub [1, 2, 0, 3] rfl (hj9 ())
            · refine z_iconst (pc := 58) hE dX0_read_58 q_iconst_0 ?_
              exact z_zreturn (pc := 59) hE hr dX0_read_59
        · refine z_iconst (pc := 31) hE dX0_read_31 q_iconst_0 ?_
          exact z_zreturn (pc := 32) hE hr dX0_read_32
  · refine z_iload_n (pc := 66) hE 0 2 rfl rfl dX0_read_66 ?_
    exact z_zreturn (pc := 67) hE hr dX0_read_67
set_option maxRecDepth 100000 in
set_option maxHeartbeats 4000000 in
theorem c_X1_add {l : Launch} {ad : Nat → Nat} {ca : FieldType → ClassId} {D : va_G} {tt : Nat → Nat} (a1 : Int64) : zC l yX1_add cX1_add 3 none 0 layX ad ca D (xtX ad tt) [.ref (ad 48), .long a1] zvn (p_X1_add a1) := by
  refine z_enter (by decide) (Nat.le_of_ble_eq_true rfl) (fun E hE hl0 hcD hr => ?_)
  have hE : zok layX ad (xtX ad tt) E cX1_add 3 RX1 0 := hE
  show Z layX ad E 3 (zFin layX ad E zvn) 0 [(0, .ref (ad 48)), (1, .long a1)] [] (p_X1_add a1)
  unfold p_X1_add
  refine z_aload_n (pc := 0) hE 0 0 rfl rfl dX1_add_0 ?_
  refine z_geti (pc := 1) hE fk_RX1_13 lX_48 rfl dX1_add_1 (fun x1 => ?_)
  refine z_bipush (pc := 4) hE dX1_add_4 q_bipush_8 ?_
  refine z_icmp_ge (pc := 6) hE 29 rfl dX1_add_6 ?_ ?_
  · exact z_return (pc := 29) hE hr dX1_add_29
  · refine z_aload_n (pc := 9) hE 0 0 rfl rfl dX1_add_9 ?_
    refine z_getr (pc := 10) hE fk_RX1_9 lX_48 rfl dX1_add_10 ?_
    refine z_aload_n (pc := 13) hE 0 0 rfl rfl dX1_add_13 ?_
    refine z_geti (pc := 14) hE fk_RX1_13 lX_48 rfl dX1_add_14 (fun x2 => ?_)
    refine z_lload_n (pc := 17) hE 1 1 rfl rfl dX1_add_17 ?_
    refine z_last (pc := 18) hE lX_49 dX1_add_18 ?_
    refine z_aload_n (pc := 19) hE 0 0 rfl rfl dX1_add_19 ?_
    refine z_dup (pc := 20) hE dX1_add_20 rfl ?_
    refine z_geti (pc := 21) hE fk_RX1_13 lX_48 rfl dX1_add_21 (fun x3 => ?_)
    refine z_iconst (pc := 24) hE dX1_add_24 q_iconst_1 ?_
    refine z_iadd (pc := 25) hE dX1_add_25 ?_
    refine z_puti (pc := 26) hE fk_RX1_13 lX_48 rfl dX1_add_26 ?_
    exact z_return (pc := 29) hE hr dX1_add_29
set_option maxRecDepth 100000 in
set_option maxHeartbeats 4000000 in
theorem c_X3_has {l : Launch} {ad : Nat → Nat} {ca : FieldType → ClassId} {D : va_G} {tt : Nat → Nat} (b : Nat) (hb : zfk b) (a1 : Int32) : zC l yX3_has cX3_has 2 (some .boolean) 0 layX ad ca D (xtX ad tt) [.ref (ad b), .int a1] zvi (p_X3_has b a1) := by
  refine z_enter (by decide) (Nat.le_of_ble_eq_true rfl) (fun E hE hl0 hcD hr => ?_)
  have hE : zok layX ad (xtX ad tt) E cX3_has 2 RX3 0 := hE
  show Z layX ad E 2 (zFin layX ad E zvi) 0 [(0, .ref (ad b)), (1, .int a1)] [] (p_X3_has b a1)
  unfold p_X3_has
  refine z_iload_n (pc := 0) hE 1 1 rfl rfl dX3_has_0 ?_
  refine z_if_lt (pc := 1) hE 16 rfl dX3_has_1 ?_ ?_
  · refine z_iconst (pc := 16) hE dX3_has_16 q_iconst_0 ?_
    exact z_zreturn (pc := 17) hE hr dX3_has_17
  · refine z_iload_n (pc := 4) hE 1 1 rfl rfl dX3_has_4 ?_
    refine z_aload_n (pc := 5) hE 0 0 rfl rfl dX3_has_5 ?_
    refine z_geti (pc := 6) hE fk_RX3_59 hb.1 rfl dX3_has_6 (fun x1 => ?_)
    refine z_icmp_ge (pc := 9) hE 16 rfl dX3_has_9 ?_ ?_
    · refine z_iconst (pc := 16) hE dX3_has_16 q_iconst_0 ?_
      exact z_zreturn (pc := 17) hE hr dX3_has_17
    · refine z_iconst (pc := 12) hE dX3_has_12 q_iconst_1 ?_
      refine z_goto (pc := 13) hE 17 rfl dX3_has_13 ?_
      exact z_zreturn (pc := 17) hE hr dX3_has_17
set_option maxRecDepth 100000 in
set_option maxHeartbeats 4000000 in
theorem c_X3_weightOf {l : Launch} {ad : Nat → Nat} {ca : FieldType → ClassId} {D : va_G} {tt : Nat → Nat} (b : Nat) (hb : zfk b) (a1 : Int32) : zC l yX3_weightOf cX3_weightOf 2 (some .int) 1 layX ad ca D (xtX ad tt) [.ref (ad b), .int a1] zvi (p_X3_weightOf b a1) := by
  refine z_enter (by decide) (Nat.le_of_ble_eq_true rfl) (fun E hE hl0 hcD hr => ?_)
  have hE : zok layX ad (xtX ad tt) E cX3_weightOf 2 RX3 1 := hE
  show Z layX ad E 2 (zFin layX ad E zvi) 0 [(0, .ref (ad b)), (1, .int a1)] [] (p_X3_weightOf b a1)
  unfold p_X3_weightOf
  refine z_aload_n (pc := 0) hE 0 0 rfl rfl dX3_weightOf_0 ?_
  refine z_iload_n (pc := 1) hE 1 1 rfl rfl dX3_weightOf_1 ?_
  refine z_callVi (pc := 2) (st := []) [.int a1] hE kk_RX3_92 (c_X3_has b hb a1) hb.1 rfl rfl rfl (Nat.le_of_ble_eq_true rfl) (by decide) dX3_weightOf_2 (fun x1 => ?_)
  refine z_if_eq (pc := 5) hE 28 rfl dX3_weightOf_5 ?_ ?_
  · refine z_iconst (pc := 28) hE dX3_weightOf_28 q_iconst_0 ?_
    exact z_ireturn (pc := 29) hE hr dX3_weightOf_29
  · refine z_iconst (pc := 8) hE dX3_weightOf_8 q_iconst_5 ?_
    refine z_aload_n (pc := 9) hE 0 0 rfl rfl dX3_weightOf_9 ?_
    refine z_getr (pc := 10) hE fk_RX3_23 hb.1 rfl dX3_weightOf_10 ?_
    refine z_iload_n (pc := 13) hE 1 1 rfl rfl dX3_weightOf_13 ?_
    refine z_iald (pc := 14) hE hb.2.2.2.2.1 dX3_weightOf_14 (fun x2 => ?_)
    refine z_imul (pc := 15) hE dX3_weightOf_15 ?_
    refine z_iconst (pc := 16) hE dX3_weightOf_16 q_iconst_4 ?_
    refine z_aload_n (pc := 17) hE 0 0 rfl rfl dX3_weightOf_17 ?_
    refine z_getr (pc := 18) hE fk_RX3_26 hb.1 rfl dX3_weightOf_18 ?_
    refine z_iload_n (pc := 21) hE 1 1 rfl rfl dX3_weightOf_21 ?_
    refine z_iald (pc := 22) hE hb.2.2.2.2.2.1 dX3_weightOf_22 (fun x3 => ?_)
    refine z_imul (pc := 23) hE dX3_weightOf_23 ?_
    refine z_iadd (pc := 24) hE dX3_weightOf_24 ?_
    refine z_goto (pc := 25) hE 29 rfl dX3_weightOf_25 ?_
    exact z_ireturn (pc := 29) hE hr dX3_weightOf_29
set_option maxRecDepth 100000 in
set_option maxHeartbeats 4000000 in
theorem c_X2_choose {l : Launch} {ad : Nat → Nat} {ca : FieldType → ClassId} {D : va_G} {tt : Nat → Nat} (a1 : Int32) : zC l yX2_choose cX2_choose 3 none 2 layX ad ca D (xtX ad tt) [.ref (ad 62), .int a1] zvn (p_X2_choose a1) := by
  refine z_enter (by decide) (Nat.le_of_ble_eq_true rfl) (fun E hE hl0 hcD hr => ?_)
  have hE : zok layX ad (xtX ad tt) E cX2_choose 3 RX2 2 := hE
  show Z layX ad E 3 (zFin layX ad E zvn) 0 [(0, .ref (ad 62)), (1, .int a1)] [] (p_X2_choose a1)
  unfold p_X2_choose
  refine z_aload_n (pc := 0) hE 0 0 rfl rfl dX2_choose_0 ?_
  refine z_iconst (pc := 1) hE dX2_choose_1 q_iconst_0 ?_
  refine z_puti (pc := 2) hE fk_RX2_29 lX_62 rfl dX2_choose_2 ?_
  refine z_iconst (pc := 5) hE dX2_choose_5 q_iconst_0 ?_
  refine z_istore_n (L' := [(2, .int ((0 : Int32))), (0, .ref (ad 62)), (1, .int a1)]) (pc := 6) hE 2 rfl (by decide) rfl dX2_choose_6 ?_
  refine z_sub (L' := [(0, .ref (ad 62)), (1, .int a1), (2, .int ((0 : Int32)))]) [1, 2, 0] rfl ?_
  refine z_loop (V := Int32) (X := Unit) (hd := 7) (ex := 60) (Lh := fun v1 => [(0, .ref (ad 62)), (1, .int a1), (2, .int v1)]) (Lx := fun e4 => []) (fun rc3 k2 hrc3 hk2 v1 => ?_) zNF ((0 : Int32)) _ (fun e4 => ?_)
  · unfold p_X2_choose_b7
    refine z_iload_n (pc := 7) hE 2 2 rfl rfl dX2_choose_7 ?_
    refine z_aload_n (pc := 8) hE 0 0 rfl rfl dX2_choose_8 ?_
    refine z_getr (pc := 9) hE fk_RX2_25 lX_62 rfl dX2_choose_9 ?_
    refine z_geti (pc := 12) hE fk_RX2_33 lX_20 rfl dX2_choose_12 (fun x5 => ?_)
    refine z_icmp_ge (pc := 15) hE 60 rfl dX2_choose_15 ?_ ?_
    · exact z_sub [] rfl (hk2 ())
    · refine z_iload_n (pc := 18) hE 1 1 rfl rfl dX2_choose_18 ?_
      refine z_iload_n (pc := 19) hE 2 2 rfl rfl dX2_choose_19 ?_
      refine z_ishr (pc := 20) hE dX2_choose_20 ?_
      refine z_iconst (pc := 21) hE dX2_choose_21 q_iconst_1 ?_
      refine z_iand (pc := 22) hE dX2_choose_22 ?_
      refine z_iconst (pc := 23) hE dX2_choose_23 q_iconst_1 ?_
      refine z_join (Y := Unit) (pcJ := 54) (Lj := fun y6 => [(0, .ref (ad 62)), (1, .int a1), (2, .int v1)]) (sj := fun y6 => []) (fun y6 => ?_) (fun j7 hj7 => ?_)
      · refine z_iinc (L' := [(2, .int (v1 + (1 : Int32))), (0, .ref (ad 62)), (1, .int a1)]) (pc := 54) hE 2 rfl (zinc q_iconst_1) (by decide) rfl dX2_choose_54 ?_
        refine z_goto (pc := 57) hE 7 rfl dX2_choose_57 ?_
        exact z_sub [1, 2, 0] rfl (hrc3 (v1 + (1 : Int32)))
      refine z_icmp_ne (pc := 24) hE 54 rfl dX2_choose_24 ?_ ?_
      · exact z_sub [0, 1, 2] rfl (hj7 ())
      · refine z_aload_n (pc := 27) hE 0 0 rfl rfl dX2_choose_27 ?_
        refine z_getr (pc := 28) hE fk_RX2_9 lX_62 rfl dX2_choose_28 ?_
        refine z_aload_n (pc := 31) hE 0 0 rfl rfl dX2_choose_31 ?_
        refine z_geti (pc := 32) hE fk_RX2_29 lX_62 rfl dX2_choose_32 (fun x8 => ?_)
        refine z_aload_n (pc := 35) hE 0 0 rfl rfl dX2_choose_35 ?_
        refine z_getr (pc := 36) hE fk_RX2_25 lX_62 rfl dX2_choose_36 ?_
        refine z_iload_n (pc := 39) hE 2 2 rfl rfl dX2_choose_39 ?_
        refine z_callVi (pc := 40) (st := [.int x8, .ref (ad 63)]) [.int v1] hE kk_RX2_36 (c_X3_weightOf 20 zfk_20 v1) lX_20 rfl rfl rfl (Nat.le_of_ble_eq_true rfl) (by decide) dX2_choose_40 (fun x9 => ?_)
        refine z_iast (pc := 43) hE lX_63 dX2_choose_43 ?_
        refine z_aload_n (pc := 44) hE 0 0 rfl rfl dX2_choose_44 ?_
        refine z_dup (pc := 45) hE dX2_choose_45 rfl ?_
        refine z_geti (pc := 46) hE fk_RX2_29 lX_62 rfl dX2_choose_46 (fun x10 => ?_)
        refine z_iconst (pc := 49) hE dX2_choose_49 q_iconst_1 ?_
        refine z_iadd (pc := 50) hE dX2_choose_50 ?_
        refine z_puti (pc := 51) hE fk_RX2_29 lX_62 rfl dX2_choose_51 ?_
        exact z_sub [0, 1, 2] rfl (hj7 ())
  · exact z_return (pc := 60) hE hr dX2_choose_60
set_option maxRecDepth 100000 in
set_option maxHeartbeats 4000000 in
theorem c_X9_has {l : Launch} {ad : Nat → Nat} {ca : FieldType → ClassId} {D : va_G} {tt : Nat → Nat} (a1 : Int32) : zC l yX9_has cX9_has 2 (some .boolean) 0 layX ad ca D (xtX ad tt) [.ref (ad 3), .int a1] zvi (p_X9_has a1) := by
  refine z_enter (by decide) (Nat.le_of_ble_eq_true rfl) (fun E hE hl0 hcD hr => ?_)
  have hE : zok layX ad (xtX ad tt) E cX9_has 2 RX9 0 := hE
  show Z layX ad E 2 (zFin layX ad E zvi) 0 [(0, .ref (ad 3)), (1, .int a1)] [] (p_X9_has a1)
  unfold p_X9_has
  refine z_iload_n (pc := 0) hE 1 1 rfl rfl dX9_has_0 ?_
  refine z_if_lt (pc := 1) hE 16 rfl dX9_has_1 ?_ ?_
  · refine z_iconst (pc := 16) hE dX9_has_16 q_iconst_0 ?_
    exact z_zreturn (pc := 17) hE hr dX9_has_17
  · refine z_iload_n (pc := 4) hE 1 1 rfl rfl dX9_has_4 ?_
    refine z_aload_n (pc := 5) hE 0 0 rfl rfl dX9_has_5 ?_
    refine z_geti (pc := 6) hE fk_RX9_30 lX_3 rfl dX9_has_6 (fun x1 => ?_)
    refine z_icmp_ge (pc := 9) hE 16 rfl dX9_has_9 ?_ ?_
    · refine z_iconst (pc := 16) hE dX9_has_16 q_iconst_0 ?_
      exact z_zreturn (pc := 17) hE hr dX9_has_17
    · refine z_iconst (pc := 12) hE dX9_has_12 q_iconst_1 ?_
      refine z_goto (pc := 13) hE 17 rfl dX9_has_13 ?_
      exact z_zreturn (pc := 17) hE hr dX9_has_17
set_option maxRecDepth 100000 in
set_option maxHeartbeats 4000000 in
theorem c_X9_barredBy {l : Launch} {ad : Nat → Nat} {ca : FieldType → ClassId} {D : va_G} {tt : Nat → Nat} (a1 : Int32) (a2 : Int32) (a3 : Int32) : zC l yX9_barredBy cX9_barredBy 5 (some .int) 1 layX ad ca D (xtX ad tt) [.ref (ad 3), .int a1, .int a2, .int a3] zvi (p_X9_barredBy a1 a2 a3) := by
  refine z_enter (by decide) (Nat.le_of_ble_eq_true rfl) (fun E hE hl0 hcD hr => ?_)
  have hE : zok layX ad (xtX ad tt) E cX9_barredBy 5 RX9 1 := hE
  show Z layX ad E 5 (zFin layX ad E zvi) 0 [(0, .ref (ad 3)), (1, .int a1), (2, .int a2), (3, .int a3)] [] (p_X9_barredBy a1 a2 a3)
  unfold p_X9_barredBy
  refine z_aload_n (pc := 0) hE 0 0 rfl rfl dX9_barredBy_0 ?_
  refine z_iload_n (pc := 1) hE 1 1 rfl rfl dX9_barredBy_1 ?_
  refine z_callVi (pc := 2) (st := []) [.int a1] hE kk_RX9_55 (c_X9_has a1) lX_3 rfl rfl rfl (Nat.le_of_ble_eq_true rfl) (by decide) dX9_barredBy_2 (fun x1 => ?_)
  refine z_if_ne (pc := 5) hE 10 rfl dX9_barredBy_5 ?_ ?_
  · refine z_aload_n (pc := 10) hE 0 0 rfl rfl dX9_barredBy_10 ?_
    refine z_getr (pc := 11) hE fk_RX9_21 lX_3 rfl dX9_barredBy_11 ?_
    refine z_iload_n (pc := 14) hE 1 1 rfl rfl dX9_barredBy_14 ?_
    refine z_iald (pc := 15) hE lX_7 dX9_barredBy_15 (fun x2 => ?_)
    refine z_istore (L' := [(4, .int x2), (0, .ref (ad 3)), (1, .int a1), (2, .int a2), (3, .int a3)]) (pc := 16) hE (by decide) rfl dX9_barredBy_16 ?_
    refine z_iload_n (pc := 18) hE 3 2 rfl rfl dX9_barredBy_18 ?_
    refine z_iload_n (pc := 19) hE 4 3 rfl rfl dX9_barredBy_19 ?_
    refine z_icmp_le (pc := 20) hE 37 rfl dX9_barredBy_20 ?_ ?_
    · refine z_iload_n (pc := 37) hE 3 2 rfl rfl dX9_barredBy_37 ?_
      refine z_iload_n (pc := 38) hE 4 3 rfl rfl dX9_barredBy_38 ?_
      refine z_icmp_ge (pc := 39) hE 53 rfl dX9_barredBy_39 ?_ ?_
      · refine z_iload (pc := 53) hE 0 rfl dX9_barredBy_53 ?_
        exact z_ireturn (pc := 55) hE hr dX9_barredBy_55
      · refine z_iload (pc := 42) hE 0 rfl dX9_barredBy_42 ?_
        refine z_aload_n (pc := 44) hE 1 0 rfl rfl dX9_barredBy_44 ?_
        refine z_getr (pc := 45) hE fk_RX9_27 lX_3 rfl dX9_barredBy_45 ?_
        refine z_iload_n (pc := 48) hE 2 1 rfl rfl dX9_barredBy_48 ?_
        refine z_iald (pc := 49) hE lX_9 dX9_barredBy_49 (fun x3 => ?_)
        refine z_ior (pc := 50) hE dX9_barredBy_50 ?_
        refine z_istore (L' := [(4, .int (x2 ||| x3)), (0, .ref (ad 3)), (1, .int a1), (2, .int a2), (3, .int a3)]) (pc := 51) hE (by decide) rfl dX9_barredBy_51 ?_
        refine z_iload (pc := 53) hE 0 rfl dX9_barredBy_53 ?_
        exact z_ireturn (pc := 55) hE hr dX9_barredBy_55
    · refine z_iload (pc := 23) hE 0 rfl dX9_barredBy_23 ?_
      refine z_aload_n (pc := 25) hE 1 0 rfl rfl dX9_barredBy_25 ?_
      refine z_getr (pc := 26) hE fk_RX9_24 lX_3 rfl dX9_barredBy_26 ?_
      refine z_iload_n (pc := 29) hE 2 1 rfl rfl dX9_barredBy_29 ?_
      refine z_iald (pc := 30) hE lX_8 dX9_barredBy_30 (fun x4 => ?_)
      refine z_ior (pc := 31) hE dX9_barredBy_31 ?_
      refine z_istore (L' := [(4, .int (x2 ||| x4)), (0, .ref (ad 3)), (1, .int a1), (2, .int a2), (3, .int a3)]) (pc := 32) hE (by decide) rfl dX9_barredBy_32 ?_
      refine z_goto (pc := 34) hE 53 rfl dX9_barredBy_34 ?_
      refine z_iload (pc := 53) hE 0 rfl dX9_barredBy_53 ?_
      exact z_ireturn (pc := 55) hE hr dX9_barredBy_55
  · refine z_iconst (pc := 8) hE dX9_barredBy_8 q_iconst_0 ?_
    exact z_ireturn (pc := 9) hE hr dX9_barredBy_9
set_option maxRecDepth 100000 in
set_option maxHeartbeats 4000000 in
theorem c_X2_openTo {l : Launch} {ad : Nat → Nat} {ca : FieldType → ClassId} {D : va_G} {tt : Nat → Nat} (a1 : Int32) : zC l yX2_openTo cX2_openTo 4 (some .int) 2 layX ad ca D (xtX ad tt) [.ref (ad 62), .int a1] zvi (p_X2_openTo a1) := by
  refine z_enter (by decide) (Nat.le_of_ble_eq_true rfl) (fun E hE hl0 hcD hr => ?_)
  have hE : zok layX ad (xtX ad tt) E cX2_openTo 4 RX2 2 := hE
  show Z layX ad E 4 (zFin layX ad E zvi) 0 [(0, .ref (ad 62)), (1, .int a1)] [] (p_X2_openTo a1)
  unfold p_X2_openTo
  refine z_iconst (pc := 0) hE dX2_openTo_0 q_iconst_1 ?_
  refine z_aload_n (pc := 1) hE 0 0 rfl rfl dX2_openTo_1 ?_
  refine z_getr (pc := 2) hE fk_RX2_21 lX_62 rfl dX2_openTo_2 ?_
  refine z_geti (pc := 5) hE fk_RX2_62 lX_3 rfl dX2_openTo_5 (fun x1 => ?_)
  refine z_ishl (pc := 8) hE dX2_openTo_8 ?_
  refine z_iconst (pc := 9) hE dX2_openTo_9 q_iconst_1 ?_
  refine z_isub (pc := 10) hE dX2_openTo_10 ?_
  refine z_istore_n (L' := [(2, .int ((((1 : Int32)) <<< (x1 &&& 31)) - ((1 : Int32)))), (0, .ref (ad 62)), (1, .int a1)]) (pc := 11) hE 2 rfl (by decide) rfl dX2_openTo_11 ?_
  refine z_iconst (pc := 12) hE dX2_openTo_12 q_iconst_0 ?_
  refine z_istore_n (L' := [(3, .int ((0 : Int32))), (2, .int ((((1 : Int32)) <<< (x1 &&& 31)) - ((1 : Int32)))), (0, .ref (ad 62)), (1, .int a1)]) (pc := 13) hE 3 rfl (by decide) rfl dX2_openTo_13 ?_
  refine z_sub (L' := [(0, .ref (ad 62)), (1, .int a1), (2, .int ((((1 : Int32)) <<< (x1 &&& 31)) - ((1 : Int32)))), (3, .int ((0 : Int32)))]) [2, 3, 1, 0] rfl ?_
  refine z_loop (V := (Int32 × Int32)) (X := Int32) (hd := 14) (ex := 55) (Lh := fun v2 => [(0, .ref (ad 62)), (1, .int a1), (2, .int v2.1), (3, .int v2.2)]) (Lx := fun e5 => [(2, .int e5)]) (fun rc4 k3 hrc4 hk3 v2 => ?_) zNF ((((1 : Int32)) <<< (x1 &&& 31)) - ((1 : Int32)), (0 : Int32)) _ (fun e5 => ?_)
  · unfold p_X2_openTo_b14
    refine z_iload_n (pc := 14) hE 3 3 rfl rfl dX2_openTo_14 ?_
    refine z_iload_n (pc := 15) hE 1 1 rfl rfl dX2_openTo_15 ?_
    refine z_icmp_ge (pc := 16) hE 55 rfl dX2_openTo_16 ?_ ?_
    · exact z_sub [2] rfl (hk3 v2.1)
    · refine z_iload_n (pc := 19) hE 2 2 rfl rfl dX2_openTo_19 ?_
      refine z_aload_n (pc := 20) hE 0 0 rfl rfl dX2_openTo_20 ?_
      refine z_getr (pc := 21) hE fk_RX2_21 lX_62 rfl dX2_openTo_21 ?_
      refine z_aload_n (pc := 24) hE 0 0 rfl rfl dX2_openTo_24 ?_
      refine z_getr (pc := 25) hE fk_RX2_15 lX_62 rfl dX2_openTo_25 ?_
      refine z_iload_n (pc := 28) hE 3 3 rfl rfl dX2_openTo_28 ?_
      refine z_iald (pc := 29) hE lX_64 dX2_openTo_29 (fun x6 => ?_)
      refine z_aload_n (pc := 30) hE 0 0 rfl rfl dX2_openTo_30 ?_
      refine z_getr (pc := 31) hE fk_RX2_9 lX_62 rfl dX2_openTo_31 ?_
      refine z_iload_n (pc := 34) hE 3 3 rfl rfl dX2_openTo_34 ?_
      refine z_iald (pc := 35) hE lX_63 dX2_openTo_35 (fun x7 => ?_)
      refine z_aload_n (pc := 36) hE 0 0 rfl rfl dX2_openTo_36 ?_
      refine z_getr (pc := 37) hE fk_RX2_9 lX_62 rfl dX2_openTo_37 ?_
      refine z_iload_n (pc := 40) hE 1 1 rfl rfl dX2_openTo_40 ?_
      refine z_iald (pc := 41) hE lX_63 dX2_openTo_41 (fun x8 => ?_)
      refine z_callVi (pc := 42) (st := [.int v2.1]) [.int x6, .int x7, .int x8] hE kk_RX2_69 (c_X9_barredBy x6 x7 x8) lX_3 rfl rfl rfl (Nat.le_of_ble_eq_true rfl) (by decide) dX2_openTo_42 (fun x9 => ?_)
      refine z_iconst (pc := 45) hE dX2_openTo_45 q_iconst_m1 ?_
      refine z_ixor (pc := 46) hE dX2_openTo_46 ?_
      refine z_iand (pc := 47) hE dX2_openTo_47 ?_
      refine z_istore_n (L' := [(2, .int (v2.1 &&& (x9 ^^^ ((-1 : Int32))))), (0, .ref (ad 62)), (1, .int a1), (3, .int v2.2)]) (pc := 48) hE 2 rfl (by decide) rfl dX2_openTo_48 ?_
      refine z_iinc (L' := [(3, .int (v2.2 + (1 : Int32))), (2, .int (v2.1 &&& (x9 ^^^ ((-1 : Int32))))), (0, .ref (ad 62)), (1, .int a1)]) (pc := 49) hE 3 rfl (zinc q_iconst_1) (by decide) rfl dX2_openTo_49 ?_
      refine z_goto (pc := 52) hE 14 rfl dX2_openTo_52 ?_
      exact z_sub [2, 3, 1, 0] rfl (hrc4 (v2.1 &&& (x9 ^^^ ((-1 : Int32))), v2.2 + (1 : Int32)))
  · refine z_iload_n (pc := 55) hE 0 2 rfl rfl dX2_openTo_55 ?_
    exact z_ireturn (pc := 56) hE hr dX2_openTo_56
set_option maxRecDepth 100000 in
set_option maxHeartbeats 4000000 in
theorem c_J6_bitCount_0f7a4 {l : Launch} {ad : Nat → Nat} {ca : FieldType → ClassId} {D : va_G} {lay : List zY} {Xt : State → Prop} (a1 : Int32) : zC l yJ6_bitCount_0f7a4 cJ6_bitCount_0f7a4 1 (some .int) 0 lay ad ca D Xt [.int a1] zvi (p_J6_bitCount_0f7a4 a1) := by
  refine z_enter (by decide) (Nat.le_of_ble_eq_true rfl) (fun E hE hl0 hcD hr => ?_)
  have hE : zok lay ad Xt E cJ6_bitCount_0f7a4 1 RJ6 0 := hE
  show Z lay ad E 1 (zFin lay ad E zvi) 0 [(0, .int a1)] [] (p_J6_bitCount_0f7a4 a1)
  unfold p_J6_bitCount_0f7a4
  refine z_iload_n (pc := 0) hE 0 0 rfl rfl dJ6_bitCount_0f7a4_0 ?_
  refine z_iload_n (pc := 1) hE 0 0 rfl rfl dJ6_bitCount_0f7a4_1 ?_
  refine z_iconst (pc := 2) hE dJ6_bitCount_0f7a4_2 q_iconst_1 ?_
  refine z_iushr (pc := 3) hE dJ6_bitCount_0f7a4_3 ?_
  refine z_ldcw (pc := 4) hE w_0 dJ6_bitCount_0f7a4_4 ?_
  refine z_iand (pc := 7) hE dJ6_bitCount_0f7a4_7 ?_
  refine z_isub (pc := 8) hE dJ6_bitCount_0f7a4_8 ?_
  refine z_istore_n (L' := [(0, .int (a1 - (((a1.toUInt32 >>> (((1 : Int32)).toUInt32 &&& Int32.toUInt32 31)).toInt32) &&& ((1431655765 : Int32)))))]) (pc := 9) hE 0 rfl (by decide) rfl dJ6_bitCount_0f7a4_9 ?_
  refine z_iload_n (pc := 10) hE 0 0 rfl rfl dJ6_bitCount_0f7a4_10 ?_
  refine z_ldcw (pc := 11) hE w_1 dJ6_bitCount_0f7a4_11 ?_
  refine z_iand (pc := 14) hE dJ6_bitCount_0f7a4_14 ?_
  refine z_iload_n (pc := 15) hE 0 0 rfl rfl dJ6_bitCount_0f7a4_15 ?_
  refine z_iconst (pc := 16) hE dJ6_bitCount_0f7a4_16 q_iconst_2 ?_
  refine z_iushr (pc := 17) hE dJ6_bitCount_0f7a4_17 ?_
  refine z_ldcw (pc := 18) hE w_1 dJ6_bitCount_0f7a4_18 ?_
  refine z_iand (pc := 21) hE dJ6_bitCount_0f7a4_21 ?_
  refine z_iadd (pc := 22) hE dJ6_bitCount_0f7a4_22 ?_
  refine z_istore_n (L' := [(0, .int (((a1 - (((a1.toUInt32 >>> (((1 : Int32)).toUInt32 &&& Int32.toUInt32 31)).toInt32) &&& ((1431655765 : Int32)))) &&& ((858993459 : Int32))) + ((((a1 - (((a1.toUInt32 >>> (((1 : Int32)).toUInt32 &&& Int32.toUInt32 31)).toInt32) &&& ((1431655765 : Int32)))).toUInt32 >>> (((2 : Int32)).toUInt32 &&& Int32.toUInt32 31)).toInt32) &&& ((858993459 : Int32)))))]) (pc := 23) hE 0 rfl (by decide) rfl dJ6_bitCount_0f7a4_23 ?_
  refine z_iload_n (pc := 24) hE 0 0 rfl rfl dJ6_bitCount_0f7a4_24 ?_
  refine z_iload_n (pc := 25) hE 0 0 rfl rfl dJ6_bitCount_0f7a4_25 ?_
  refine z_iconst (pc := 26) hE dJ6_bitCount_0f7a4_26 q_iconst_4 ?_
  refine z_iushr (pc := 27) hE dJ6_bitCount_0f7a4_27 ?_
  refine z_iadd (pc := 28) hE dJ6_bitCount_0f7a4_28 ?_
  refine z_ldcw (pc := 29) hE w_2 dJ6_bitCount_0f7a4_29 ?_
  refine z_iand (pc := 32) hE dJ6_bitCount_0f7a4_32 ?_
  refine z_istore_n (L' := [(0, .int (((((a1 - (((a1.toUInt32 >>> (((1 : Int32)).toUInt32 &&& Int32.toUInt32 31)).toInt32) &&& ((1431655765 : Int32)))) &&& ((858993459 : Int32))) + ((((a1 - (((a1.toUInt32 >>> (((1 : Int32)).toUInt32 &&& Int32.toUInt32 31)).toInt32) &&& ((1431655765 : Int32)))).toUInt32 >>> (((2 : Int32)).toUInt32 &&& Int32.toUInt32 31)).toInt32) &&& ((858993459 : Int32)))) + (((((a1 - (((a1.toUInt32 >>> (((1 : Int32)).toUInt32 &&& Int32.toUInt32 31)).toInt32) &&& ((1431655765 : Int32)))) &&& ((858993459 : Int32))) + ((((a1 - (((a1.toUInt32 >>> (((1 : Int32)).toUInt32 &&& Int32.toUInt32 31)).toInt32) &&& ((1431655765 : Int32)))).toUInt32 >>> (((2 : Int32)).toUInt32 &&& Int32.toUInt32 31)).toInt32) &&& ((858993459 : Int32)))).toUInt32 >>> (((4 : Int32)).toUInt32 &&& Int32.toUInt32 31)).toInt32)) &&& ((252645135 : Int32))))]) (pc := 33) hE 0 rfl (by decide) rfl dJ6_bitCount_0f7a4_33 ?_
  refine z_iload_n (pc := 34) hE 0 0 rfl rfl dJ6_bitCount_0f7a4_34 ?_
  refine z_iload_n (pc := 35) hE 0 0 rfl rfl dJ6_bitCount_0f7a4_35 ?_
  refine z_bipush (pc := 36) hE dJ6_bitCount_0f7a4_36 q_bipush_8 ?_
  refine z_iushr (pc := 38) hE dJ6_bitCount_0f7a4_38 ?_
  refine z_iadd (pc := 39) hE dJ6_bitCount_0f7a4_39 ?_
  refine z_istore_n (L' := [(0, .int ((((((a1 - (((a1.toUInt32 >>> (((1 : Int32)).toUInt32 &&& Int32.toUInt32 31)).toInt32) &&& ((1431655765 : Int32)))) &&& ((858993459 : Int32))) + ((((a1 - (((a1.toUInt32 >>> (((1 : Int32)).toUInt32 &&& Int32.toUInt32 31)).toInt32) &&& ((1431655765 : Int32)))).toUInt32 >>> (((2 : Int32)).toUInt32 &&& Int32.toUInt32 31)).toInt32) &&& ((858993459 : Int32)))) + (((((a1 - (((a1.toUInt32 >>> (((1 : Int32)).toUInt32 &&& Int32.toUInt32 31)).toInt32) &&& ((1431655765 : Int32)))) &&& ((858993459 : Int32))) + ((((a1 - (((a1.toUInt32 >>> (((1 : Int32)).toUInt32 &&& Int32.toUInt32 31)).toInt32) &&& ((1431655765 : Int32)))).toUInt32 >>> (((2 : Int32)).toUInt32 &&& Int32.toUInt32 31)).toInt32) &&& ((858993459 : Int32)))).toUInt32 >>> (((4 : Int32)).toUInt32 &&& Int32.toUInt32 31)).toInt32)) &&& ((252645135 : Int32))) + (((((((a1 - (((a1.toUInt32 >>> (((1 : Int32)).toUInt32 &&& Int32.toUInt32 31)).toInt32) &&& ((1431655765 : Int32)))) &&& ((858993459 : Int32))) + ((((a1 - (((a1.toUInt32 >>> (((1 : Int32)).toUInt32 &&& Int32.toUInt32 31)).toInt32) &&& ((1431655765 : Int32)))).toUInt32 >>> (((2 : Int32)).toUInt32 &&& Int32.toUInt32 31)).toInt32) &&& ((858993459 : Int32)))) + (((((a1 - (((a1.toUInt32 >>> (((1 : Int32)).toUInt32 &&& Int32.toUInt32 31)).toInt32) &&& ((1431655765 : Int32)))) &&& ((858993459 : Int32))) + ((((a1 - (((a1.toUInt32 >>> (((1 : Int32)).toUInt32 &&& Int32.toUInt32 31)).toInt32) &&& ((1431655765 : Int32)))).toUInt32 >>> (((2 : Int32)).toUInt32 &&& Int32.toUInt32 31)).toInt32) &&& ((858993459 : Int32)))).toUInt32 >>> (((4 : Int32)).toUInt32 &&& Int32.toUInt32 31)).toInt32)) &&& ((252645135 : Int32))).toUInt32 >>> (((8 : Int32)).toUInt32 &&& Int32.toUInt32 31)).toInt32)))]) (pc := 40) hE 0 rfl (by decide) rfl dJ6_bitCount_0f7a4_40 ?_
  refine z_iload_n (pc := 41) hE 0 0 rfl rfl dJ6_bitCount_0f7a4_41 ?_
  refine z_iload_n (pc := 42) hE 0 0 rfl rfl dJ6_bitCount_0f7a4_42 ?_
  refine z_bipush (pc := 43) hE dJ6_bitCount_0f7a4_43 q_bipush_16 ?_
  refine z_iushr (pc := 45) hE dJ6_bitCount_0f7a4_45 ?_
  refine z_iadd (pc := 46) hE dJ6_bitCount_0f7a4_46 ?_
  refine z_istore_n (L' := [(0, .int (((((((a1 - (((a1.toUInt32 >>> (((1 : Int32)).toUInt32 &&& Int32.toUInt32 31)).toInt32) &&& ((1431655765 : Int32)))) &&& ((858993459 : Int32))) + ((((a1 - (((a1.toUInt32 >>> (((1 : Int32)).toUInt32 &&& Int32.toUInt32 31)).toInt32) &&& ((1431655765 : Int32)))).toUInt32 >>> (((2 : Int32)).toUInt32 &&& Int32.toUInt32 31)).toInt32) &&& ((858993459 : Int32)))) + (((((a1 - (((a1.toUInt32 >>> (((1 : Int32)).toUInt32 &&& Int32.toUInt32 31)).toInt32) &&& ((1431655765 : Int32)))) &&& ((858993459 : Int32))) + ((((a1 - (((a1.toUInt32 >>> (((1 : Int32)).toUInt32 &&& Int32.toUInt32 31)).toInt32) &&& ((1431655765 : Int32)))).toUInt32 >>> (((2 : Int32)).toUInt32 &&& Int32.toUInt32 31)).toInt32) &&& ((858993459 : Int32)))).toUInt32 >>> (((4 : Int32)).toUInt32 &&& Int32.toUInt32 31)).toInt32)) &&& ((252645135 : Int32))) + (((((((a1 - (((a1.toUInt32 >>> (((1 : Int32)).toUInt32 &&& Int32.toUInt32 31)).toInt32) &&& ((1431655765 : Int32)))) &&& ((858993459 : Int32))) + ((((a1 - (((a1.toUInt32 >>> (((1 : Int32)).toUInt32 &&& Int32.toUInt32 31)).toInt32) &&& ((1431655765 : Int32)))).toUInt32 >>> (((2 : Int32)).toUInt32 &&& Int32.toUInt32 31)).toInt32) &&& ((858993459 : Int32)))) + (((((a1 - (((a1.toUInt32 >>> (((1 : Int32)).toUInt32 &&& Int32.toUInt32 31)).toInt32) &&& ((1431655765 : Int32)))) &&& ((858993459 : Int32))) + ((((a1 - (((a1.toUInt32 >>> (((1 : Int32)).toUInt32 &&& Int32.toUInt32 31)).toInt32) &&& ((1431655765 : Int32)))).toUInt32 >>> (((2 : Int32)).toUInt32 &&& Int32.toUInt32 31)).toInt32) &&& ((858993459 : Int32)))).toUInt32 >>> (((4 : Int32)).toUInt32 &&& Int32.toUInt32 31)).toInt32)) &&& ((252645135 : Int32))).toUInt32 >>> (((8 : Int32)).toUInt32 &&& Int32.toUInt32 31)).toInt32)) + ((((((((a1 - (((a1.toUInt32 >>> (((1 : Int32)).toUInt32 &&& Int32.toUInt32 31)).toInt32) &&& ((1431655765 : Int32)))) &&& ((858993459 : Int32))) + ((((a1 - (((a1.toUInt32 >>> (((1 : Int32)).toUInt32 &&& Int32.toUInt32 31)).toInt32) &&& ((1431655765 : Int32)))).toUInt32 >>> (((2 : Int32)).toUInt32 &&& Int32.toUInt32 31)).toInt32) &&& ((858993459 : Int32)))) + (((((a1 - (((a1.toUInt32 >>> (((1 : Int32)).toUInt32 &&& Int32.toUInt32 31)).toInt32) &&& ((1431655765 : Int32)))) &&& ((858993459 : Int32))) + ((((a1 - (((a1.toUInt32 >>> (((1 : Int32)).toUInt32 &&& Int32.toUInt32 31)).toInt32) &&& ((1431655765 : Int32)))).toUInt32 >>> (((2 : Int32)).toUInt32 &&& Int32.toUInt32 31)).toInt32) &&& ((858993459 : Int32)))).toUInt32 >>> (((4 : Int32)).toUInt32 &&& Int32.toUInt32 31)).toInt32)) &&& ((252645135 : Int32))) + (((((((a1 - (((a1.toUInt32 >>> (((1 : Int32)).toUInt32 &&& Int32.toUInt32 31)).toInt32) &&& ((1431655765 : Int32)))) &&& ((858993459 : Int32))) + ((((a1 - (((a1.toUInt32 >>> (((1 : Int32)).toUInt32 &&& Int32.toUInt32 31)).toInt32) &&& ((1431655765 : Int32)))).toUInt32 >>> (((2 : Int32)).toUInt32 &&& Int32.toUInt32 31)).toInt32) &&& ((858993459 : Int32)))) + (((((a1 - (((a1.toUInt32 >>> (((1 : Int32)).toUInt32 &&& Int32.toUInt32 31)).toInt32) &&& ((1431655765 : Int32)))) &&& ((858993459 : Int32))) + ((((a1 - (((a1.toUInt32 >>> (((1 : Int32)).toUInt32 &&& Int32.toUInt32 31)).toInt32) &&& ((1431655765 : Int32)))).toUInt32 >>> (((2 : Int32)).toUInt32 &&& Int32.toUInt32 31)).toInt32) &&& ((858993459 : Int32)))).toUInt32 >>> (((4 : Int32)).toUInt32 &&& Int32.toUInt32 31)).toInt32)) &&& ((252645135 : Int32))).toUInt32 >>> (((8 : Int32)).toUInt32 &&& Int32.toUInt32 31)).toInt32)).toUInt32 >>> (((16 : Int32)).toUInt32 &&& Int32.toUInt32 31)).toInt32)))]) (pc := 47) hE 0 rfl (by decide) rfl dJ6_bitCount_0f7a4_47 ?_
  refine z_iload_n (pc := 48) hE 0 0 rfl rfl dJ6_bitCount_0f7a4_48 ?_
  refine z_bipush (pc := 49) hE dJ6_bitCount_0f7a4_49 q_bipush_63 ?_
  refine z_iand (pc := 51) hE dJ6_bitCount_0f7a4_51 ?_
  exact z_ireturn (pc := 52) hE hr dJ6_bitCount_0f7a4_52
set_option maxRecDepth 100000 in
set_option maxHeartbeats 4000000 in
theorem c_X2_waysFrom_s (G : ((Int32 × Int32) → zM Int32) × ((Int32 × Int32 × Int32) → zM Int32)) (d : Nat) (hd : 4 ≤ d) (hG : (∀ (l : Launch) (ad : Nat → Nat) (ca : FieldType → ClassId) (D : va_G) (tt : Nat → Nat) (a1 : Int32) (a2 : Int32), zC l yX2_waysFrom cX2_waysFrom 6 (some .int) (d - 1) layX ad ca D (xtX ad tt) [.ref (ad 62), .int a1, .int a2] zvi (G.1 (a1, a2))) ∧ (∀ (l : Launch) (ad : Nat → Nat) (ca : FieldType → ClassId) (D : va_G) (tt : Nat → Nat) (a1 : Int32) (a2 : Int32) (a3 : Int32), zC l yX2_waysWith cX2_waysWith 4 (some .int) (d - 1) layX ad ca D (xtX ad tt) [.ref (ad 62), .int a1, .int a2, .int a3] zvi (G.2 (a1, a2, a3)))) {l : Launch} {ad : Nat → Nat} {ca : FieldType → ClassId} {D : va_G} {tt : Nat → Nat} (a1 : Int32) (a2 : Int32) : zC l yX2_waysFrom cX2_waysFrom 6 (some .int) d layX ad ca D (xtX ad tt) [.ref (ad 62), .int a1, .int a2] zvi (p_X2_waysFrom_s G a1 a2) := by
  refine z_enter (by decide) (Nat.le_of_ble_eq_true rfl) (fun E hE hl0 hcD hr => ?_)
  have hE : zok layX ad (xtX ad tt) E cX2_waysFrom 6 RX2 d := hE
  show Z layX ad E 6 (zFin layX ad E zvi) 0 [(0, .ref (ad 62)), (1, .int a1), (2, .int a2)] [] (p_X2_waysFrom_s G a1 a2)
  unfold p_X2_waysFrom_s
  refine z_iload_n (pc := 0) hE 1 1 rfl rfl dX2_waysFrom_0 ?_
  refine z_aload_n (pc := 1) hE 0 0 rfl rfl dX2_waysFrom_1 ?_
  refine z_geti (pc := 2) hE fk_RX2_29 lX_62 rfl dX2_waysFrom_2 (fun x1 => ?_)
  refine z_icmp_lt (pc := 5) hE 39 rfl dX2_waysFrom_5 ?_ ?_
  · refine z_aload_n (pc := 39) hE 0 0 rfl rfl dX2_waysFrom_39 ?_
    refine z_iload_n (pc := 40) hE 1 1 rfl rfl dX2_waysFrom_40 ?_
    refine z_callVi (pc := 41) (st := []) [.int a1] hE kk_RX2_54 (c_X2_openTo a1) lX_62 rfl rfl rfl (Nat.le_of_ble_eq_true rfl) (by omega) dX2_waysFrom_41 (fun x2 => ?_)
    refine z_istore_n (L' := [(3, .int x2), (0, .ref (ad 62)), (1, .int a1), (2, .int a2)]) (pc := 44) hE 3 rfl (by decide) rfl dX2_waysFrom_44 ?_
    refine z_aload_n (pc := 45) hE 1 0 rfl rfl dX2_waysFrom_45 ?_
    refine z_geti (pc := 46) hE fk_RX2_40 lX_62 rfl dX2_waysFrom_46 (fun x3 => ?_)
    refine z_join (Y := Unit) (pcJ := 67) (Lj := fun y4 => [(0, .ref (ad 62)), (1, .int a1), (2, .int a2), (3, .int x2)]) (sj := fun y4 => []) (fun y4 => ?_) (fun j5 hj5 => ?_)
    · refine z_iconst (pc := 67) hE dX2_waysFrom_67 q_iconst_0 ?_
      refine z_istore (L' := [(4, .int ((0 : Int32))), (0, .ref (ad 62)), (1, .int a1), (2, .int a2), (3, .int x2)]) (pc := 68) hE (by decide) rfl dX2_waysFrom_68 ?_
      refine z_iconst (pc := 70) hE dX2_waysFrom_70 q_iconst_0 ?_
      refine z_istore (L' := [(5, .int ((0 : Int32))), (4, .int ((0 : Int32))), (0, .ref (ad 62)), (1, .int a1), (2, .int a2), (3, .int x2)]) (pc := 71) hE (by decide) rfl dX2_waysFrom_71 ?_
      refine z_sub (L' := [(0, .ref (ad 62)), (1, .int a1), (2, .int a2), (3, .int x2), (4, .int ((0 : Int32))), (5, .int ((0 : Int32)))]) [2, 3, 4, 5, 1, 0] rfl ?_
      refine z_loop (V := (Int32 × Int32)) (X := Int32) (hd := 73) (ex := 123) (Lh := fun v6 => [(0, .ref (ad 62)), (1, .int a1), (2, .int a2), (3, .int x2), (4, .int v6.1), (5, .int v6.2)]) (Lx := fun e9 => [(4, .int e9)]) (fun rc8 k7 hrc8 hk7 v6 => ?_) zNF ((0 : Int32), (0 : Int32)) _ (fun e9 => ?_)
      · unfold p_X2_waysFrom_b73
        refine z_iload (pc := 73) hE 5 rfl dX2_waysFrom_73 ?_
        refine z_aload_n (pc := 75) hE 0 0 rfl rfl dX2_waysFrom_75 ?_
        refine z_getr (pc := 76) hE fk_RX2_21 lX_62 rfl dX2_waysFrom_76 ?_
        refine z_geti (pc := 79) hE fk_RX2_62 lX_3 rfl dX2_waysFrom_79 (fun x10 => ?_)
        refine z_icmp_ge (pc := 82) hE 123 rfl dX2_waysFrom_82 ?_ ?_
        · exact z_sub [4] rfl (hk7 v6.1)
        · refine z_iload_n (pc := 85) hE 2 2 rfl rfl dX2_waysFrom_85 ?_
          refine z_join (Y := Unit) (pcJ := 94) (Lj := fun y11 => [(0, .ref (ad 62)), (1, .int a1), (2, .int a2), (3, .int x2), (4, .int v6.1), (5, .int v6.2)]) (sj := fun y11 => []) (fun y11 => ?_) (fun j12 hj12 => ?_)
          · refine z_iload_n (pc := 94) hE 3 3 rfl rfl dX2_waysFrom_94 ?_
            refine z_iload (pc := 95) hE 5 rfl dX2_waysFrom_95 ?_
            refine z_ishr (pc := 97) hE dX2_waysFrom_97 ?_
            refine z_iconst (pc := 98) hE dX2_waysFrom_98 q_iconst_1 ?_
            refine z_iand (pc := 99) hE dX2_waysFrom_99 ?_
            refine z_iconst (pc := 100) hE dX2_waysFrom_100 q_iconst_1 ?_
            refine z_join (Y := Int32) (pcJ := 117) (Lj := fun y13 => [(0, .ref (ad 62)), (1, .int a1), (2, .int a2), (3, .int x2), (4, .int y13), (5, .int v6.2)]) (sj := fun y13 => []) (fun y13 => ?_) (fun j14 hj14 => ?_)
            · refine z_iinc (L' := [(5, .int (v6.2 + (1 : Int32))), (0, .ref (ad 62)), (1, .int a1), (2, .int a2), (3, .int x2), (4, .int y13)]) (pc := 117) hE 5 rfl (zinc q_iconst_1) (by decide) rfl dX2_waysFrom_117 ?_
              refine z_goto (pc := 120) hE 73 rfl dX2_waysFrom_120 ?_
              exact z_sub [1, 2, 3, 4, 5, 0] rfl (hrc8 (y13, v6.2 + (1 : Int32)))
            refine z_icmp_ne (pc := 101) hE 117 rfl dX2_waysFrom_101 ?_ ?_
            · exact z_sub [0, 1, 2, 3, 4, 5] rfl (hj14 v6.1)
            · refine z_iload (pc := 104) hE 4 rfl dX2_waysFrom_104 ?_
              refine z_aload_n (pc := 106) hE 0 0 rfl rfl dX2_waysFrom_106 ?_
              refine z_iload_n (pc := 107) hE 1 1 rfl rfl dX2_waysFrom_107 ?_
              refine z_iload (pc := 108) hE 5 rfl dX2_waysFrom_108 ?_
              refine z_iload_n (pc := 110) hE 2 2 rfl rfl dX2_waysFrom_110 ?_
              refine z_callVi (pc := 111) (st := [.int v6.1]) [.int a1, .int v6.2, .int a2] hE kk_RX2_65 (hG.2 _ _ _ _ _ a1 v6.2 a2) lX_62 rfl rfl rfl (Nat.le_of_ble_eq_true rfl) (by omega) dX2_waysFrom_111 (fun x15 => ?_)
              refine z_iadd (pc := 114) hE dX2_waysFrom_114 ?_
              refine z_istore (L' := [(4, .int (v6.1 + x15)), (0, .ref (ad 62)), (1, .int a1), (2, .int a2), (3, .int x2), (5, .int v6.2)]) (pc := 115) hE (by decide) rfl dX2_waysFrom_115 ?_
              exact z_sub [1, 2, 3, 4, 0, 5] rfl (hj14 (v6.1 + x15))
          refine z_if_eq (pc := 86) hE 94 rfl dX2_waysFrom_86 ?_ ?_
          · exact z_sub [0, 1, 2, 3, 4, 5] rfl (hj12 ())
          · refine z_iload (pc := 89) hE 4 rfl dX2_waysFrom_89 ?_
            refine z_if_gt (pc := 91) hE 123 rfl dX2_waysFrom_91 ?_ ?_
            · exact z_sub [4] rfl (hk7 v6.1)
            · exact z_sub [0, 1, 2, 3, 4, 5] rfl (hj12 ())
      · refine z_iload (pc := 123) hE 0 rfl dX2_waysFrom_123 ?_
        exact z_ireturn (pc := 125) hE hr dX2_waysFrom_125
    refine z_if_eq (pc := 49) hE 67 rfl dX2_waysFrom_49 ?_ ?_
    · exact z_sub [1, 2, 3, 0] rfl (hj5 ())
    · refine z_iload_n (pc := 52) hE 2 1 rfl rfl dX2_waysFrom_52 ?_
      refine z_aload_n (pc := 53) hE 1 0 rfl rfl dX2_waysFrom_53 ?_
      refine z_geti (pc := 54) hE fk_RX2_29 lX_62 rfl dX2_waysFrom_54 (fun x16 => ?_)
      refine z_iconst (pc := 57) hE dX2_waysFrom_57 q_iconst_1 ?_
      refine z_isub (pc := 58) hE dX2_waysFrom_58 ?_
      refine z_icmp_ne (pc := 59) hE 67 rfl dX2_waysFrom_59 ?_ ?_
      · exact z_sub [1, 2, 3, 0] rfl (hj5 ())
      · refine z_iload_n (pc := 62) hE 0 3 rfl rfl dX2_waysFrom_62 ?_
        refine z_callSi (pc := 63) (st := []) [.int x2] hE kk_RX2_57 (c_J6_bitCount_0f7a4 x2) rfl rfl (Nat.le_of_ble_eq_true rfl) (by omega) dX2_waysFrom_63 (fun x17 => ?_)
        exact z_ireturn (pc := 66) hE hr dX2_waysFrom_66
  · refine z_aload_n (pc := 8) hE 0 0 rfl rfl dX2_waysFrom_8 ?_
    refine z_geti (pc := 9) hE fk_RX2_40 lX_62 rfl dX2_waysFrom_9 (fun x18 => ?_)
    refine z_if_ne (pc := 12) hE 37 rfl dX2_waysFrom_12 ?_ ?_
    · refine z_iconst (pc := 37) hE dX2_waysFrom_37 q_iconst_1 ?_
      exact z_ireturn (pc := 38) hE hr dX2_waysFrom_38
    · refine z_aload_n (pc := 15) hE 0 0 rfl rfl dX2_waysFrom_15 ?_
      refine z_getr (pc := 16) hE fk_RX2_15 lX_62 rfl dX2_waysFrom_16 ?_
      refine z_iconst (pc := 19) hE dX2_waysFrom_19 q_iconst_0 ?_
      refine z_aload_n (pc := 20) hE 0 0 rfl rfl dX2_waysFrom_20 ?_
      refine z_getr (pc := 21) hE fk_RX2_18 lX_62 rfl dX2_waysFrom_21 ?_
      refine z_iconst (pc := 24) hE dX2_waysFrom_24 q_iconst_0 ?_
      refine z_aload_n (pc := 25) hE 0 0 rfl rfl dX2_waysFrom_25 ?_
      refine z_geti (pc := 26) hE fk_RX2_29 lX_62 rfl dX2_waysFrom_26 (fun x19 => ?_)
      refine z_copy (pc := 29) hE w_3 w_4 w_5 w_6 lX_64 lX_65 (Nat.le_of_ble_eq_true rfl) (by omega) dX2_waysFrom_29 ?_
      refine z_aload_n (pc := 32) hE 0 0 rfl rfl dX2_waysFrom_32 ?_
      refine z_iconst (pc := 33) hE dX2_waysFrom_33 q_iconst_1 ?_
      refine z_putz (pc := 34) hE fk_RX2_40 lX_62 rfl dX2_waysFrom_34 ?_
      refine z_iconst (pc := 37) hE dX2_waysFrom_37 q_iconst_1 ?_
      exact z_ireturn (pc := 38) hE hr dX2_waysFrom_38
set_option maxRecDepth 100000 in
set_option maxHeartbeats 4000000 in
theorem c_X2_waysWith_s (G : ((Int32 × Int32) → zM Int32) × ((Int32 × Int32 × Int32) → zM Int32)) (d : Nat) (hd : 4 ≤ d) (hG : (∀ (l : Launch) (ad : Nat → Nat) (ca : FieldType → ClassId) (D : va_G) (tt : Nat → Nat) (a1 : Int32) (a2 : Int32), zC l yX2_waysFrom cX2_waysFrom 6 (some .int) (d - 1) layX ad ca D (xtX ad tt) [.ref (ad 62), .int a1, .int a2] zvi (G.1 (a1, a2))) ∧ (∀ (l : Launch) (ad : Nat → Nat) (ca : FieldType → ClassId) (D : va_G) (tt : Nat → Nat) (a1 : Int32) (a2 : Int32) (a3 : Int32), zC l yX2_waysWith cX2_waysWith 4 (some .int) (d - 1) layX ad ca D (xtX ad tt) [.ref (ad 62), .int a1, .int a2, .int a3] zvi (G.2 (a1, a2, a3)))) {l : Launch} {ad : Nat → Nat} {ca : FieldType → ClassId} {D : va_G} {tt : Nat → Nat} (a1 : Int32) (a2 : Int32) (a3 : Int32) : zC l yX2_waysWith cX2_waysWith 4 (some .int) d layX ad ca D (xtX ad tt) [.ref (ad 62), .int a1, .int a2, .int a3] zvi (p_X2_waysWith_s G a1 a2 a3) := by
  refine z_enter (by decide) (Nat.le_of_ble_eq_true rfl) (fun E hE hl0 hcD hr => ?_)
  have hE : zok layX ad (xtX ad tt) E cX2_waysWith 4 RX2 d := hE
  show Z layX ad E 4 (zFin layX ad E zvi) 0 [(0, .ref (ad 62)), (1, .int a1), (2, .int a2), (3, .int a3)] [] (p_X2_waysWith_s G a1 a2 a3)
  unfold p_X2_waysWith_s
  refine z_aload_n (pc := 0) hE 0 0 rfl rfl dX2_waysWith_0 ?_
  refine z_getr (pc := 1) hE fk_RX2_15 lX_62 rfl dX2_waysWith_1 ?_
  refine z_iload_n (pc := 4) hE 1 1 rfl rfl dX2_waysWith_4 ?_
  refine z_iload_n (pc := 5) hE 2 2 rfl rfl dX2_waysWith_5 ?_
  refine z_iast (pc := 6) hE lX_64 dX2_waysWith_6 ?_
  refine z_aload_n (pc := 7) hE 0 0 rfl rfl dX2_waysWith_7 ?_
  refine z_iload_n (pc := 8) hE 1 1 rfl rfl dX2_waysWith_8 ?_
  refine z_iconst (pc := 9) hE dX2_waysWith_9 q_iconst_1 ?_
  refine z_iadd (pc := 10) hE dX2_waysWith_10 ?_
  refine z_iload_n (pc := 11) hE 3 3 rfl rfl dX2_waysWith_11 ?_
  refine z_callVi (pc := 12) (st := []) [.int (a1 + ((1 : Int32))), .int a3] hE kk_RX2_44 (hG.1 _ _ _ _ _ (a1 + ((1 : Int32))) a3) lX_62 rfl rfl rfl (Nat.le_of_ble_eq_true rfl) (by omega) dX2_waysWith_12 (fun x1 => ?_)
  exact z_ireturn (pc := 15) hE hr dX2_waysWith_15
theorem c_X2_waysFrom_g : ∀ (n d : Nat), 3 + n ≤ d → (∀ (l : Launch) (ad : Nat → Nat) (ca : FieldType → ClassId) (D : va_G) (tt : Nat → Nat) (a1 : Int32) (a2 : Int32), zC l yX2_waysFrom cX2_waysFrom 6 (some .int) d layX ad ca D (xtX ad tt) [.ref (ad 62), .int a1, .int a2] zvi ((p_X2_waysFrom_g n).1 (a1, a2))) ∧ (∀ (l : Launch) (ad : Nat → Nat) (ca : FieldType → ClassId) (D : va_G) (tt : Nat → Nat) (a1 : Int32) (a2 : Int32) (a3 : Int32), zC l yX2_waysWith cX2_waysWith 4 (some .int) d layX ad ca D (xtX ad tt) [.ref (ad 62), .int a1, .int a2, .int a3] zvi ((p_X2_waysFrom_g n).2 (a1, a2, a3)))
  | 0, d, h => ⟨fun _ _ _ _ _ _ _ S r S2 h => (by cases h), fun _ _ _ _ _ _ _ _ S r S2 h => (by cases h)⟩
  | n + 1, d, h => by
    have hG := c_X2_waysFrom_g n (d - 1) (by omega)
    exact ⟨fun l ad ca D tt a1 a2 => c_X2_waysFrom_s _ d (by omega) hG a1 a2, fun l ad ca D tt a1 a2 a3 => c_X2_waysWith_s _ d (by omega) hG a1 a2 a3⟩
theorem c_X2_waysFrom {l : Launch} {ad : Nat → Nat} {ca : FieldType → ClassId} {D : va_G} {tt : Nat → Nat} (a1 : Int32) (a2 : Int32) : zC l yX2_waysFrom cX2_waysFrom 6 (some .int) 103 layX ad ca D (xtX ad tt) [.ref (ad 62), .int a1, .int a2] zvi (p_X2_waysFrom a1 a2) := (c_X2_waysFrom_g zDP 103 (Nat.le_of_eq (by rw [zDP_eq]))).1 _ _ _ _ _ a1 a2
theorem c_X2_waysWith {l : Launch} {ad : Nat → Nat} {ca : FieldType → ClassId} {D : va_G} {tt : Nat → Nat} (a1 : Int32) (a2 : Int32) (a3 : Int32) : zC l yX2_waysWith cX2_waysWith 4 (some .int) 103 layX ad ca D (xtX ad tt) [.ref (ad 62), .int a1, .int a2, .int a3] zvi (p_X2_waysWith a1 a2 a3) := (c_X2_waysFrom_g zDP 103 (Nat.le_of_eq (by rw [zDP_eq]))).2 _ _ _ _ _ a1 a2 a3
set_option maxRecDepth 100000 in
set_option maxHeartbeats 4000000 in
theorem c_X2_waysAll {l : Launch} {ad : Nat → Nat} {ca : FieldType → ClassId} {D : va_G} {tt : Nat → Nat}  : zC l yX2_waysAll cX2_waysAll 1 (some .int) 104 layX ad ca D (xtX ad tt) [.ref (ad 62)] zvi (p_X2_waysAll) := by
  refine z_enter (by decide) (Nat.le_of_ble_eq_true rfl) (fun E hE hl0 hcD hr => ?_)
  have hE : zok layX ad (xtX ad tt) E cX2_waysAll 1 RX2 104 := hE
  show Z layX ad E 1 (zFin layX ad E zvi) 0 [(0, .ref (ad 62))] [] (p_X2_waysAll)
  unfold p_X2_waysAll
  refine z_aload_n (pc := 0) hE 0 0 rfl rfl dX2_waysAll_0 ?_
  refine z_iconst (pc := 1) hE dX2_waysAll_1 q_iconst_0 ?_
  refine z_putz (pc := 2) hE fk_RX2_40 lX_62 rfl dX2_waysAll_2 ?_
  refine z_aload_n (pc := 5) hE 0 0 rfl rfl dX2_waysAll_5 ?_
  refine z_iconst (pc := 6) hE dX2_waysAll_6 q_iconst_0 ?_
  refine z_iconst (pc := 7) hE dX2_waysAll_7 q_iconst_0 ?_
  refine z_callVi (pc := 8) (st := []) [.int ((0 : Int32)), .int ((0 : Int32))] hE kk_RX2_44 (c_X2_waysFrom ((0 : Int32)) ((0 : Int32))) lX_62 rfl rfl rfl (Nat.le_of_ble_eq_true rfl) (by decide) dX2_waysAll_8 (fun x1 => ?_)
  exact z_ireturn (pc := 11) hE hr dX2_waysAll_11
set_option maxRecDepth 100000 in
set_option maxHeartbeats 4000000 in
theorem c_X2_canAll {l : Launch} {ad : Nat → Nat} {ca : FieldType → ClassId} {D : va_G} {tt : Nat → Nat}  : zC l yX2_canAll cX2_canAll 1 (some .boolean) 104 layX ad ca D (xtX ad tt) [.ref (ad 62)] zvi (p_X2_canAll) := by
  refine z_enter (by decide) (Nat.le_of_ble_eq_true rfl) (fun E hE hl0 hcD hr => ?_)
  have hE : zok layX ad (xtX ad tt) E cX2_canAll 1 RX2 104 := hE
  show Z layX ad E 1 (zFin layX ad E zvi) 0 [(0, .ref (ad 62))] [] (p_X2_canAll)
  unfold p_X2_canAll
  refine z_aload_n (pc := 0) hE 0 0 rfl rfl dX2_canAll_0 ?_
  refine z_iconst (pc := 1) hE dX2_canAll_1 q_iconst_0 ?_
  refine z_putz (pc := 2) hE fk_RX2_40 lX_62 rfl dX2_canAll_2 ?_
  refine z_aload_n (pc := 5) hE 0 0 rfl rfl dX2_canAll_5 ?_
  refine z_iconst (pc := 6) hE dX2_canAll_6 q_iconst_0 ?_
  refine z_iconst (pc := 7) hE dX2_canAll_7 q_iconst_1 ?_
  refine z_callVi (pc := 8) (st := []) [.int ((0 : Int32)), .int ((1 : Int32))] hE kk_RX2_44 (c_X2_waysFrom ((0 : Int32)) ((1 : Int32))) lX_62 rfl rfl rfl (Nat.le_of_ble_eq_true rfl) (by decide) dX2_canAll_8 (fun x1 => ?_)
  refine z_if_le (pc := 11) hE 18 rfl dX2_canAll_11 ?_ ?_
  · refine z_iconst (pc := 18) hE dX2_canAll_18 q_iconst_0 ?_
    exact z_zreturn (pc := 19) hE hr dX2_canAll_19
  · refine z_iconst (pc := 14) hE dX2_canAll_14 q_iconst_1 ?_
    refine z_goto (pc := 15) hE 19 rfl dX2_canAll_15 ?_
    exact z_zreturn (pc := 19) hE hr dX2_canAll_19
set_option maxRecDepth 100000 in
set_option maxHeartbeats 4000000 in
theorem c_X3_leave {l : Launch} {ad : Nat → Nat} {ca : FieldType → ClassId} {D : va_G} {tt : Nat → Nat} (b : Nat) (hb : zfk b) : zC l yX3_leave cX3_leave 1 none 0 layX ad ca D (xtX ad tt) [.ref (ad b)] zvn (p_X3_leave b) := by
  refine z_enter (by decide) (Nat.le_of_ble_eq_true rfl) (fun E hE hl0 hcD hr => ?_)
  have hE : zok layX ad (xtX ad tt) E cX3_leave 1 RX3 0 := hE
  show Z layX ad E 1 (zFin layX ad E zvn) 0 [(0, .ref (ad b))] [] (p_X3_leave b)
  unfold p_X3_leave
  refine z_aload_n (pc := 0) hE 0 0 rfl rfl dX3_leave_0 ?_
  refine z_iconst (pc := 1) hE dX3_leave_1 q_iconst_0 ?_
  refine z_puti (pc := 2) hE fk_RX3_59 hb.1 rfl dX3_leave_2 ?_
  refine z_aload_n (pc := 5) hE 0 0 rfl rfl dX3_leave_5 ?_
  refine z_iconst (pc := 6) hE dX3_leave_6 q_iconst_0 ?_
  refine z_puti (pc := 7) hE fk_RX3_63 hb.1 rfl dX3_leave_7 ?_
  exact z_return (pc := 10) hE hr dX3_leave_10
set_option maxRecDepth 100000 in
set_option maxHeartbeats 4000000 in
theorem c_X3_areAll {l : Launch} {ad : Nat → Nat} {ca : FieldType → ClassId} {D : va_G} {tt : Nat → Nat} (b : Nat) (hb : zfk b) (a1 : Int32) : zC l yX3_areAll cX3_areAll 2 (some .boolean) 0 layX ad ca D (xtX ad tt) [.ref (ad b), .int a1] zvi (p_X3_areAll b a1) := by
  refine z_enter (by decide) (Nat.le_of_ble_eq_true rfl) (fun E hE hl0 hcD hr => ?_)
  have hE : zok layX ad (xtX ad tt) E cX3_areAll 2 RX3 0 := hE
  show Z layX ad E 2 (zFin layX ad E zvi) 0 [(0, .ref (ad b)), (1, .int a1)] [] (p_X3_areAll b a1)
  unfold p_X3_areAll
  refine z_iload_n (pc := 0) hE 1 1 rfl rfl dX3_areAll_0 ?_
  refine z_iconst (pc := 1) hE dX3_areAll_1 q_iconst_1 ?_
  refine z_aload_n (pc := 2) hE 0 0 rfl rfl dX3_areAll_2 ?_
  refine z_geti (pc := 3) hE fk_RX3_59 hb.1 rfl dX3_areAll_3 (fun x1 => ?_)
  refine z_ishl (pc := 6) hE dX3_areAll_6 ?_
  refine z_iconst (pc := 7) hE dX3_areAll_7 q_iconst_1 ?_
  refine z_isub (pc := 8) hE dX3_areAll_8 ?_
  refine z_iconst (pc := 9) hE dX3_areAll_9 q_iconst_m1 ?_
  refine z_ixor (pc := 10) hE dX3_areAll_10 ?_
  refine z_iand (pc := 11) hE dX3_areAll_11 ?_
  refine z_if_ne (pc := 12) hE 19 rfl dX3_areAll_12 ?_ ?_
  · refine z_iconst (pc := 19) hE dX3_areAll_19 q_iconst_0 ?_
    exact z_zreturn (pc := 20) hE hr dX3_areAll_20
  · refine z_iconst (pc := 15) hE dX3_areAll_15 q_iconst_1 ?_
    refine z_goto (pc := 16) hE 20 rfl dX3_areAll_16 ?_
    exact z_zreturn (pc := 20) hE hr dX3_areAll_20
set_option maxRecDepth 100000 in
set_option maxHeartbeats 4000000 in
theorem c_X3_readLine {l : Launch} {ad : Nat → Nat} {ca : FieldType → ClassId} {D : va_G} {tt : Nat → Nat} (b : Nat) (hb : zfk b) (a2 : Int32) : zC l yX3_readLine cX3_readLine 3 (some .boolean) 2 layX ad ca D (xtX ad tt) [.ref (ad b), .ref (ad 1), .int a2] zvi (p_X3_readLine b a2) := by
  refine z_enter (by decide) (Nat.le_of_ble_eq_true rfl) (fun E hE hl0 hcD hr => ?_)
  have hE : zok layX ad (xtX ad tt) E cX3_readLine 3 RX3 2 := hE
  show Z layX ad E 3 (zFin layX ad E zvi) 0 [(0, .ref (ad b)), (1, .ref (ad 1)), (2, .int a2)] [] (p_X3_readLine b a2)
  unfold p_X3_readLine
  refine z_aload_n (pc := 0) hE 0 0 rfl rfl dX3_readLine_0 ?_
  refine z_getr (pc := 1) hE fk_RX3_20 hb.1 rfl dX3_readLine_1 ?_
  refine z_iload_n (pc := 4) hE 2 2 rfl rfl dX3_readLine_4 ?_
  refine z_aload_n (pc := 5) hE 1 1 rfl rfl dX3_readLine_5 ?_
  refine z_callVi (pc := 6) (st := [.int a2, .ref (ad (b + 3))]) [] hE kk_RX3_84 (c_X8_number) lX_1 rfl rfl rfl (Nat.le_of_ble_eq_true rfl) (by decide) dX3_readLine_6 (fun x1 => ?_)
  refine z_iast (pc := 9) hE hb.2.2.2.1 dX3_readLine_9 ?_
  refine z_aload_n (pc := 10) hE 0 0 rfl rfl dX3_readLine_10 ?_
  refine z_getr (pc := 11) hE fk_RX3_20 hb.1 rfl dX3_readLine_11 ?_
  refine z_iload_n (pc := 14) hE 2 2 rfl rfl dX3_readLine_14 ?_
  refine z_iald (pc := 15) hE hb.2.2.2.1 dX3_readLine_15 (fun x2 => ?_)
  refine z_if_lt (pc := 16) hE 28 rfl dX3_readLine_16 ?_ ?_
  · refine z_iconst (pc := 28) hE dX3_readLine_28 q_iconst_0 ?_
    exact z_zreturn (pc := 29) hE hr dX3_readLine_29
  · refine z_aload_n (pc := 19) hE 1 1 rfl rfl dX3_readLine_19 ?_
    refine z_bipush (pc := 20) hE dX3_readLine_20 q_bipush_44 ?_
    refine z_callVi (pc := 22) (st := []) [.int ((44 : Int32))] hE kk_RX3_80 (c_X8_take ((44 : Int32))) lX_1 rfl rfl rfl (Nat.le_of_ble_eq_true rfl) (by decide) dX3_readLine_22 (fun x3 => ?_)
    refine z_if_ne (pc := 25) hE 30 rfl dX3_readLine_25 ?_ ?_
    · refine z_aload_n (pc := 30) hE 0 0 rfl rfl dX3_readLine_30 ?_
      refine z_getr (pc := 31) hE fk_RX3_23 hb.1 rfl dX3_readLine_31 ?_
      refine z_iload_n (pc := 34) hE 2 2 rfl rfl dX3_readLine_34 ?_
      refine z_aload_n (pc := 35) hE 1 1 rfl rfl dX3_readLine_35 ?_
      refine z_iconst (pc := 36) hE dX3_readLine_36 q_iconst_0 ?_
      refine z_bipush (pc := 37) hE dX3_readLine_37 q_bipush_9 ?_
      refine z_callVi (pc := 39) (st := [.int a2, .ref (ad (b + 4))]) [.int ((0 : Int32)), .int ((9 : Int32))] hE kk_RX3_88 (c_X8_digit ((0 : Int32)) ((9 : Int32))) lX_1 rfl rfl rfl (Nat.le_of_ble_eq_true rfl) (by decide) dX3_readLine_39 (fun x4 => ?_)
      refine z_iast (pc := 42) hE hb.2.2.2.2.1 dX3_readLine_42 ?_
      refine z_aload_n (pc := 43) hE 0 0 rfl rfl dX3_readLine_43 ?_
      refine z_getr (pc := 44) hE fk_RX3_23 hb.1 rfl dX3_readLine_44 ?_
      refine z_iload_n (pc := 47) hE 2 2 rfl rfl dX3_readLine_47 ?_
      refine z_iald (pc := 48) hE hb.2.2.2.2.1 dX3_readLine_48 (fun x5 => ?_)
      refine z_if_ge (pc := 49) hE 54 rfl dX3_readLine_49 ?_ ?_
      · refine z_aload_n (pc := 54) hE 0 0 rfl rfl dX3_readLine_54 ?_
        refine z_getr (pc := 55) hE fk_RX3_26 hb.1 rfl dX3_readLine_55 ?_
        refine z_iload_n (pc := 58) hE 2 2 rfl rfl dX3_readLine_58 ?_
        refine z_aload_n (pc := 59) hE 1 1 rfl rfl dX3_readLine_59 ?_
        refine z_iconst (pc := 60) hE dX3_readLine_60 q_iconst_0 ?_
        refine z_bipush (pc := 61) hE dX3_readLine_61 q_bipush_9 ?_
        refine z_callVi (pc := 63) (st := [.int a2, .ref (ad (b + 5))]) [.int ((0 : Int32)), .int ((9 : Int32))] hE kk_RX3_88 (c_X8_digit ((0 : Int32)) ((9 : Int32))) lX_1 rfl rfl rfl (Nat.le_of_ble_eq_true rfl) (by decide) dX3_readLine_63 (fun x6 => ?_)
        refine z_iast (pc := 66) hE hb.2.2.2.2.2.1 dX3_readLine_66 ?_
        refine z_aload_n (pc := 67) hE 0 0 rfl rfl dX3_readLine_67 ?_
        refine z_getr (pc := 68) hE fk_RX3_26 hb.1 rfl dX3_readLine_68 ?_
        refine z_iload_n (pc := 71) hE 2 2 rfl rfl dX3_readLine_71 ?_
        refine z_iald (pc := 72) hE hb.2.2.2.2.2.1 dX3_readLine_72 (fun x7 => ?_)
        refine z_if_ge (pc := 73) hE 78 rfl dX3_readLine_73 ?_ ?_
        · refine z_aload_n (pc := 78) hE 0 0 rfl rfl dX3_readLine_78 ?_
          refine z_getr (pc := 79) hE fk_RX3_29 hb.1 rfl dX3_readLine_79 ?_
          refine z_iload_n (pc := 82) hE 2 2 rfl rfl dX3_readLine_82 ?_
          refine z_aload_n (pc := 83) hE 1 1 rfl rfl dX3_readLine_83 ?_
          refine z_iconst (pc := 84) hE dX3_readLine_84 q_iconst_1 ?_
          refine z_bipush (pc := 85) hE dX3_readLine_85 q_bipush_9 ?_
          refine z_callVi (pc := 87) (st := [.int a2, .ref (ad (b + 6))]) [.int ((1 : Int32)), .int ((9 : Int32))] hE kk_RX3_88 (c_X8_digit ((1 : Int32)) ((9 : Int32))) lX_1 rfl rfl rfl (Nat.le_of_ble_eq_true rfl) (by decide) dX3_readLine_87 (fun x8 => ?_)
          refine z_iast (pc := 90) hE hb.2.2.2.2.2.2.1 dX3_readLine_90 ?_
          refine z_aload_n (pc := 91) hE 0 0 rfl rfl dX3_readLine_91 ?_
          refine z_getr (pc := 92) hE fk_RX3_29 hb.1 rfl dX3_readLine_92 ?_
          refine z_iload_n (pc := 95) hE 2 2 rfl rfl dX3_readLine_95 ?_
          refine z_iald (pc := 96) hE hb.2.2.2.2.2.2.1 dX3_readLine_96 (fun x9 => ?_)
          refine z_if_ge (pc := 97) hE 102 rfl dX3_readLine_97 ?_ ?_
          · refine z_aload_n (pc := 102) hE 0 0 rfl rfl dX3_readLine_102 ?_
            refine z_getr (pc := 103) hE fk_RX3_32 hb.1 rfl dX3_readLine_103 ?_
            refine z_iload_n (pc := 106) hE 2 2 rfl rfl dX3_readLine_106 ?_
            refine z_aload_n (pc := 107) hE 1 1 rfl rfl dX3_readLine_107 ?_
            refine z_iconst (pc := 108) hE dX3_readLine_108 q_iconst_0 ?_
            refine z_bipush (pc := 109) hE dX3_readLine_109 q_bipush_9 ?_
            refine z_callVi (pc := 111) (st := [.int a2, .ref (ad (b + 7))]) [.int ((0 : Int32)), .int ((9 : Int32))] hE kk_RX3_88 (c_X8_digit ((0 : Int32)) ((9 : Int32))) lX_1 rfl rfl rfl (Nat.le_of_ble_eq_true rfl) (by decide) dX3_readLine_111 (fun x10 => ?_)
            refine z_iast (pc := 114) hE hb.2.2.2.2.2.2.2.1 dX3_readLine_114 ?_
            refine z_aload_n (pc := 115) hE 0 0 rfl rfl dX3_readLine_115 ?_
            refine z_getr (pc := 116) hE fk_RX3_35 hb.1 rfl dX3_readLine_116 ?_
            refine z_iload_n (pc := 119) hE 2 2 rfl rfl dX3_readLine_119 ?_
            refine z_iconst (pc := 120) hE dX3_readLine_120 q_iconst_0 ?_
            refine z_iast (pc := 121) hE hb.2.2.2.2.2.2.2.2.1 dX3_readLine_121 ?_
            refine z_aload_n (pc := 122) hE 0 0 rfl rfl dX3_readLine_122 ?_
            refine z_getr (pc := 123) hE fk_RX3_32 hb.1 rfl dX3_readLine_123 ?_
            refine z_iload_n (pc := 126) hE 2 2 rfl rfl dX3_readLine_126 ?_
            refine z_iald (pc := 127) hE hb.2.2.2.2.2.2.2.1 dX3_readLine_127 (fun x11 => ?_)
            refine z_if_lt (pc := 128) hE 135 rfl dX3_readLine_128 ?_ ?_
            · refine z_iconst (pc := 135) hE dX3_readLine_135 q_iconst_0 ?_
              exact z_zreturn (pc := 136) hE hr dX3_readLine_136
            · refine z_iconst (pc := 131) hE dX3_readLine_131 q_iconst_1 ?_
              refine z_goto (pc := 132) hE 136 rfl dX3_readLine_132 ?_
              exact z_zreturn (pc := 136) hE hr dX3_readLine_136
          · refine z_iconst (pc := 100) hE dX3_readLine_100 q_iconst_0 ?_
            exact z_zreturn (pc := 101) hE hr dX3_readLine_101
        · refine z_iconst (pc := 76) hE dX3_readLine_76 q_iconst_0 ?_
          exact z_zreturn (pc := 77) hE hr dX3_readLine_77
      · refine z_iconst (pc := 52) hE dX3_readLine_52 q_iconst_0 ?_
        exact z_zreturn (pc := 53) hE hr dX3_readLine_53
    · refine z_iconst (pc := 28) hE dX3_readLine_28 q_iconst_0 ?_
      exact z_zreturn (pc := 29) hE hr dX3_readLine_29
set_option maxRecDepth 100000 in
set_option maxHeartbeats 4000000 in
theorem c_X3_readLines {l : Launch} {ad : Nat → Nat} {ca : FieldType → ClassId} {D : va_G} {tt : Nat → Nat} (b : Nat) (hb : zfk b) : zC l yX3_readLines cX3_readLines 3 (some .int) 3 layX ad ca D (xtX ad tt) [.ref (ad b), .ref (ad 1)] zvi (p_X3_readLines b) := by
  refine z_enter (by decide) (Nat.le_of_ble_eq_true rfl) (fun E hE hl0 hcD hr => ?_)
  have hE : zok layX ad (xtX ad tt) E cX3_readLines 3 RX3 3 := hE
  show Z layX ad E 3 (zFin layX ad E zvi) 0 [(0, .ref (ad b)), (1, .ref (ad 1))] [] (p_X3_readLines b)
  unfold p_X3_readLines
  refine z_aload_n (pc := 0) hE 0 0 rfl rfl dX3_readLines_0 ?_
  refine z_geti (pc := 1) hE fk_RX3_59 hb.1 rfl dX3_readLines_1 (fun x1 => ?_)
  refine z_istore_n (L' := [(2, .int x1), (0, .ref (ad b)), (1, .ref (ad 1))]) (pc := 4) hE 2 rfl (by decide) rfl dX3_readLines_4 ?_
  refine z_sub (L' := [(0, .ref (ad b)), (1, .ref (ad 1)), (2, .int x1)]) [1, 2, 0] rfl ?_
  refine z_loop (V := Int32) (X := Int32) (hd := 5) (ex := 29) (Lh := fun v2 => [(0, .ref (ad b)), (1, .ref (ad 1)), (2, .int v2)]) (Lx := fun e5 => [(0, .ref (ad b)), (2, .int e5)]) (fun rc4 k3 hrc4 hk3 v2 => ?_) zNF x1 _ (fun e5 => ?_)
  · unfold p_X3_readLines_b5
    refine z_iload_n (pc := 5) hE 2 2 rfl rfl dX3_readLines_5 ?_
    refine z_bipush (pc := 6) hE dX3_readLines_6 q_bipush_6 ?_
    refine z_icmp_ge (pc := 8) hE 55 rfl dX3_readLines_8 ?_ ?_
    · refine z_iconst (pc := 55) hE dX3_readLines_55 q_iconst_m1 ?_
      exact z_ireturn (pc := 56) hE hr dX3_readLines_56
    · refine z_aload_n (pc := 11) hE 0 0 rfl rfl dX3_readLines_11 ?_
      refine z_aload_n (pc := 12) hE 1 1 rfl rfl dX3_readLines_12 ?_
      refine z_iload_n (pc := 13) hE 2 2 rfl rfl dX3_readLines_13 ?_
      refine z_callVi (pc := 14) (st := []) [.ref (ad 1), .int v2] hE kk_RX3_76 (c_X3_readLine b hb v2) hb.1 rfl rfl rfl (Nat.le_of_ble_eq_true rfl) (by decide) dX3_readLines_14 (fun x6 => ?_)
      refine z_if_ne (pc := 17) hE 22 rfl dX3_readLines_17 ?_ ?_
      · refine z_aload_n (pc := 22) hE 1 1 rfl rfl dX3_readLines_22 ?_
        refine z_callVi (pc := 23) (st := []) [] hE kk_RX3_66 (c_X8_isRead) lX_1 rfl rfl rfl (Nat.le_of_ble_eq_true rfl) (by decide) dX3_readLines_23 (fun x7 => ?_)
        refine z_if_eq (pc := 26) hE 38 rfl dX3_readLines_26 ?_ ?_
        · refine z_aload_n (pc := 38) hE 1 1 rfl rfl dX3_readLines_38 ?_
          refine z_bipush (pc := 39) hE dX3_readLines_39 q_bipush_59 ?_
          refine z_callVi (pc := 41) (st := []) [.int ((59 : Int32))] hE kk_RX3_80 (c_X8_take ((59 : Int32))) lX_1 rfl rfl rfl (Nat.le_of_ble_eq_true rfl) (by decide) dX3_readLines_41 (fun x8 => ?_)
          refine z_if_ne (pc := 44) hE 49 rfl dX3_readLines_44 ?_ ?_
          · refine z_iinc (L' := [(2, .int (v2 + (1 : Int32))), (0, .ref (ad b)), (1, .ref (ad 1))]) (pc := 49) hE 2 rfl (zinc q_iconst_1) (by decide) rfl dX3_readLines_49 ?_
            refine z_goto (pc := 52) hE 5 rfl dX3_readLines_52 ?_
            exact z_sub [1, 2, 0] rfl (hrc4 (v2 + (1 : Int32)))
          · refine z_iconst (pc := 47) hE dX3_readLines_47 q_iconst_m1 ?_
            exact z_ireturn (pc := 48) hE hr dX3_readLines_48
        · exact z_sub [0, 2] rfl (hk3 v2)
      · refine z_iconst (pc := 20) hE dX3_readLines_20 q_iconst_m1 ?_
        exact z_ireturn (pc := 21) hE hr dX3_readLines_21
  · refine z_iload_n (pc := 29) hE 1 2 rfl rfl dX3_readLines_29 ?_
    refine z_iconst (pc := 30) hE dX3_readLines_30 q_iconst_1 ?_
    refine z_iadd (pc := 31) hE dX3_readLines_31 ?_
    refine z_aload_n (pc := 32) hE 0 0 rfl rfl dX3_readLines_32 ?_
    refine z_geti (pc := 33) hE fk_RX3_59 hb.1 rfl dX3_readLines_33 (fun x9 => ?_)
    refine z_isub (pc := 36) hE dX3_readLines_36 ?_
    exact z_ireturn (pc := 37) hE hr dX3_readLines_37
set_option maxRecDepth 100000 in
set_option maxHeartbeats 4000000 in
theorem c_X3_read {l : Launch} {ad : Nat → Nat} {ca : FieldType → ClassId} {D : va_G} {tt : Nat → Nat} (b : Nat) (hb : zfk b) : zC l yX3_read cX3_read 3 (some .int) 4 layX ad ca D (xtX ad tt) [.ref (ad b), .ref (ad 1)] zvi (p_X3_read b) := by
  refine z_enter (by decide) (Nat.le_of_ble_eq_true rfl) (fun E hE hl0 hcD hr => ?_)
  have hE : zok layX ad (xtX ad tt) E cX3_read 3 RX3 4 := hE
  show Z layX ad E 3 (zFin layX ad E zvi) 0 [(0, .ref (ad b)), (1, .ref (ad 1))] [] (p_X3_read b)
  unfold p_X3_read
  refine z_aload_n (pc := 0) hE 1 1 rfl rfl dX3_read_0 ?_
  refine z_callVi (pc := 1) (st := []) [] hE kk_RX3_66 (c_X8_isRead) lX_1 rfl rfl rfl (Nat.le_of_ble_eq_true rfl) (by decide) dX3_read_1 (fun x1 => ?_)
  refine z_join (Y := Int32) (pcJ := 16) (Lj := fun y2 => [(0, .ref (ad b))]) (sj := fun y2 => [.int y2]) (fun y2 => ?_) (fun j3 hj3 => ?_)
  · refine z_istore_n (L' := [(2, .int y2), (0, .ref (ad b))]) (pc := 16) hE 2 rfl (by decide) rfl dX3_read_16 ?_
    refine z_iload_n (pc := 17) hE 0 2 rfl rfl dX3_read_17 ?_
    refine z_if_le (pc := 18) hE 31 rfl dX3_read_18 ?_ ?_
    · refine z_iload_n (pc := 31) hE 0 2 rfl rfl dX3_read_31 ?_
      exact z_ireturn (pc := 32) hE hr dX3_read_32
    · refine z_aload_n (pc := 21) hE 1 0 rfl rfl dX3_read_21 ?_
      refine z_dup (pc := 22) hE dX3_read_22 rfl ?_
      refine z_geti (pc := 23) hE fk_RX3_59 hb.1 rfl dX3_read_23 (fun x4 => ?_)
      refine z_iload_n (pc := 26) hE 0 2 rfl rfl dX3_read_26 ?_
      refine z_iadd (pc := 27) hE dX3_read_27 ?_
      refine z_puti (pc := 28) hE fk_RX3_59 hb.1 rfl dX3_read_28 ?_
      refine z_iload_n (pc := 31) hE 0 2 rfl rfl dX3_read_31 ?_
      exact z_ireturn (pc := 32) hE hr dX3_read_32
  refine z_if_eq (pc := 4) hE 11 rfl dX3_read_4 ?_ ?_
  · refine z_aload_n (pc := 11) hE 0 0 rfl rfl dX3_read_11 ?_
    refine z_aload_n (pc := 12) hE 1 1 rfl rfl dX3_read_12 ?_
    refine z_callVi (pc := 13) (st := []) [.ref (ad 1)] hE kk_RX3_72 (c_X3_readLines b hb) hb.1 rfl rfl rfl (Nat.le_of_ble_eq_true rfl) (by decide) dX3_read_13 (fun x5 => ?_)
    exact z_sub [0] rfl (hj3 x5)
  · refine z_iconst (pc := 7) hE dX3_read_7 q_iconst_0 ?_
    refine z_goto (pc := 8) hE 16 rfl dX3_read_8 ?_
    exact z_sub [0] rfl (hj3 ((0 : Int32)))
set_option maxRecDepth 100000 in
set_option maxHeartbeats 4000000 in
theorem c_X7_joined {l : Launch} {ad : Nat → Nat} {ca : FieldType → ClassId} {D : va_G} {tt : Nat → Nat} (a1 : Int32) (a2 : Int32) (a3 : Int32) : zC l yX7_joined cX7_joined 3 (some .int) 0 layX ad ca D (xtX ad tt) [.int a1, .int a2, .int a3] zvi (p_X7_joined a1 a2 a3) := by
  refine z_enter (by decide) (Nat.le_of_ble_eq_true rfl) (fun E hE hl0 hcD hr => ?_)
  have hE : zok layX ad (xtX ad tt) E cX7_joined 3 RX7 0 := hE
  show Z layX ad E 3 (zFin layX ad E zvi) 0 [(0, .int a1), (1, .int a2), (2, .int a3)] [] (p_X7_joined a1 a2 a3)
  unfold p_X7_joined
  refine z_iload_n (pc := 0) hE 0 0 rfl rfl dX7_joined_0 ?_
  refine z_case a1 (42 : Int32) (fun hc1 => ?_) (fun hc1 => ?_)
  · refine z_lookup (pc := 1) hE 100 101 dX7_joined_1 (by decide) (by rw [hc1]; decide) rfl ?_
    refine z_iload_n (pc := 101) hE 1 1 rfl rfl dX7_joined_101 ?_
    refine z_iload_n (pc := 102) hE 2 2 rfl rfl dX7_joined_102 ?_
    refine z_imul (pc := 103) hE dX7_joined_103 ?_
    exact z_ireturn (pc := 104) hE hr dX7_joined_104
  refine z_case a1 (43 : Int32) (fun hc2 => ?_) (fun hc2 => ?_)
  · refine z_lookup (pc := 1) hE 92 93 dX7_joined_1 (by decide) (by rw [hc2]; decide) rfl ?_
    refine z_iload_n (pc := 93) hE 1 1 rfl rfl dX7_joined_93 ?_
    refine z_iload_n (pc := 94) hE 2 2 rfl rfl dX7_joined_94 ?_
    refine z_iadd (pc := 95) hE dX7_joined_95 ?_
    exact z_ireturn (pc := 96) hE hr dX7_joined_96
  refine z_case a1 (45 : Int32) (fun hc3 => ?_) (fun hc3 => ?_)
  · refine z_lookup (pc := 1) hE 96 97 dX7_joined_1 (by decide) (by rw [hc3]; decide) rfl ?_
    refine z_iload_n (pc := 97) hE 1 1 rfl rfl dX7_joined_97 ?_
    refine z_iload_n (pc := 98) hE 2 2 rfl rfl dX7_joined_98 ?_
    refine z_isub (pc := 99) hE dX7_joined_99 ?_
    exact z_ireturn (pc := 100) hE hr dX7_joined_100
  refine z_case a1 (60 : Int32) (fun hc4 => ?_) (fun hc4 => ?_)
  · refine z_lookup (pc := 1) hE 59 60 dX7_joined_1 (by decide) (by rw [hc4]; decide) rfl ?_
    refine z_iload_n (pc := 60) hE 1 1 rfl rfl dX7_joined_60 ?_
    refine z_iload_n (pc := 61) hE 2 2 rfl rfl dX7_joined_61 ?_
    refine z_icmp_ge (pc := 62) hE 69 rfl dX7_joined_62 ?_ ?_
    · refine z_iconst (pc := 69) hE dX7_joined_69 q_iconst_0 ?_
      exact z_ireturn (pc := 70) hE hr dX7_joined_70
    · refine z_iconst (pc := 65) hE dX7_joined_65 q_iconst_1 ?_
      refine z_goto (pc := 66) hE 70 rfl dX7_joined_66 ?_
      exact z_ireturn (pc := 70) hE hr dX7_joined_70
  refine z_case a1 (61 : Int32) (fun hc5 => ?_) (fun hc5 => ?_)
  · refine z_lookup (pc := 1) hE 81 82 dX7_joined_1 (by decide) (by rw [hc5]; decide) rfl ?_
    refine z_iload_n (pc := 82) hE 1 1 rfl rfl dX7_joined_82 ?_
    refine z_iload_n (pc := 83) hE 2 2 rfl rfl dX7_joined_83 ?_
    refine z_icmp_ne (pc := 84) hE 91 rfl dX7_joined_84 ?_ ?_
    · refine z_iconst (pc := 91) hE dX7_joined_91 q_iconst_0 ?_
      exact z_ireturn (pc := 92) hE hr dX7_joined_92
    · refine z_iconst (pc := 87) hE dX7_joined_87 q_iconst_1 ?_
      refine z_goto (pc := 88) hE 92 rfl dX7_joined_88 ?_
      exact z_ireturn (pc := 92) hE hr dX7_joined_92
  refine z_case a1 (62 : Int32) (fun hc6 => ?_) (fun hc6 => ?_)
  · refine z_lookup (pc := 1) hE 70 71 dX7_joined_1 (by decide) (by rw [hc6]; decide) rfl ?_
    refine z_iload_n (pc := 71) hE 1 1 rfl rfl dX7_joined_71 ?_
    refine z_iload_n (pc := 72) hE 2 2 rfl rfl dX7_joined_72 ?_
    refine z_icmp_le (pc := 73) hE 80 rfl dX7_joined_73 ?_ ?_
    · refine z_iconst (pc := 80) hE dX7_joined_80 q_iconst_0 ?_
      exact z_ireturn (pc := 81) hE hr dX7_joined_81
    · refine z_iconst (pc := 76) hE dX7_joined_76 q_iconst_1 ?_
      refine z_goto (pc := 77) hE 81 rfl dX7_joined_77 ?_
      exact z_ireturn (pc := 81) hE hr dX7_joined_81
  have ihc1 := zne (42) hc1 (by decide)
  have ihc2 := zne (43) hc2 (by decide)
  have ihc3 := zne (45) hc3 (by decide)
  have ihc4 := zne (60) hc4 (by decide)
  have ihc5 := zne (61) hc5 (by decide)
  have ihc6 := zne (62) hc6 (by decide)
  refine z_lookup (pc := 1) hE (104) 105 dX7_joined_1 (by decide) (by simp [Op.lookupswitch.offset, ihc1, Ne.symm ihc1, ihc2, Ne.symm ihc2, ihc3, Ne.symm ihc3, ihc4, Ne.symm ihc4, ihc5, Ne.symm ihc5, ihc6, Ne.symm ihc6]) rfl ?_
  refine z_iload_n (pc := 105) hE 2 2 rfl rfl dX7_joined_105 ?_
  refine z_if_ne (pc := 106) hE 113 rfl dX7_joined_106 ?_ ?_
  · refine z_iload_n (pc := 113) hE 1 1 rfl rfl dX7_joined_113 ?_
    refine z_iload_n (pc := 114) hE 2 2 rfl rfl dX7_joined_114 ?_
    refine z_idiv (pc := 115) hE dX7_joined_115 ?_
    exact z_ireturn (pc := 116) hE hr dX7_joined_116
  · refine z_iconst (pc := 109) hE dX7_joined_109 q_iconst_0 ?_
    refine z_goto (pc := 110) hE 116 rfl dX7_joined_110 ?_
    exact z_ireturn (pc := 116) hE hr dX7_joined_116
set_option maxRecDepth 100000 in
set_option maxHeartbeats 4000000 in
theorem c_X7_valueBy {l : Launch} {ad : Nat → Nat} {ca : FieldType → ClassId} {D : va_G} {tt : Nat → Nat} (r n : Nat) (hr0 : layX[r]? = some (.inr (.int, n))) : zC l yX7_valueBy cX7_valueBy 5 (some .int) 1 layX ad ca D (xtX ad tt) [.ref (ad 16), .ref (ad r)] zvi (p_X7_valueBy r n) := by
  refine z_enter (by decide) (Nat.le_of_ble_eq_true rfl) (fun E hE hl0 hcD hr => ?_)
  have hE : zok layX ad (xtX ad tt) E cX7_valueBy 5 RX7 1 := hE
  show Z layX ad E 5 (zFin layX ad E zvi) 0 [(0, .ref (ad 16)), (1, .ref (ad r))] [] (p_X7_valueBy r n)
  unfold p_X7_valueBy
  refine z_aload_n (pc := 0) hE 1 1 rfl rfl dX7_valueBy_0 ?_
  refine z_aleni (pc := 1) hE hr0 rfl dX7_valueBy_1 ?_
  refine z_bipush (pc := 2) hE dX7_valueBy_2 q_bipush_8 ?_
  refine z_icmp_ge (pc := 4) hE 9 rfl dX7_valueBy_4 ?_ ?_
  · refine z_aload_n (pc := 9) hE 0 0 rfl rfl dX7_valueBy_9 ?_
    refine z_geti (pc := 10) hE fk_RX7_35 lX_16 rfl dX7_valueBy_10 (fun x1 => ?_)
    refine z_if_ne (pc := 13) hE 36 rfl dX7_valueBy_13 ?_ ?_
    · refine z_iconst (pc := 36) hE dX7_valueBy_36 q_iconst_0 ?_
      refine z_istore_n (L' := [(2, .int ((0 : Int32))), (0, .ref (ad 16)), (1, .ref (ad r))]) (pc := 37) hE 2 rfl (by decide) rfl dX7_valueBy_37 ?_
      refine z_iconst (pc := 38) hE dX7_valueBy_38 q_iconst_0 ?_
      refine z_istore_n (L' := [(3, .int ((0 : Int32))), (2, .int ((0 : Int32))), (0, .ref (ad 16)), (1, .ref (ad r))]) (pc := 39) hE 3 rfl (by decide) rfl dX7_valueBy_39 ?_
      refine z_sub (L' := [(0, .ref (ad 16)), (1, .ref (ad r)), (2, .int ((0 : Int32))), (3, .int ((0 : Int32)))]) [2, 3, 1, 0] rfl ?_
      refine z_loop (V := (Int32 × Int32)) (X := Unit) (hd := 40) (ex := 187) (Lh := fun v2 => [(0, .ref (ad 16)), (1, .ref (ad r)), (2, .int v2.1), (3, .int v2.2)]) (Lx := fun e5 => [(0, .ref (ad 16))]) (fun rc4 k3 hrc4 hk3 v2 => ?_) zNF ((0 : Int32), (0 : Int32)) _ (fun e5 => ?_)
      · unfold p_X7_valueBy_b40
        refine z_iload_n (pc := 40) hE 3 3 rfl rfl dX7_valueBy_40 ?_
        refine z_aload_n (pc := 41) hE 0 0 rfl rfl dX7_valueBy_41 ?_
        refine z_geti (pc := 42) hE fk_RX7_35 lX_16 rfl dX7_valueBy_42 (fun x6 => ?_)
        refine z_icmp_ge (pc := 45) hE 187 rfl dX7_valueBy_45 ?_ ?_
        · exact z_sub [0] rfl (hk3 ())
        · refine z_aload_n (pc := 48) hE 0 0 rfl rfl dX7_valueBy_48 ?_
          refine z_getr (pc := 49) hE fk_RX7_9 lX_16 rfl dX7_valueBy_49 ?_
          refine z_iload_n (pc := 52) hE 3 3 rfl rfl dX7_valueBy_52 ?_
          refine z_iald (pc := 53) hE lX_17 dX7_valueBy_53 (fun x7 => ?_)
          refine z_istore (L' := [(4, .int x7), (0, .ref (ad 16)), (1, .ref (ad r)), (2, .int v2.1), (3, .int v2.2)]) (pc := 54) hE (by decide) rfl dX7_valueBy_54 ?_
          refine z_iload (pc := 56) hE 0 rfl dX7_valueBy_56 ?_
          refine z_sipush (pc := 58) hE dX7_valueBy_58 q_sipush_2000 ?_
          refine z_join (Y := Int32) (pcJ := 181) (Lj := fun y8 => [(0, .ref (ad 16)), (1, .ref (ad r)), (2, .int y8), (3, .int v2.2)]) (sj := fun y8 => []) (fun y8 => ?_) (fun j9 hj9 => ?_)
          · refine z_iinc (L' := [(3, .int (v2.2 + (1 : Int32))), (0, .ref (ad 16)), (1, .ref (ad r)), (2, .int y8)]) (pc := 181) hE 3 rfl (zinc q_iconst_1) (by decide) rfl dX7_valueBy_181 ?_
            refine z_goto (pc := 184) hE 40 rfl dX7_valueBy_184 ?_
            exact z_sub [1, 2, 3, 0] rfl (hrc4 (y8, v2.2 + (1 : Int32)))
          refine z_join (Y := Unit) (pcJ := 109) (Lj := fun y10 => [(0, .ref (ad 16)), (1, .ref (ad r)), (2, .int v2.1), (3, .int v2.2), (4, .int x7)]) (sj := fun y10 => []) (fun y10 => ?_) (fun j11 hj11 => ?_)
          · refine z_iload (pc := 109) hE 4 rfl dX7_valueBy_109 ?_
            refine z_sipush (pc := 111) hE dX7_valueBy_111 q_sipush_3000 ?_
            refine z_join (Y := Unit) (pcJ := 142) (Lj := fun y12 => [(0, .ref (ad 16)), (1, .ref (ad r)), (2, .int v2.1), (3, .int v2.2), (4, .int x7)]) (sj := fun y12 => []) (fun y12 => ?_) (fun j13 hj13 => ?_)
            · refine z_iload_n (pc := 142) hE 2 2 rfl rfl dX7_valueBy_142 ?_
              refine z_iconst (pc := 143) hE dX7_valueBy_143 q_iconst_2 ?_
              refine z_icmp_lt (pc := 144) hE 181 rfl dX7_valueBy_144 ?_ ?_
              · exact z_sub [0, 1, 2, 3] rfl (hj9 v2.1)
              · refine z_iinc (L' := [(2, .int (v2.1 + (-1 : Int32))), (0, .ref (ad 16)), (1, .ref (ad r)), (3, .int v2.2), (4, .int x7)]) (pc := 147) hE 2 rfl (zinc q_iconst_m1) (by decide) rfl dX7_valueBy_147 ?_
                refine z_aload_n (pc := 150) hE 1 0 rfl rfl dX7_valueBy_150 ?_
                refine z_getr (pc := 151) hE fk_RX7_18 lX_16 rfl dX7_valueBy_151 ?_
                refine z_iload_n (pc := 154) hE 0 2 rfl rfl dX7_valueBy_154 ?_
                refine z_iconst (pc := 155) hE dX7_valueBy_155 q_iconst_1 ?_
                refine z_isub (pc := 156) hE dX7_valueBy_156 ?_
                refine z_iload (pc := 157) hE 4 rfl dX7_valueBy_157 ?_
                refine z_sipush (pc := 159) hE dX7_valueBy_159 q_sipush_2000 ?_
                refine z_isub (pc := 162) hE dX7_valueBy_162 ?_
                refine z_aload_n (pc := 163) hE 1 0 rfl rfl dX7_valueBy_163 ?_
                refine z_getr (pc := 164) hE fk_RX7_18 lX_16 rfl dX7_valueBy_164 ?_
                refine z_iload_n (pc := 167) hE 0 2 rfl rfl dX7_valueBy_167 ?_
                refine z_iconst (pc := 168) hE dX7_valueBy_168 q_iconst_1 ?_
                refine z_isub (pc := 169) hE dX7_valueBy_169 ?_
                refine z_iald (pc := 170) hE lX_19 dX7_valueBy_170 (fun x14 => ?_)
                refine z_aload_n (pc := 171) hE 1 0 rfl rfl dX7_valueBy_171 ?_
                refine z_getr (pc := 172) hE fk_RX7_18 lX_16 rfl dX7_valueBy_172 ?_
                refine z_iload_n (pc := 175) hE 0 2 rfl rfl dX7_valueBy_175 ?_
                refine z_iald (pc := 176) hE lX_19 dX7_valueBy_176 (fun x15 => ?_)
                refine z_callSi (pc := 177) (st := [.int ((v2.1 + (-1 : Int32)) - ((1 : Int32))), .ref (ad 19)]) [.int (x7 - ((2000 : Int32))), .int x14, .int x15] hE kk_RX7_82 (c_X7_joined (x7 - ((2000 : Int32))) x14 x15) rfl rfl (Nat.le_of_ble_eq_true rfl) (by decide) dX7_valueBy_177 (fun x16 => ?_)
                refine z_iast (pc := 180) hE lX_19 dX7_valueBy_180 ?_
                exact z_sub [1, 2, 0, 3] rfl (hj9 (v2.1 + (-1 : Int32)))
            refine z_icmp_ne (pc := 114) hE 142 rfl dX7_valueBy_114 ?_ ?_
            · exact z_sub [0, 1, 2, 3, 4] rfl (hj13 ())
            · refine z_iload_n (pc := 117) hE 2 2 rfl rfl dX7_valueBy_117 ?_
              refine z_iconst (pc := 118) hE dX7_valueBy_118 q_iconst_1 ?_
              refine z_icmp_lt (pc := 119) hE 142 rfl dX7_valueBy_119 ?_ ?_
              · exact z_sub [0, 1, 2, 3, 4] rfl (hj13 ())
              · refine z_aload_n (pc := 122) hE 0 0 rfl rfl dX7_valueBy_122 ?_
                refine z_getr (pc := 123) hE fk_RX7_18 lX_16 rfl dX7_valueBy_123 ?_
                refine z_iload_n (pc := 126) hE 2 2 rfl rfl dX7_valueBy_126 ?_
                refine z_iconst (pc := 127) hE dX7_valueBy_127 q_iconst_1 ?_
                refine z_isub (pc := 128) hE dX7_valueBy_128 ?_
                refine z_aload_n (pc := 129) hE 0 0 rfl rfl dX7_valueBy_129 ?_
                refine z_getr (pc := 130) hE fk_RX7_18 lX_16 rfl dX7_valueBy_130 ?_
                refine z_iload_n (pc := 133) hE 2 2 rfl rfl dX7_valueBy_133 ?_
                refine z_iconst (pc := 134) hE dX7_valueBy_134 q_iconst_1 ?_
                refine z_isub (pc := 135) hE dX7_valueBy_135 ?_
                refine z_iald (pc := 136) hE lX_19 dX7_valueBy_136 (fun x17 => ?_)
                refine z_ineg (pc := 137) hE dX7_valueBy_137 ?_
                refine z_iast (pc := 138) hE lX_19 dX7_valueBy_138 ?_
                refine z_goto (pc := 139) hE 181 rfl dX7_valueBy_139 ?_
                exact z_sub [0, 1, 2, 3] rfl (hj9 v2.1)
          refine z_icmp_ge (pc := 61) hE 109 rfl dX7_valueBy_61 ?_ ?_
          · exact z_sub [1, 2, 3, 4, 0] rfl (hj11 ())
          · refine z_iload_n (pc := 64) hE 3 2 rfl rfl dX7_valueBy_64 ?_
            refine z_aload_n (pc := 65) hE 1 0 rfl rfl dX7_valueBy_65 ?_
            refine z_getr (pc := 66) hE fk_RX7_18 lX_16 rfl dX7_valueBy_66 ?_
            refine z_aleni (v := (40 : Int32)) (pc := 69) hE lX_19 (by decide) dX7_valueBy_69 ?_
            refine z_icmp_ge (pc := 70) hE 109 rfl dX7_valueBy_70 ?_ ?_
            · exact z_sub [1, 2, 3, 4, 0] rfl (hj11 ())
            · refine z_aload_n (pc := 73) hE 1 0 rfl rfl dX7_valueBy_73 ?_
              refine z_getr (pc := 74) hE fk_RX7_18 lX_16 rfl dX7_valueBy_74 ?_
              refine z_iload_n (pc := 77) hE 3 2 rfl rfl dX7_valueBy_77 ?_
              refine z_iload (pc := 78) hE 0 rfl dX7_valueBy_78 ?_
              refine z_sipush (pc := 80) hE dX7_valueBy_80 q_sipush_1000 ?_
              refine z_join (Y := Int32) (pcJ := 102) (Lj := fun y18 => [(0, .ref (ad 16)), (1, .ref (ad r)), (2, .int v2.1), (3, .int v2.2)]) (sj := fun y18 => [.int y18, .int v2.1, .ref (ad 19)]) (fun y18 => ?_) (fun j19 hj19 => ?_)
              · refine z_iast (pc := 102) hE lX_19 dX7_valueBy_102 ?_
                refine z_iinc (L' := [(2, .int (v2.1 + (1 : Int32))), (0, .ref (ad 16)), (1, .ref (ad r)), (3, .int v2.2)]) (pc := 103) hE 2 rfl (zinc q_iconst_1) (by decide) rfl dX7_valueBy_103 ?_
                refine z_goto (pc := 106) hE 181 rfl dX7_valueBy_106 ?_
                exact z_sub [1, 2, 0, 3] rfl (hj9 (v2.1 + (1 : Int32)))
              refine z_icmp_ge (pc := 83) hE 91 rfl dX7_valueBy_83 ?_ ?_
              · refine z_aload_n (pc := 91) hE 2 1 rfl rfl dX7_valueBy_91 ?_
                refine z_iload (pc := 92) hE 0 rfl dX7_valueBy_92 ?_
                refine z_sipush (pc := 94) hE dX7_valueBy_94 q_sipush_1000 ?_
                refine z_isub (pc := 97) hE dX7_valueBy_97 ?_
                refine z_bipush (pc := 98) hE dX7_valueBy_98 q_bipush_8 ?_
                refine z_irem (pc := 100) hE dX7_valueBy_100 ?_
                refine z_iald (pc := 101) hE hr0 dX7_valueBy_101 (fun x20 => ?_)
                exact z_sub [1, 2, 3, 4] rfl (hj19 x20)
              · refine z_iload (pc := 86) hE 0 rfl dX7_valueBy_86 ?_
                refine z_goto (pc := 88) hE 102 rfl dX7_valueBy_88 ?_
                exact z_sub [1, 2, 3, 4] rfl (hj19 x7)
      · refine z_aload_n (pc := 187) hE 0 0 rfl rfl dX7_valueBy_187 ?_
        refine z_getr (pc := 188) hE fk_RX7_18 lX_16 rfl dX7_valueBy_188 ?_
        refine z_iconst (pc := 191) hE dX7_valueBy_191 q_iconst_0 ?_
        refine z_iald (pc := 192) hE lX_19 dX7_valueBy_192 (fun x21 => ?_)
        exact z_ireturn (pc := 193) hE hr dX7_valueBy_193
    · refine z_aload_n (pc := 16) hE 1 1 rfl rfl dX7_valueBy_16 ?_
      refine z_iconst (pc := 17) hE dX7_valueBy_17 q_iconst_0 ?_
      refine z_iald (pc := 18) hE hr0 dX7_valueBy_18 (fun x22 => ?_)
      refine z_aload_n (pc := 19) hE 1 1 rfl rfl dX7_valueBy_19 ?_
      refine z_iconst (pc := 20) hE dX7_valueBy_20 q_iconst_1 ?_
      refine z_iald (pc := 21) hE hr0 dX7_valueBy_21 (fun x23 => ?_)
      refine z_iconst (pc := 22) hE dX7_valueBy_22 q_iconst_5 ?_
      refine z_imul (pc := 23) hE dX7_valueBy_23 ?_
      refine z_isub (pc := 24) hE dX7_valueBy_24 ?_
      refine z_aload_n (pc := 25) hE 1 1 rfl rfl dX7_valueBy_25 ?_
      refine z_iconst (pc := 26) hE dX7_valueBy_26 q_iconst_2 ?_
      refine z_iald (pc := 27) hE hr0 dX7_valueBy_27 (fun x24 => ?_)
      refine z_iconst (pc := 28) hE dX7_valueBy_28 q_iconst_4 ?_
      refine z_imul (pc := 29) hE dX7_valueBy_29 ?_
      refine z_isub (pc := 30) hE dX7_valueBy_30 ?_
      refine z_aload_n (pc := 31) hE 1 1 rfl rfl dX7_valueBy_31 ?_
      refine z_iconst (pc := 32) hE dX7_valueBy_32 q_iconst_5 ?_
      refine z_iald (pc := 33) hE hr0 dX7_valueBy_33 (fun x25 => ?_)
      refine z_isub (pc := 34) hE dX7_valueBy_34 ?_
      exact z_ireturn (pc := 35) hE hr dX7_valueBy_35
  · refine z_iconst (pc := 7) hE dX7_valueBy_7 q_iconst_0 ?_
    exact z_ireturn (pc := 8) hE hr dX7_valueBy_8
set_option maxRecDepth 100000 in
set_option maxHeartbeats 4000000 in
theorem c_X3_liftAs {l : Launch} {ad : Nat → Nat} {ca : FieldType → ClassId} {D : va_G} {tt : Nat → Nat} (b : Nat) (hb : zfk b) (a1 : Int32) (a2 : Int32) (a3 : Int32) (a4 : Int32) : zC l yX3_liftAs cX3_liftAs 5 (some .int) 2 layX ad ca D (xtX ad tt) [.ref (ad b), .int a1, .int a2, .int a3, .int a4] zvi (p_X3_liftAs b a1 a2 a3 a4) := by
  refine z_enter (by decide) (Nat.le_of_ble_eq_true rfl) (fun E hE hl0 hcD hr => ?_)
  have hE : zok layX ad (xtX ad tt) E cX3_liftAs 5 RX3 2 := hE
  show Z layX ad E 5 (zFin layX ad E zvi) 0 [(0, .ref (ad b)), (1, .int a1), (2, .int a2), (3, .int a3), (4, .int a4)] [] (p_X3_liftAs b a1 a2 a3 a4)
  unfold p_X3_liftAs
  refine z_aload_n (pc := 0) hE 0 0 rfl rfl dX3_liftAs_0 ?_
  refine z_iload_n (pc := 1) hE 1 1 rfl rfl dX3_liftAs_1 ?_
  refine z_callVi (pc := 2) (st := []) [.int a1] hE kk_RX3_92 (c_X3_has b hb a1) hb.1 rfl rfl rfl (Nat.le_of_ble_eq_true rfl) (by decide) dX3_liftAs_2 (fun x1 => ?_)
  refine z_if_ne (pc := 5) hE 10 rfl dX3_liftAs_5 ?_ ?_
  · refine z_aload_n (pc := 10) hE 0 0 rfl rfl dX3_liftAs_10 ?_
    refine z_getr (pc := 11) hE fk_RX3_13 hb.1 rfl dX3_liftAs_11 ?_
    refine z_iconst (pc := 14) hE dX3_liftAs_14 q_iconst_0 ?_
    refine z_iload_n (pc := 15) hE 2 2 rfl rfl dX3_liftAs_15 ?_
    refine z_iast (pc := 16) hE hb.2.1 dX3_liftAs_16 ?_
    refine z_aload_n (pc := 17) hE 0 0 rfl rfl dX3_liftAs_17 ?_
    refine z_getr (pc := 18) hE fk_RX3_13 hb.1 rfl dX3_liftAs_18 ?_
    refine z_iconst (pc := 21) hE dX3_liftAs_21 q_iconst_1 ?_
    refine z_iload_n (pc := 22) hE 3 3 rfl rfl dX3_liftAs_22 ?_
    refine z_iast (pc := 23) hE hb.2.1 dX3_liftAs_23 ?_
    refine z_aload_n (pc := 24) hE 0 0 rfl rfl dX3_liftAs_24 ?_
    refine z_getr (pc := 25) hE fk_RX3_13 hb.1 rfl dX3_liftAs_25 ?_
    refine z_iconst (pc := 28) hE dX3_liftAs_28 q_iconst_2 ?_
    refine z_aload_n (pc := 29) hE 0 0 rfl rfl dX3_liftAs_29 ?_
    refine z_getr (pc := 30) hE fk_RX3_26 hb.1 rfl dX3_liftAs_30 ?_
    refine z_iload_n (pc := 33) hE 1 1 rfl rfl dX3_liftAs_33 ?_
    refine z_iald (pc := 34) hE hb.2.2.2.2.2.1 dX3_liftAs_34 (fun x2 => ?_)
    refine z_iast (pc := 35) hE hb.2.1 dX3_liftAs_35 ?_
    refine z_aload_n (pc := 36) hE 0 0 rfl rfl dX3_liftAs_36 ?_
    refine z_getr (pc := 37) hE fk_RX3_13 hb.1 rfl dX3_liftAs_37 ?_
    refine z_iconst (pc := 40) hE dX3_liftAs_40 q_iconst_3 ?_
    refine z_aload_n (pc := 41) hE 0 0 rfl rfl dX3_liftAs_41 ?_
    refine z_getr (pc := 42) hE fk_RX3_32 hb.1 rfl dX3_liftAs_42 ?_
    refine z_iload_n (pc := 45) hE 1 1 rfl rfl dX3_liftAs_45 ?_
    refine z_iald (pc := 46) hE hb.2.2.2.2.2.2.2.1 dX3_liftAs_46 (fun x3 => ?_)
    refine z_iast (pc := 47) hE hb.2.1 dX3_liftAs_47 ?_
    refine z_aload_n (pc := 48) hE 0 0 rfl rfl dX3_liftAs_48 ?_
    refine z_getr (pc := 49) hE fk_RX3_13 hb.1 rfl dX3_liftAs_49 ?_
    refine z_iconst (pc := 52) hE dX3_liftAs_52 q_iconst_4 ?_
    refine z_aload_n (pc := 53) hE 0 0 rfl rfl dX3_liftAs_53 ?_
    refine z_getr (pc := 54) hE fk_RX3_29 hb.1 rfl dX3_liftAs_54 ?_
    refine z_iload_n (pc := 57) hE 1 1 rfl rfl dX3_liftAs_57 ?_
    refine z_iald (pc := 58) hE hb.2.2.2.2.2.2.1 dX3_liftAs_58 (fun x4 => ?_)
    refine z_iast (pc := 59) hE hb.2.1 dX3_liftAs_59 ?_
    refine z_aload_n (pc := 60) hE 0 0 rfl rfl dX3_liftAs_60 ?_
    refine z_getr (pc := 61) hE fk_RX3_13 hb.1 rfl dX3_liftAs_61 ?_
    refine z_iconst (pc := 64) hE dX3_liftAs_64 q_iconst_5 ?_
    refine z_aload_n (pc := 65) hE 0 0 rfl rfl dX3_liftAs_65 ?_
    refine z_geti (pc := 66) hE fk_RX3_99 hb.1 rfl dX3_liftAs_66 (fun x5 => ?_)
    refine z_iast (pc := 69) hE hb.2.1 dX3_liftAs_69 ?_
    refine z_aload_n (pc := 70) hE 0 0 rfl rfl dX3_liftAs_70 ?_
    refine z_getr (pc := 71) hE fk_RX3_13 hb.1 rfl dX3_liftAs_71 ?_
    refine z_bipush (pc := 74) hE dX3_liftAs_74 q_bipush_6 ?_
    refine z_aload_n (pc := 76) hE 0 0 rfl rfl dX3_liftAs_76 ?_
    refine z_geti (pc := 77) hE fk_RX3_63 hb.1 rfl dX3_liftAs_77 (fun x6 => ?_)
    refine z_iload (pc := 80) hE 4 rfl dX3_liftAs_80 ?_
    refine z_iadd (pc := 82) hE dX3_liftAs_82 ?_
    refine z_bipush (pc := 83) hE dX3_liftAs_83 q_bipush_24 ?_
    refine z_irem (pc := 85) hE dX3_liftAs_85 ?_
    refine z_iast (pc := 86) hE hb.2.1 dX3_liftAs_86 ?_
    refine z_aload_n (pc := 87) hE 0 0 rfl rfl dX3_liftAs_87 ?_
    refine z_getr (pc := 88) hE fk_RX3_13 hb.1 rfl dX3_liftAs_88 ?_
    refine z_bipush (pc := 91) hE dX3_liftAs_91 q_bipush_7 ?_
    refine z_iload_n (pc := 93) hE 1 1 rfl rfl dX3_liftAs_93 ?_
    refine z_iast (pc := 94) hE hb.2.1 dX3_liftAs_94 ?_
    refine z_aload_n (pc := 95) hE 0 0 rfl rfl dX3_liftAs_95 ?_
    refine z_getr (pc := 96) hE fk_RX3_55 hb.1 rfl dX3_liftAs_96 ?_
    refine z_aload_n (pc := 99) hE 0 0 rfl rfl dX3_liftAs_99 ?_
    refine z_getr (pc := 100) hE fk_RX3_13 hb.1 rfl dX3_liftAs_100 ?_
    refine z_callVi (pc := 103) (st := []) [.ref (ad (b + 1))] hE kk_RX3_102 (c_X7_valueBy (b + 1) 8 hb.2.1) lX_16 rfl rfl rfl (Nat.le_of_ble_eq_true rfl) (by decide) dX3_liftAs_103 (fun x7 => ?_)
    exact z_ireturn (pc := 106) hE hr dX3_liftAs_106
  · refine z_iconst (pc := 8) hE dX3_liftAs_8 q_iconst_0 ?_
    exact z_ireturn (pc := 9) hE hr dX3_liftAs_9
set_option maxRecDepth 100000 in
set_option maxHeartbeats 4000000 in
theorem c_X3_liftOf {l : Launch} {ad : Nat → Nat} {ca : FieldType → ClassId} {D : va_G} {tt : Nat → Nat} (b : Nat) (hb : zfk b) (a1 : Int32) : zC l yX3_liftOf cX3_liftOf 2 (some .int) 3 layX ad ca D (xtX ad tt) [.ref (ad b), .int a1] zvi (p_X3_liftOf b a1) := by
  refine z_enter (by decide) (Nat.le_of_ble_eq_true rfl) (fun E hE hl0 hcD hr => ?_)
  have hE : zok layX ad (xtX ad tt) E cX3_liftOf 2 RX3 3 := hE
  show Z layX ad E 2 (zFin layX ad E zvi) 0 [(0, .ref (ad b)), (1, .int a1)] [] (p_X3_liftOf b a1)
  unfold p_X3_liftOf
  refine z_aload_n (pc := 0) hE 0 0 rfl rfl dX3_liftOf_0 ?_
  refine z_iload_n (pc := 1) hE 1 1 rfl rfl dX3_liftOf_1 ?_
  refine z_callVi (pc := 2) (st := []) [.int a1] hE kk_RX3_92 (c_X3_has b hb a1) hb.1 rfl rfl rfl (Nat.le_of_ble_eq_true rfl) (by decide) dX3_liftOf_2 (fun x1 => ?_)
  refine z_if_eq (pc := 5) hE 29 rfl dX3_liftOf_5 ?_ ?_
  · refine z_iconst (pc := 29) hE dX3_liftOf_29 q_iconst_0 ?_
    exact z_ireturn (pc := 30) hE hr dX3_liftOf_30
  · refine z_aload_n (pc := 8) hE 0 0 rfl rfl dX3_liftOf_8 ?_
    refine z_iload_n (pc := 9) hE 1 1 rfl rfl dX3_liftOf_9 ?_
    refine z_aload_n (pc := 10) hE 0 0 rfl rfl dX3_liftOf_10 ?_
    refine z_getr (pc := 11) hE fk_RX3_20 hb.1 rfl dX3_liftOf_11 ?_
    refine z_iload_n (pc := 14) hE 1 1 rfl rfl dX3_liftOf_14 ?_
    refine z_iald (pc := 15) hE hb.2.2.2.1 dX3_liftOf_15 (fun x2 => ?_)
    refine z_aload_n (pc := 16) hE 0 0 rfl rfl dX3_liftOf_16 ?_
    refine z_getr (pc := 17) hE fk_RX3_23 hb.1 rfl dX3_liftOf_17 ?_
    refine z_iload_n (pc := 20) hE 1 1 rfl rfl dX3_liftOf_20 ?_
    refine z_iald (pc := 21) hE hb.2.2.2.2.1 dX3_liftOf_21 (fun x3 => ?_)
    refine z_iconst (pc := 22) hE dX3_liftOf_22 q_iconst_0 ?_
    refine z_callVi (pc := 23) (st := []) [.int a1, .int x2, .int x3, .int ((0 : Int32))] hE kk_RX3_95 (c_X3_liftAs b hb a1 x2 x3 ((0 : Int32))) hb.1 rfl rfl rfl (Nat.le_of_ble_eq_true rfl) (by decide) dX3_liftOf_23 (fun x4 => ?_)
    refine z_goto (pc := 26) hE 30 rfl dX3_liftOf_26 ?_
    exact z_ireturn (pc := 30) hE hr dX3_liftOf_30
set_option maxRecDepth 100000 in
set_option maxHeartbeats 4000000 in
theorem c_X3_ringOf {l : Launch} {ad : Nat → Nat} {ca : FieldType → ClassId} {D : va_G} {tt : Nat → Nat} (b : Nat) (hb : zfk b) (a1 : Int32) : zC l yX3_ringOf cX3_ringOf 2 (some .int) 1 layX ad ca D (xtX ad tt) [.ref (ad b), .int a1] zvi (p_X3_ringOf b a1) := by
  refine z_enter (by decide) (Nat.le_of_ble_eq_true rfl) (fun E hE hl0 hcD hr => ?_)
  have hE : zok layX ad (xtX ad tt) E cX3_ringOf 2 RX3 1 := hE
  show Z layX ad E 2 (zFin layX ad E zvi) 0 [(0, .ref (ad b)), (1, .int a1)] [] (p_X3_ringOf b a1)
  unfold p_X3_ringOf
  refine z_aload_n (pc := 0) hE 0 0 rfl rfl dX3_ringOf_0 ?_
  refine z_iload_n (pc := 1) hE 1 1 rfl rfl dX3_ringOf_1 ?_
  refine z_callVi (pc := 2) (st := []) [.int a1] hE kk_RX3_92 (c_X3_has b hb a1) hb.1 rfl rfl rfl (Nat.le_of_ble_eq_true rfl) (by decide) dX3_ringOf_2 (fun x1 => ?_)
  refine z_if_eq (pc := 5) hE 27 rfl dX3_ringOf_5 ?_ ?_
  · refine z_iconst (pc := 27) hE dX3_ringOf_27 q_iconst_m1 ?_
    exact z_ireturn (pc := 28) hE hr dX3_ringOf_28
  · refine z_aload_n (pc := 8) hE 0 0 rfl rfl dX3_ringOf_8 ?_
    refine z_getr (pc := 9) hE fk_RX3_35 hb.1 rfl dX3_ringOf_9 ?_
    refine z_iload_n (pc := 12) hE 1 1 rfl rfl dX3_ringOf_12 ?_
    refine z_iald (pc := 13) hE hb.2.2.2.2.2.2.2.2.1 dX3_ringOf_13 (fun x2 => ?_)
    refine z_iconst (pc := 14) hE dX3_ringOf_14 q_iconst_2 ?_
    refine z_icmp_ne (pc := 15) hE 27 rfl dX3_ringOf_15 ?_ ?_
    · refine z_iconst (pc := 27) hE dX3_ringOf_27 q_iconst_m1 ?_
      exact z_ireturn (pc := 28) hE hr dX3_ringOf_28
    · refine z_aload_n (pc := 18) hE 0 0 rfl rfl dX3_ringOf_18 ?_
      refine z_getr (pc := 19) hE fk_RX3_38 hb.1 rfl dX3_ringOf_19 ?_
      refine z_iload_n (pc := 22) hE 1 1 rfl rfl dX3_ringOf_22 ?_
      refine z_iald (pc := 23) hE hb.2.2.2.2.2.2.2.2.2.1 dX3_ringOf_23 (fun x3 => ?_)
      refine z_goto (pc := 24) hE 28 rfl dX3_ringOf_24 ?_
      exact z_ireturn (pc := 28) hE hr dX3_ringOf_28
set_option maxRecDepth 100000 in
set_option maxHeartbeats 4000000 in
theorem c_X3_cellOf {l : Launch} {ad : Nat → Nat} {ca : FieldType → ClassId} {D : va_G} {tt : Nat → Nat} (b : Nat) (hb : zfk b) (a1 : Int32) : zC l yX3_cellOf cX3_cellOf 2 (some .int) 1 layX ad ca D (xtX ad tt) [.ref (ad b), .int a1] zvi (p_X3_cellOf b a1) := by
  refine z_enter (by decide) (Nat.le_of_ble_eq_true rfl) (fun E hE hl0 hcD hr => ?_)
  have hE : zok layX ad (xtX ad tt) E cX3_cellOf 2 RX3 1 := hE
  show Z layX ad E 2 (zFin layX ad E zvi) 0 [(0, .ref (ad b)), (1, .int a1)] [] (p_X3_cellOf b a1)
  unfold p_X3_cellOf
  refine z_aload_n (pc := 0) hE 0 0 rfl rfl dX3_cellOf_0 ?_
  refine z_iload_n (pc := 1) hE 1 1 rfl rfl dX3_cellOf_1 ?_
  refine z_callVi (pc := 2) (st := []) [.int a1] hE kk_RX3_92 (c_X3_has b hb a1) hb.1 rfl rfl rfl (Nat.le_of_ble_eq_true rfl) (by decide) dX3_cellOf_2 (fun x1 => ?_)
  refine z_if_eq (pc := 5) hE 43 rfl dX3_cellOf_5 ?_ ?_
  · refine z_iconst (pc := 43) hE dX3_cellOf_43 q_iconst_m1 ?_
    exact z_ireturn (pc := 44) hE hr dX3_cellOf_44
  · refine z_aload_n (pc := 8) hE 0 0 rfl rfl dX3_cellOf_8 ?_
    refine z_getr (pc := 9) hE fk_RX3_35 hb.1 rfl dX3_cellOf_9 ?_
    refine z_iload_n (pc := 12) hE 1 1 rfl rfl dX3_cellOf_12 ?_
    refine z_iald (pc := 13) hE hb.2.2.2.2.2.2.2.2.1 dX3_cellOf_13 (fun x2 => ?_)
    refine z_iconst (pc := 14) hE dX3_cellOf_14 q_iconst_1 ?_
    refine z_icmp_ne (pc := 15) hE 43 rfl dX3_cellOf_15 ?_ ?_
    · refine z_iconst (pc := 43) hE dX3_cellOf_43 q_iconst_m1 ?_
      exact z_ireturn (pc := 44) hE hr dX3_cellOf_44
    · refine z_bipush (pc := 18) hE dX3_cellOf_18 q_bipush_19 ?_
      refine z_aload_n (pc := 20) hE 0 0 rfl rfl dX3_cellOf_20 ?_
      refine z_getr (pc := 21) hE fk_RX3_44 hb.1 rfl dX3_cellOf_21 ?_
      refine z_iload_n (pc := 24) hE 1 1 rfl rfl dX3_cellOf_24 ?_
      refine z_iald (pc := 25) hE hb.2.2.2.2.2.2.2.2.2.2.2 dX3_cellOf_25 (fun x3 => ?_)
      refine z_bipush (pc := 26) hE dX3_cellOf_26 q_bipush_9 ?_
      refine z_iadd (pc := 28) hE dX3_cellOf_28 ?_
      refine z_imul (pc := 29) hE dX3_cellOf_29 ?_
      refine z_aload_n (pc := 30) hE 0 0 rfl rfl dX3_cellOf_30 ?_
      refine z_getr (pc := 31) hE fk_RX3_41 hb.1 rfl dX3_cellOf_31 ?_
      refine z_iload_n (pc := 34) hE 1 1 rfl rfl dX3_cellOf_34 ?_
      refine z_iald (pc := 35) hE hb.2.2.2.2.2.2.2.2.2.2.1 dX3_cellOf_35 (fun x4 => ?_)
      refine z_iadd (pc := 36) hE dX3_cellOf_36 ?_
      refine z_bipush (pc := 37) hE dX3_cellOf_37 q_bipush_9 ?_
      refine z_iadd (pc := 39) hE dX3_cellOf_39 ?_
      refine z_goto (pc := 40) hE 44 rfl dX3_cellOf_40 ?_
      exact z_ireturn (pc := 44) hE hr dX3_cellOf_44
set_option maxRecDepth 100000 in
set_option maxHeartbeats 4000000 in
theorem c_X3_farness {l : Launch} {ad : Nat → Nat} {ca : FieldType → ClassId} {D : va_G} {tt : Nat → Nat} (b : Nat) (hb : zfk b) (a1 : Int32) : zC l yX3_farness cX3_farness 2 (some .int) 1 layX ad ca D (xtX ad tt) [.ref (ad b), .int a1] zvi (p_X3_farness b a1) := by
  refine z_enter (by decide) (Nat.le_of_ble_eq_true rfl) (fun E hE hl0 hcD hr => ?_)
  have hE : zok layX ad (xtX ad tt) E cX3_farness 2 RX3 1 := hE
  show Z layX ad E 2 (zFin layX ad E zvi) 0 [(0, .ref (ad b)), (1, .int a1)] [] (p_X3_farness b a1)
  unfold p_X3_farness
  refine z_aload_n (pc := 0) hE 0 0 rfl rfl dX3_farness_0 ?_
  refine z_iload_n (pc := 1) hE 1 1 rfl rfl dX3_farness_1 ?_
  refine z_callVi (pc := 2) (st := []) [.int a1] hE kk_RX3_92 (c_X3_has b hb a1) hb.1 rfl rfl rfl (Nat.le_of_ble_eq_true rfl) (by decide) dX3_farness_2 (fun x1 => ?_)
  refine z_if_eq (pc := 5) hE 30 rfl dX3_farness_5 ?_ ?_
  · refine z_iconst (pc := 30) hE dX3_farness_30 q_iconst_0 ?_
    exact z_ireturn (pc := 31) hE hr dX3_farness_31
  · refine z_aload_n (pc := 8) hE 0 0 rfl rfl dX3_farness_8 ?_
    refine z_getr (pc := 9) hE fk_RX3_41 hb.1 rfl dX3_farness_9 ?_
    refine z_iload_n (pc := 12) hE 1 1 rfl rfl dX3_farness_12 ?_
    refine z_iald (pc := 13) hE hb.2.2.2.2.2.2.2.2.2.2.1 dX3_farness_13 (fun x2 => ?_)
    refine z_abs (pc := 14) hE kk_RX3_106 (Nat.le_of_ble_eq_true rfl) (by decide) dX3_farness_14 ?_
    refine z_aload_n (pc := 17) hE 0 0 rfl rfl dX3_farness_17 ?_
    refine z_getr (pc := 18) hE fk_RX3_44 hb.1 rfl dX3_farness_18 ?_
    refine z_iload_n (pc := 21) hE 1 1 rfl rfl dX3_farness_21 ?_
    refine z_iald (pc := 22) hE hb.2.2.2.2.2.2.2.2.2.2.2 dX3_farness_22 (fun x3 => ?_)
    refine z_abs (pc := 23) hE kk_RX3_106 (Nat.le_of_ble_eq_true rfl) (by decide) dX3_farness_23 ?_
    refine z_iadd (pc := 26) hE dX3_farness_26 ?_
    refine z_goto (pc := 27) hE 31 rfl dX3_farness_27 ?_
    exact z_ireturn (pc := 31) hE hr dX3_farness_31
set_option maxRecDepth 100000 in
set_option maxHeartbeats 4000000 in
theorem c_X3_isUp {l : Launch} {ad : Nat → Nat} {ca : FieldType → ClassId} {D : va_G} {tt : Nat → Nat} (b : Nat) (hb : zfk b) (a1 : Int32) : zC l yX3_isUp cX3_isUp 2 (some .boolean) 1 layX ad ca D (xtX ad tt) [.ref (ad b), .int a1] zvi (p_X3_isUp b a1) := by
  refine z_enter (by decide) (Nat.le_of_ble_eq_true rfl) (fun E hE hl0 hcD hr => ?_)
  have hE : zok layX ad (xtX ad tt) E cX3_isUp 2 RX3 1 := hE
  show Z layX ad E 2 (zFin layX ad E zvi) 0 [(0, .ref (ad b)), (1, .int a1)] [] (p_X3_isUp b a1)
  unfold p_X3_isUp
  refine z_aload_n (pc := 0) hE 0 0 rfl rfl dX3_isUp_0 ?_
  refine z_iload_n (pc := 1) hE 1 1 rfl rfl dX3_isUp_1 ?_
  refine z_callVi (pc := 2) (st := []) [.int a1] hE kk_RX3_92 (c_X3_has b hb a1) hb.1 rfl rfl rfl (Nat.le_of_ble_eq_true rfl) (by decide) dX3_isUp_2 (fun x1 => ?_)
  refine z_if_eq (pc := 5) hE 32 rfl dX3_isUp_5 ?_ ?_
  · refine z_iconst (pc := 32) hE dX3_isUp_32 q_iconst_0 ?_
    exact z_zreturn (pc := 33) hE hr dX3_isUp_33
  · refine z_aload_n (pc := 8) hE 0 0 rfl rfl dX3_isUp_8 ?_
    refine z_getr (pc := 9) hE fk_RX3_35 hb.1 rfl dX3_isUp_9 ?_
    refine z_iload_n (pc := 12) hE 1 1 rfl rfl dX3_isUp_12 ?_
    refine z_iald (pc := 13) hE hb.2.2.2.2.2.2.2.2.1 dX3_isUp_13 (fun x2 => ?_)
    refine z_iconst (pc := 14) hE dX3_isUp_14 q_iconst_1 ?_
    refine z_join (Y := Unit) (pcJ := 28) (Lj := fun y3 => []) (sj := fun y3 => []) (fun y3 => ?_) (fun j4 hj4 => ?_)
    · refine z_iconst (pc := 28) hE dX3_isUp_28 q_iconst_1 ?_
      refine z_goto (pc := 29) hE 33 rfl dX3_isUp_29 ?_
      exact z_zreturn (pc := 33) hE hr dX3_isUp_33
    refine z_icmp_eq (pc := 15) hE 28 rfl dX3_isUp_15 ?_ ?_
    · exact z_sub [] rfl (hj4 ())
    · refine z_aload_n (pc := 18) hE 0 0 rfl rfl dX3_isUp_18 ?_
      refine z_getr (pc := 19) hE fk_RX3_35 hb.1 rfl dX3_isUp_19 ?_
      refine z_iload_n (pc := 22) hE 1 1 rfl rfl dX3_isUp_22 ?_
      refine z_iald (pc := 23) hE hb.2.2.2.2.2.2.2.2.1 dX3_isUp_23 (fun x5 => ?_)
      refine z_iconst (pc := 24) hE dX3_isUp_24 q_iconst_2 ?_
      refine z_icmp_ne (pc := 25) hE 32 rfl dX3_isUp_25 ?_ ?_
      · refine z_iconst (pc := 32) hE dX3_isUp_32 q_iconst_0 ?_
        exact z_zreturn (pc := 33) hE hr dX3_isUp_33
      · exact z_sub [] rfl (hj4 ())
set_option maxRecDepth 100000 in
set_option maxHeartbeats 4000000 in
theorem c_X3_isAtHand {l : Launch} {ad : Nat → Nat} {ca : FieldType → ClassId} {D : va_G} {tt : Nat → Nat} (b : Nat) (hb : zfk b) (a1 : Int32) : zC l yX3_isAtHand cX3_isAtHand 2 (some .boolean) 1 layX ad ca D (xtX ad tt) [.ref (ad b), .int a1] zvi (p_X3_isAtHand b a1) := by
  refine z_enter (by decide) (Nat.le_of_ble_eq_true rfl) (fun E hE hl0 hcD hr => ?_)
  have hE : zok layX ad (xtX ad tt) E cX3_isAtHand 2 RX3 1 := hE
  show Z layX ad E 2 (zFin layX ad E zvi) 0 [(0, .ref (ad b)), (1, .int a1)] [] (p_X3_isAtHand b a1)
  unfold p_X3_isAtHand
  refine z_aload_n (pc := 0) hE 0 0 rfl rfl dX3_isAtHand_0 ?_
  refine z_iload_n (pc := 1) hE 1 1 rfl rfl dX3_isAtHand_1 ?_
  refine z_callVi (pc := 2) (st := []) [.int a1] hE kk_RX3_92 (c_X3_has b hb a1) hb.1 rfl rfl rfl (Nat.le_of_ble_eq_true rfl) (by decide) dX3_isAtHand_2 (fun x1 => ?_)
  refine z_if_eq (pc := 5) hE 31 rfl dX3_isAtHand_5 ?_ ?_
  · refine z_iconst (pc := 31) hE dX3_isAtHand_31 q_iconst_0 ?_
    exact z_zreturn (pc := 32) hE hr dX3_isAtHand_32
  · refine z_aload_n (pc := 8) hE 0 0 rfl rfl dX3_isAtHand_8 ?_
    refine z_getr (pc := 9) hE fk_RX3_35 hb.1 rfl dX3_isAtHand_9 ?_
    refine z_iload_n (pc := 12) hE 1 1 rfl rfl dX3_isAtHand_12 ?_
    refine z_iald (pc := 13) hE hb.2.2.2.2.2.2.2.2.1 dX3_isAtHand_13 (fun x2 => ?_)
    refine z_join (Y := Unit) (pcJ := 27) (Lj := fun y3 => []) (sj := fun y3 => []) (fun y3 => ?_) (fun j4 hj4 => ?_)
    · refine z_iconst (pc := 27) hE dX3_isAtHand_27 q_iconst_1 ?_
      refine z_goto (pc := 28) hE 32 rfl dX3_isAtHand_28 ?_
      exact z_zreturn (pc := 32) hE hr dX3_isAtHand_32
    refine z_if_eq (pc := 14) hE 27 rfl dX3_isAtHand_14 ?_ ?_
    · exact z_sub [] rfl (hj4 ())
    · refine z_aload_n (pc := 17) hE 0 0 rfl rfl dX3_isAtHand_17 ?_
      refine z_getr (pc := 18) hE fk_RX3_35 hb.1 rfl dX3_isAtHand_18 ?_
      refine z_iload_n (pc := 21) hE 1 1 rfl rfl dX3_isAtHand_21 ?_
      refine z_iald (pc := 22) hE hb.2.2.2.2.2.2.2.2.1 dX3_isAtHand_22 (fun x5 => ?_)
      refine z_iconst (pc := 23) hE dX3_isAtHand_23 q_iconst_2 ?_
      refine z_icmp_ne (pc := 24) hE 31 rfl dX3_isAtHand_24 ?_ ?_
      · refine z_iconst (pc := 31) hE dX3_isAtHand_31 q_iconst_0 ?_
        exact z_zreturn (pc := 32) hE hr dX3_isAtHand_32
      · exact z_sub [] rfl (hj4 ())
set_option maxRecDepth 100000 in
set_option maxHeartbeats 4000000 in
theorem c_X3_guestAt {l : Launch} {ad : Nat → Nat} {ca : FieldType → ClassId} {D : va_G} {tt : Nat → Nat} (b : Nat) (hb : zfk b) (a1 : Int32) : zC l yX3_guestAt cX3_guestAt 3 (some .int) 0 layX ad ca D (xtX ad tt) [.ref (ad b), .int a1] zvi (p_X3_guestAt b a1) := by
  refine z_enter (by decide) (Nat.le_of_ble_eq_true rfl) (fun E hE hl0 hcD hr => ?_)
  have hE : zok layX ad (xtX ad tt) E cX3_guestAt 3 RX3 0 := hE
  show Z layX ad E 3 (zFin layX ad E zvi) 0 [(0, .ref (ad b)), (1, .int a1)] [] (p_X3_guestAt b a1)
  unfold p_X3_guestAt
  refine z_iconst (pc := 0) hE dX3_guestAt_0 q_iconst_0 ?_
  refine z_istore_n (L' := [(2, .int ((0 : Int32))), (0, .ref (ad b)), (1, .int a1)]) (pc := 1) hE 2 rfl (by decide) rfl dX3_guestAt_1 ?_
  refine z_sub (L' := [(0, .ref (ad b)), (1, .int a1), (2, .int ((0 : Int32)))]) [1, 2, 0] rfl ?_
  refine z_loop (V := Int32) (X := Unit) (hd := 2) (ex := 38) (Lh := fun v1 => [(0, .ref (ad b)), (1, .int a1), (2, .int v1)]) (Lx := fun e4 => []) (fun rc3 k2 hrc3 hk2 v1 => ?_) zNF ((0 : Int32)) _ (fun e4 => ?_)
  · unfold p_X3_guestAt_b2
    refine z_iload_n (pc := 2) hE 2 2 rfl rfl dX3_guestAt_2 ?_
    refine z_aload_n (pc := 3) hE 0 0 rfl rfl dX3_guestAt_3 ?_
    refine z_geti (pc := 4) hE fk_RX3_59 hb.1 rfl dX3_guestAt_4 (fun x5 => ?_)
    refine z_icmp_ge (pc := 7) hE 38 rfl dX3_guestAt_7 ?_ ?_
    · exact z_sub [] rfl (hk2 ())
    · refine z_aload_n (pc := 10) hE 0 0 rfl rfl dX3_guestAt_10 ?_
      refine z_getr (pc := 11) hE fk_RX3_35 hb.1 rfl dX3_guestAt_11 ?_
      refine z_iload_n (pc := 14) hE 2 2 rfl rfl dX3_guestAt_14 ?_
      refine z_iald (pc := 15) hE hb.2.2.2.2.2.2.2.2.1 dX3_guestAt_15 (fun x6 => ?_)
      refine z_iconst (pc := 16) hE dX3_guestAt_16 q_iconst_2 ?_
      refine z_join (Y := Unit) (pcJ := 32) (Lj := fun y7 => [(0, .ref (ad b)), (1, .int a1), (2, .int v1)]) (sj := fun y7 => []) (fun y7 => ?_) (fun j8 hj8 => ?_)
      · refine z_iinc (L' := [(2, .int (v1 + (1 : Int32))), (0, .ref (ad b)), (1, .int a1)]) (pc := 32) hE 2 rfl (zinc q_iconst_1) (by decide) rfl dX3_guestAt_32 ?_
        refine z_goto (pc := 35) hE 2 rfl dX3_guestAt_35 ?_
        exact z_sub [1, 2, 0] rfl (hrc3 (v1 + (1 : Int32)))
      refine z_icmp_ne (pc := 17) hE 32 rfl dX3_guestAt_17 ?_ ?_
      · exact z_sub [0, 1, 2] rfl (hj8 ())
      · refine z_aload_n (pc := 20) hE 0 0 rfl rfl dX3_guestAt_20 ?_
        refine z_getr (pc := 21) hE fk_RX3_38 hb.1 rfl dX3_guestAt_21 ?_
        refine z_iload_n (pc := 24) hE 2 2 rfl rfl dX3_guestAt_24 ?_
        refine z_iald (pc := 25) hE hb.2.2.2.2.2.2.2.2.2.1 dX3_guestAt_25 (fun x9 => ?_)
        refine z_iload_n (pc := 26) hE 1 1 rfl rfl dX3_guestAt_26 ?_
        refine z_icmp_ne (pc := 27) hE 32 rfl dX3_guestAt_27 ?_ ?_
        · exact z_sub [0, 1, 2] rfl (hj8 ())
        · refine z_iload_n (pc := 30) hE 2 2 rfl rfl dX3_guestAt_30 ?_
          exact z_ireturn (pc := 31) hE hr dX3_guestAt_31
  · refine z_iconst (pc := 38) hE dX3_guestAt_38 q_iconst_m1 ?_
    exact z_ireturn (pc := 39) hE hr dX3_guestAt_39
set_option maxRecDepth 100000 in
set_option maxHeartbeats 4000000 in
theorem c_X3_those {l : Launch} {ad : Nat → Nat} {ca : FieldType → ClassId} {D : va_G} {tt : Nat → Nat} (b : Nat) (hb : zfk b) (a1 : Int32) : zC l yX3_those cX3_those 4 (some .int) 0 layX ad ca D (xtX ad tt) [.ref (ad b), .int a1] zvi (p_X3_those b a1) := by
  refine z_enter (by decide) (Nat.le_of_ble_eq_true rfl) (fun E hE hl0 hcD hr => ?_)
  have hE : zok layX ad (xtX ad tt) E cX3_those 4 RX3 0 := hE
  show Z layX ad E 4 (zFin layX ad E zvi) 0 [(0, .ref (ad b)), (1, .int a1)] [] (p_X3_those b a1)
  unfold p_X3_those
  refine z_iconst (pc := 0) hE dX3_those_0 q_iconst_0 ?_
  refine z_istore_n (L' := [(2, .int ((0 : Int32))), (0, .ref (ad b)), (1, .int a1)]) (pc := 1) hE 2 rfl (by decide) rfl dX3_those_1 ?_
  refine z_iconst (pc := 2) hE dX3_those_2 q_iconst_0 ?_
  refine z_istore_n (L' := [(3, .int ((0 : Int32))), (2, .int ((0 : Int32))), (0, .ref (ad b)), (1, .int a1)]) (pc := 3) hE 3 rfl (by decide) rfl dX3_those_3 ?_
  refine z_sub (L' := [(0, .ref (ad b)), (1, .int a1), (2, .int ((0 : Int32))), (3, .int ((0 : Int32)))]) [2, 3, 1, 0] rfl ?_
  refine z_loop (V := (Int32 × Int32)) (X := Int32) (hd := 4) (ex := 38) (Lh := fun v1 => [(0, .ref (ad b)), (1, .int a1), (2, .int v1.1), (3, .int v1.2)]) (Lx := fun e4 => [(2, .int e4)]) (fun rc3 k2 hrc3 hk2 v1 => ?_) zNF ((0 : Int32), (0 : Int32)) _ (fun e4 => ?_)
  · unfold p_X3_those_b4
    refine z_iload_n (pc := 4) hE 3 3 rfl rfl dX3_those_4 ?_
    refine z_aload_n (pc := 5) hE 0 0 rfl rfl dX3_those_5 ?_
    refine z_geti (pc := 6) hE fk_RX3_59 hb.1 rfl dX3_those_6 (fun x5 => ?_)
    refine z_icmp_ge (pc := 9) hE 38 rfl dX3_those_9 ?_ ?_
    · exact z_sub [2] rfl (hk2 v1.1)
    · refine z_iload_n (pc := 12) hE 2 2 rfl rfl dX3_those_12 ?_
      refine z_aload_n (pc := 13) hE 0 0 rfl rfl dX3_those_13 ?_
      refine z_getr (pc := 14) hE fk_RX3_35 hb.1 rfl dX3_those_14 ?_
      refine z_iload_n (pc := 17) hE 3 3 rfl rfl dX3_those_17 ?_
      refine z_iald (pc := 18) hE hb.2.2.2.2.2.2.2.2.1 dX3_those_18 (fun x6 => ?_)
      refine z_iload_n (pc := 19) hE 1 1 rfl rfl dX3_those_19 ?_
      refine z_join (Y := Int32) (pcJ := 30) (Lj := fun y7 => [(0, .ref (ad b)), (1, .int a1), (3, .int v1.2)]) (sj := fun y7 => [.int y7, .int v1.1]) (fun y7 => ?_) (fun j8 hj8 => ?_)
      · refine z_ior (pc := 30) hE dX3_those_30 ?_
        refine z_istore_n (L' := [(2, .int (v1.1 ||| y7)), (0, .ref (ad b)), (1, .int a1), (3, .int v1.2)]) (pc := 31) hE 2 rfl (by decide) rfl dX3_those_31 ?_
        refine z_iinc (L' := [(3, .int (v1.2 + (1 : Int32))), (2, .int (v1.1 ||| y7)), (0, .ref (ad b)), (1, .int a1)]) (pc := 32) hE 3 rfl (zinc q_iconst_1) (by decide) rfl dX3_those_32 ?_
        refine z_goto (pc := 35) hE 4 rfl dX3_those_35 ?_
        exact z_sub [2, 3, 1, 0] rfl (hrc3 (v1.1 ||| y7, v1.2 + (1 : Int32)))
      refine z_icmp_ne (pc := 20) hE 29 rfl dX3_those_20 ?_ ?_
      · refine z_iconst (pc := 29) hE dX3_those_29 q_iconst_0 ?_
        exact z_sub [0, 1, 3] rfl (hj8 ((0 : Int32)))
      · refine z_iconst (pc := 23) hE dX3_those_23 q_iconst_1 ?_
        refine z_iload_n (pc := 24) hE 3 3 rfl rfl dX3_those_24 ?_
        refine z_ishl (pc := 25) hE dX3_those_25 ?_
        refine z_goto (pc := 26) hE 30 rfl dX3_those_26 ?_
        exact z_sub [0, 1, 3] rfl (hj8 (((1 : Int32)) <<< (v1.2 &&& 31)))
  · refine z_iload_n (pc := 38) hE 0 2 rfl rfl dX3_those_38 ?_
    exact z_ireturn (pc := 39) hE hr dX3_those_39
set_option maxRecDepth 100000 in
set_option maxHeartbeats 4000000 in
theorem c_X3_areMoored {l : Launch} {ad : Nat → Nat} {ca : FieldType → ClassId} {D : va_G} {tt : Nat → Nat} (b : Nat) (hb : zfk b) (a1 : Int32) (a2 : Int32) : zC l yX3_areMoored cX3_areMoored 3 (some .boolean) 1 layX ad ca D (xtX ad tt) [.ref (ad b), .int a1, .int a2] zvi (p_X3_areMoored b a1 a2) := by
  refine z_enter (by decide) (Nat.le_of_ble_eq_true rfl) (fun E hE hl0 hcD hr => ?_)
  have hE : zok layX ad (xtX ad tt) E cX3_areMoored 3 RX3 1 := hE
  show Z layX ad E 3 (zFin layX ad E zvi) 0 [(0, .ref (ad b)), (1, .int a1), (2, .int a2)] [] (p_X3_areMoored b a1 a2)
  unfold p_X3_areMoored
  refine z_aload_n (pc := 0) hE 0 0 rfl rfl dX3_areMoored_0 ?_
  refine z_iload_n (pc := 1) hE 1 1 rfl rfl dX3_areMoored_1 ?_
  refine z_callVi (pc := 2) (st := []) [.int a1] hE kk_RX3_92 (c_X3_has b hb a1) hb.1 rfl rfl rfl (Nat.le_of_ble_eq_true rfl) (by decide) dX3_areMoored_2 (fun x1 => ?_)
  refine z_if_eq (pc := 5) hE 40 rfl dX3_areMoored_5 ?_ ?_
  · refine z_iconst (pc := 40) hE dX3_areMoored_40 q_iconst_0 ?_
    exact z_zreturn (pc := 41) hE hr dX3_areMoored_41
  · refine z_aload_n (pc := 8) hE 0 0 rfl rfl dX3_areMoored_8 ?_
    refine z_iload_n (pc := 9) hE 2 2 rfl rfl dX3_areMoored_9 ?_
    refine z_callVi (pc := 10) (st := []) [.int a2] hE kk_RX3_92 (c_X3_has b hb a2) hb.1 rfl rfl rfl (Nat.le_of_ble_eq_true rfl) (by decide) dX3_areMoored_10 (fun x2 => ?_)
    refine z_if_eq (pc := 13) hE 40 rfl dX3_areMoored_13 ?_ ?_
    · refine z_iconst (pc := 40) hE dX3_areMoored_40 q_iconst_0 ?_
      exact z_zreturn (pc := 41) hE hr dX3_areMoored_41
    · refine z_aload_n (pc := 16) hE 0 0 rfl rfl dX3_areMoored_16 ?_
      refine z_getr (pc := 17) hE fk_RX3_35 hb.1 rfl dX3_areMoored_17 ?_
      refine z_iload_n (pc := 20) hE 1 1 rfl rfl dX3_areMoored_20 ?_
      refine z_iald (pc := 21) hE hb.2.2.2.2.2.2.2.2.1 dX3_areMoored_21 (fun x3 => ?_)
      refine z_iconst (pc := 22) hE dX3_areMoored_22 q_iconst_2 ?_
      refine z_icmp_ne (pc := 23) hE 40 rfl dX3_areMoored_23 ?_ ?_
      · refine z_iconst (pc := 40) hE dX3_areMoored_40 q_iconst_0 ?_
        exact z_zreturn (pc := 41) hE hr dX3_areMoored_41
      · refine z_aload_n (pc := 26) hE 0 0 rfl rfl dX3_areMoored_26 ?_
        refine z_getr (pc := 27) hE fk_RX3_35 hb.1 rfl dX3_areMoored_27 ?_
        refine z_iload_n (pc := 30) hE 2 2 rfl rfl dX3_areMoored_30 ?_
        refine z_iald (pc := 31) hE hb.2.2.2.2.2.2.2.2.1 dX3_areMoored_31 (fun x4 => ?_)
        refine z_iconst (pc := 32) hE dX3_areMoored_32 q_iconst_2 ?_
        refine z_icmp_ne (pc := 33) hE 40 rfl dX3_areMoored_33 ?_ ?_
        · refine z_iconst (pc := 40) hE dX3_areMoored_40 q_iconst_0 ?_
          exact z_zreturn (pc := 41) hE hr dX3_areMoored_41
        · refine z_iconst (pc := 36) hE dX3_areMoored_36 q_iconst_1 ?_
          refine z_goto (pc := 37) hE 41 rfl dX3_areMoored_37 ?_
          exact z_zreturn (pc := 41) hE hr dX3_areMoored_41
set_option maxRecDepth 100000 in
set_option maxHeartbeats 4000000 in
theorem c_X9_areNear {l : Launch} {ad : Nat → Nat} {ca : FieldType → ClassId} {D : va_G} {tt : Nat → Nat} (a1 : Int32) (a2 : Int32) : zC l yX9_areNear cX9_areNear 3 (some .boolean) 1 layX ad ca D (xtX ad tt) [.ref (ad 3), .int a1, .int a2] zvi (p_X9_areNear a1 a2) := by
  refine z_enter (by decide) (Nat.le_of_ble_eq_true rfl) (fun E hE hl0 hcD hr => ?_)
  have hE : zok layX ad (xtX ad tt) E cX9_areNear 3 RX9 1 := hE
  show Z layX ad E 3 (zFin layX ad E zvi) 0 [(0, .ref (ad 3)), (1, .int a1), (2, .int a2)] [] (p_X9_areNear a1 a2)
  unfold p_X9_areNear
  refine z_aload_n (pc := 0) hE 0 0 rfl rfl dX9_areNear_0 ?_
  refine z_iload_n (pc := 1) hE 1 1 rfl rfl dX9_areNear_1 ?_
  refine z_callVi (pc := 2) (st := []) [.int a1] hE kk_RX9_55 (c_X9_has a1) lX_3 rfl rfl rfl (Nat.le_of_ble_eq_true rfl) (by decide) dX9_areNear_2 (fun x1 => ?_)
  refine z_if_eq (pc := 5) hE 34 rfl dX9_areNear_5 ?_ ?_
  · refine z_iconst (pc := 34) hE dX9_areNear_34 q_iconst_0 ?_
    exact z_zreturn (pc := 35) hE hr dX9_areNear_35
  · refine z_aload_n (pc := 8) hE 0 0 rfl rfl dX9_areNear_8 ?_
    refine z_iload_n (pc := 9) hE 2 2 rfl rfl dX9_areNear_9 ?_
    refine z_callVi (pc := 10) (st := []) [.int a2] hE kk_RX9_55 (c_X9_has a2) lX_3 rfl rfl rfl (Nat.le_of_ble_eq_true rfl) (by decide) dX9_areNear_10 (fun x2 => ?_)
    refine z_if_eq (pc := 13) hE 34 rfl dX9_areNear_13 ?_ ?_
    · refine z_iconst (pc := 34) hE dX9_areNear_34 q_iconst_0 ?_
      exact z_zreturn (pc := 35) hE hr dX9_areNear_35
    · refine z_aload_n (pc := 16) hE 0 0 rfl rfl dX9_areNear_16 ?_
      refine z_getr (pc := 17) hE fk_RX9_21 lX_3 rfl dX9_areNear_17 ?_
      refine z_iload_n (pc := 20) hE 1 1 rfl rfl dX9_areNear_20 ?_
      refine z_iald (pc := 21) hE lX_7 dX9_areNear_21 (fun x3 => ?_)
      refine z_iload_n (pc := 22) hE 2 2 rfl rfl dX9_areNear_22 ?_
      refine z_ishr (pc := 23) hE dX9_areNear_23 ?_
      refine z_iconst (pc := 24) hE dX9_areNear_24 q_iconst_1 ?_
      refine z_iand (pc := 25) hE dX9_areNear_25 ?_
      refine z_iconst (pc := 26) hE dX9_areNear_26 q_iconst_1 ?_
      refine z_icmp_ne (pc := 27) hE 34 rfl dX9_areNear_27 ?_ ?_
      · refine z_iconst (pc := 34) hE dX9_areNear_34 q_iconst_0 ?_
        exact z_zreturn (pc := 35) hE hr dX9_areNear_35
      · refine z_iconst (pc := 30) hE dX9_areNear_30 q_iconst_1 ?_
        refine z_goto (pc := 31) hE 35 rfl dX9_areNear_31 ?_
        exact z_zreturn (pc := 35) hE hr dX9_areNear_35
set_option maxRecDepth 100000 in
set_option maxHeartbeats 4000000 in
theorem c_X3_doTouch {l : Launch} {ad : Nat → Nat} {ca : FieldType → ClassId} {D : va_G} {tt : Nat → Nat} (b : Nat) (hb : zfk b) (a1 : Int32) (a2 : Int32) : zC l yX3_doTouch cX3_doTouch 3 (some .boolean) 2 layX ad ca D (xtX ad tt) [.ref (ad b), .int a1, .int a2] zvi (p_X3_doTouch b a1 a2) := by
  refine z_enter (by decide) (Nat.le_of_ble_eq_true rfl) (fun E hE hl0 hcD hr => ?_)
  have hE : zok layX ad (xtX ad tt) E cX3_doTouch 3 RX3 2 := hE
  show Z layX ad E 3 (zFin layX ad E zvi) 0 [(0, .ref (ad b)), (1, .int a1), (2, .int a2)] [] (p_X3_doTouch b a1 a2)
  unfold p_X3_doTouch
  refine z_iload_n (pc := 0) hE 1 1 rfl rfl dX3_doTouch_0 ?_
  refine z_iload_n (pc := 1) hE 2 2 rfl rfl dX3_doTouch_1 ?_
  refine z_icmp_eq (pc := 2) hE 40 rfl dX3_doTouch_2 ?_ ?_
  · refine z_iconst (pc := 40) hE dX3_doTouch_40 q_iconst_0 ?_
    exact z_zreturn (pc := 41) hE hr dX3_doTouch_41
  · refine z_aload_n (pc := 5) hE 0 0 rfl rfl dX3_doTouch_5 ?_
    refine z_iload_n (pc := 6) hE 1 1 rfl rfl dX3_doTouch_6 ?_
    refine z_iload_n (pc := 7) hE 2 2 rfl rfl dX3_doTouch_7 ?_
    refine z_callVi (pc := 8) (st := []) [.int a1, .int a2] hE kk_RX3_112 (c_X3_areMoored b hb a1 a2) hb.1 rfl rfl rfl (Nat.le_of_ble_eq_true rfl) (by decide) dX3_doTouch_8 (fun x1 => ?_)
    refine z_if_eq (pc := 11) hE 40 rfl dX3_doTouch_11 ?_ ?_
    · refine z_iconst (pc := 40) hE dX3_doTouch_40 q_iconst_0 ?_
      exact z_zreturn (pc := 41) hE hr dX3_doTouch_41
    · refine z_aload_n (pc := 14) hE 0 0 rfl rfl dX3_doTouch_14 ?_
      refine z_getr (pc := 15) hE fk_RX3_47 hb.1 rfl dX3_doTouch_15 ?_
      refine z_aload_n (pc := 18) hE 0 0 rfl rfl dX3_doTouch_18 ?_
      refine z_getr (pc := 19) hE fk_RX3_38 hb.1 rfl dX3_doTouch_19 ?_
      refine z_iload_n (pc := 22) hE 1 1 rfl rfl dX3_doTouch_22 ?_
      refine z_iald (pc := 23) hE hb.2.2.2.2.2.2.2.2.2.1 dX3_doTouch_23 (fun x2 => ?_)
      refine z_aload_n (pc := 24) hE 0 0 rfl rfl dX3_doTouch_24 ?_
      refine z_getr (pc := 25) hE fk_RX3_38 hb.1 rfl dX3_doTouch_25 ?_
      refine z_iload_n (pc := 28) hE 2 2 rfl rfl dX3_doTouch_28 ?_
      refine z_iald (pc := 29) hE hb.2.2.2.2.2.2.2.2.2.1 dX3_doTouch_29 (fun x3 => ?_)
      refine z_callVi (pc := 30) (st := []) [.int x2, .int x3] hE kk_RX3_116 (c_X9_areNear x2 x3) lX_3 rfl rfl rfl (Nat.le_of_ble_eq_true rfl) (by decide) dX3_doTouch_30 (fun x4 => ?_)
      refine z_if_eq (pc := 33) hE 40 rfl dX3_doTouch_33 ?_ ?_
      · refine z_iconst (pc := 40) hE dX3_doTouch_40 q_iconst_0 ?_
        exact z_zreturn (pc := 41) hE hr dX3_doTouch_41
      · refine z_iconst (pc := 36) hE dX3_doTouch_36 q_iconst_1 ?_
        refine z_goto (pc := 37) hE 41 rfl dX3_doTouch_37 ?_
        exact z_zreturn (pc := 41) hE hr dX3_doTouch_41
set_option maxRecDepth 100000 in
set_option maxHeartbeats 4000000 in
theorem c_X9_isLower {l : Launch} {ad : Nat → Nat} {ca : FieldType → ClassId} {D : va_G} {tt : Nat → Nat} (a1 : Int32) (a2 : Int32) : zC l yX9_isLower cX9_isLower 3 (some .boolean) 1 layX ad ca D (xtX ad tt) [.ref (ad 3), .int a1, .int a2] zvi (p_X9_isLower a1 a2) := by
  refine z_enter (by decide) (Nat.le_of_ble_eq_true rfl) (fun E hE hl0 hcD hr => ?_)
  have hE : zok layX ad (xtX ad tt) E cX9_isLower 3 RX9 1 := hE
  show Z layX ad E 3 (zFin layX ad E zvi) 0 [(0, .ref (ad 3)), (1, .int a1), (2, .int a2)] [] (p_X9_isLower a1 a2)
  unfold p_X9_isLower
  refine z_aload_n (pc := 0) hE 0 0 rfl rfl dX9_isLower_0 ?_
  refine z_iload_n (pc := 1) hE 1 1 rfl rfl dX9_isLower_1 ?_
  refine z_callVi (pc := 2) (st := []) [.int a1] hE kk_RX9_55 (c_X9_has a1) lX_3 rfl rfl rfl (Nat.le_of_ble_eq_true rfl) (by decide) dX9_isLower_2 (fun x1 => ?_)
  refine z_if_eq (pc := 5) hE 34 rfl dX9_isLower_5 ?_ ?_
  · refine z_iconst (pc := 34) hE dX9_isLower_34 q_iconst_0 ?_
    exact z_zreturn (pc := 35) hE hr dX9_isLower_35
  · refine z_aload_n (pc := 8) hE 0 0 rfl rfl dX9_isLower_8 ?_
    refine z_iload_n (pc := 9) hE 2 2 rfl rfl dX9_isLower_9 ?_
    refine z_callVi (pc := 10) (st := []) [.int a2] hE kk_RX9_55 (c_X9_has a2) lX_3 rfl rfl rfl (Nat.le_of_ble_eq_true rfl) (by decide) dX9_isLower_10 (fun x2 => ?_)
    refine z_if_eq (pc := 13) hE 34 rfl dX9_isLower_13 ?_ ?_
    · refine z_iconst (pc := 34) hE dX9_isLower_34 q_iconst_0 ?_
      exact z_zreturn (pc := 35) hE hr dX9_isLower_35
    · refine z_aload_n (pc := 16) hE 0 0 rfl rfl dX9_isLower_16 ?_
      refine z_getr (pc := 17) hE fk_RX9_24 lX_3 rfl dX9_isLower_17 ?_
      refine z_iload_n (pc := 20) hE 1 1 rfl rfl dX9_isLower_20 ?_
      refine z_iald (pc := 21) hE lX_8 dX9_isLower_21 (fun x3 => ?_)
      refine z_iload_n (pc := 22) hE 2 2 rfl rfl dX9_isLower_22 ?_
      refine z_ishr (pc := 23) hE dX9_isLower_23 ?_
      refine z_iconst (pc := 24) hE dX9_isLower_24 q_iconst_1 ?_
      refine z_iand (pc := 25) hE dX9_isLower_25 ?_
      refine z_iconst (pc := 26) hE dX9_isLower_26 q_iconst_1 ?_
      refine z_icmp_ne (pc := 27) hE 34 rfl dX9_isLower_27 ?_ ?_
      · refine z_iconst (pc := 34) hE dX9_isLower_34 q_iconst_0 ?_
        exact z_zreturn (pc := 35) hE hr dX9_isLower_35
      · refine z_iconst (pc := 30) hE dX9_isLower_30 q_iconst_1 ?_
        refine z_goto (pc := 31) hE 35 rfl dX9_isLower_31 ?_
        exact z_zreturn (pc := 35) hE hr dX9_isLower_35
set_option maxRecDepth 100000 in
set_option maxHeartbeats 4000000 in
theorem c_X3_doesBreach {l : Launch} {ad : Nat → Nat} {ca : FieldType → ClassId} {D : va_G} {tt : Nat → Nat} (b : Nat) (hb : zfk b) (a1 : Int32) (a2 : Int32) : zC l yX3_doesBreach cX3_doesBreach 3 (some .boolean) 2 layX ad ca D (xtX ad tt) [.ref (ad b), .int a1, .int a2] zvi (p_X3_doesBreach b a1 a2) := by
  refine z_enter (by decide) (Nat.le_of_ble_eq_true rfl) (fun E hE hl0 hcD hr => ?_)
  have hE : zok layX ad (xtX ad tt) E cX3_doesBreach 3 RX3 2 := hE
  show Z layX ad E 3 (zFin layX ad E zvi) 0 [(0, .ref (ad b)), (1, .int a1), (2, .int a2)] [] (p_X3_doesBreach b a1 a2)
  unfold p_X3_doesBreach
  refine z_aload_n (pc := 0) hE 0 0 rfl rfl dX3_doesBreach_0 ?_
  refine z_iload_n (pc := 1) hE 1 1 rfl rfl dX3_doesBreach_1 ?_
  refine z_iload_n (pc := 2) hE 2 2 rfl rfl dX3_doesBreach_2 ?_
  refine z_callVi (pc := 3) (st := []) [.int a1, .int a2] hE kk_RX3_112 (c_X3_areMoored b hb a1 a2) hb.1 rfl rfl rfl (Nat.le_of_ble_eq_true rfl) (by decide) dX3_doesBreach_3 (fun x1 => ?_)
  refine z_if_eq (pc := 6) hE 48 rfl dX3_doesBreach_6 ?_ ?_
  · refine z_iconst (pc := 48) hE dX3_doesBreach_48 q_iconst_0 ?_
    exact z_zreturn (pc := 49) hE hr dX3_doesBreach_49
  · refine z_aload_n (pc := 9) hE 0 0 rfl rfl dX3_doesBreach_9 ?_
    refine z_getr (pc := 10) hE fk_RX3_47 hb.1 rfl dX3_doesBreach_10 ?_
    refine z_aload_n (pc := 13) hE 0 0 rfl rfl dX3_doesBreach_13 ?_
    refine z_getr (pc := 14) hE fk_RX3_38 hb.1 rfl dX3_doesBreach_14 ?_
    refine z_iload_n (pc := 17) hE 1 1 rfl rfl dX3_doesBreach_17 ?_
    refine z_iald (pc := 18) hE hb.2.2.2.2.2.2.2.2.2.1 dX3_doesBreach_18 (fun x2 => ?_)
    refine z_aload_n (pc := 19) hE 0 0 rfl rfl dX3_doesBreach_19 ?_
    refine z_getr (pc := 20) hE fk_RX3_38 hb.1 rfl dX3_doesBreach_20 ?_
    refine z_iload_n (pc := 23) hE 2 2 rfl rfl dX3_doesBreach_23 ?_
    refine z_iald (pc := 24) hE hb.2.2.2.2.2.2.2.2.2.1 dX3_doesBreach_24 (fun x3 => ?_)
    refine z_callVi (pc := 25) (st := []) [.int x2, .int x3] hE kk_RX3_121 (c_X9_isLower x2 x3) lX_3 rfl rfl rfl (Nat.le_of_ble_eq_true rfl) (by decide) dX3_doesBreach_25 (fun x4 => ?_)
    refine z_if_eq (pc := 28) hE 48 rfl dX3_doesBreach_28 ?_ ?_
    · refine z_iconst (pc := 48) hE dX3_doesBreach_48 q_iconst_0 ?_
      exact z_zreturn (pc := 49) hE hr dX3_doesBreach_49
    · refine z_aload_n (pc := 31) hE 0 0 rfl rfl dX3_doesBreach_31 ?_
      refine z_iload_n (pc := 32) hE 1 1 rfl rfl dX3_doesBreach_32 ?_
      refine z_callVi (pc := 33) (st := []) [.int a1] hE kk_RX3_124 (c_X3_weightOf b hb a1) hb.1 rfl rfl rfl (Nat.le_of_ble_eq_true rfl) (by decide) dX3_doesBreach_33 (fun x5 => ?_)
      refine z_aload_n (pc := 36) hE 0 0 rfl rfl dX3_doesBreach_36 ?_
      refine z_iload_n (pc := 37) hE 2 2 rfl rfl dX3_doesBreach_37 ?_
      refine z_callVi (pc := 38) (st := [.int x5]) [.int a2] hE kk_RX3_124 (c_X3_weightOf b hb a2) hb.1 rfl rfl rfl (Nat.le_of_ble_eq_true rfl) (by decide) dX3_doesBreach_38 (fun x6 => ?_)
      refine z_icmp_le (pc := 41) hE 48 rfl dX3_doesBreach_41 ?_ ?_
      · refine z_iconst (pc := 48) hE dX3_doesBreach_48 q_iconst_0 ?_
        exact z_zreturn (pc := 49) hE hr dX3_doesBreach_49
      · refine z_iconst (pc := 44) hE dX3_doesBreach_44 q_iconst_1 ?_
        refine z_goto (pc := 45) hE 49 rfl dX3_doesBreach_45 ?_
        exact z_zreturn (pc := 49) hE hr dX3_doesBreach_49
set_option maxRecDepth 100000 in
set_option maxHeartbeats 4000000 in
theorem c_X3_setLoose {l : Launch} {ad : Nat → Nat} {ca : FieldType → ClassId} {D : va_G} {tt : Nat → Nat} (b : Nat) (hb : zfk b) (a1 : Int32) : zC l yX3_setLoose cX3_setLoose 2 none 1 layX ad ca D (xtX ad tt) [.ref (ad b), .int a1] zvn (p_X3_setLoose b a1) := by
  refine z_enter (by decide) (Nat.le_of_ble_eq_true rfl) (fun E hE hl0 hcD hr => ?_)
  have hE : zok layX ad (xtX ad tt) E cX3_setLoose 2 RX3 1 := hE
  show Z layX ad E 2 (zFin layX ad E zvn) 0 [(0, .ref (ad b)), (1, .int a1)] [] (p_X3_setLoose b a1)
  unfold p_X3_setLoose
  refine z_aload_n (pc := 0) hE 0 0 rfl rfl dX3_setLoose_0 ?_
  refine z_iload_n (pc := 1) hE 1 1 rfl rfl dX3_setLoose_1 ?_
  refine z_callVi (pc := 2) (st := []) [.int a1] hE kk_RX3_92 (c_X3_has b hb a1) hb.1 rfl rfl rfl (Nat.le_of_ble_eq_true rfl) (by decide) dX3_setLoose_2 (fun x1 => ?_)
  refine z_if_eq (pc := 5) hE 29 rfl dX3_setLoose_5 ?_ ?_
  · exact z_return (pc := 29) hE hr dX3_setLoose_29
  · refine z_aload_n (pc := 8) hE 0 0 rfl rfl dX3_setLoose_8 ?_
    refine z_getr (pc := 9) hE fk_RX3_35 hb.1 rfl dX3_setLoose_9 ?_
    refine z_iload_n (pc := 12) hE 1 1 rfl rfl dX3_setLoose_12 ?_
    refine z_iconst (pc := 13) hE dX3_setLoose_13 q_iconst_1 ?_
    refine z_iast (pc := 14) hE hb.2.2.2.2.2.2.2.2.1 dX3_setLoose_14 ?_
    refine z_aload_n (pc := 15) hE 0 0 rfl rfl dX3_setLoose_15 ?_
    refine z_getr (pc := 16) hE fk_RX3_41 hb.1 rfl dX3_setLoose_16 ?_
    refine z_iload_n (pc := 19) hE 1 1 rfl rfl dX3_setLoose_19 ?_
    refine z_iconst (pc := 20) hE dX3_setLoose_20 q_iconst_0 ?_
    refine z_iast (pc := 21) hE hb.2.2.2.2.2.2.2.2.2.2.1 dX3_setLoose_21 ?_
    refine z_aload_n (pc := 22) hE 0 0 rfl rfl dX3_setLoose_22 ?_
    refine z_getr (pc := 23) hE fk_RX3_44 hb.1 rfl dX3_setLoose_23 ?_
    refine z_iload_n (pc := 26) hE 1 1 rfl rfl dX3_setLoose_26 ?_
    refine z_iconst (pc := 27) hE dX3_setLoose_27 q_iconst_0 ?_
    refine z_iast (pc := 28) hE hb.2.2.2.2.2.2.2.2.2.2.2 dX3_setLoose_28 ?_
    exact z_return (pc := 29) hE hr dX3_setLoose_29
set_option maxRecDepth 100000 in
set_option maxHeartbeats 4000000 in
theorem c_X11_highBy {l : Launch} {ad : Nat → Nat} {ca : FieldType → ClassId} {D : va_G} {tt : Nat → Nat} (a1 : Int32) : zC l yX11_highBy cX11_highBy 1 (some .int) 1 layX ad ca D (xtX ad tt) [.int a1] zvi (p_X11_highBy a1) := by
  refine z_enter (by decide) (Nat.le_of_ble_eq_true rfl) (fun E hE hl0 hcD hr => ?_)
  have hE : zok layX ad (xtX ad tt) E cX11_highBy 1 RX11 1 := hE
  show Z layX ad E 1 (zFin layX ad E zvi) 0 [(0, .int a1)] [] (p_X11_highBy a1)
  unfold p_X11_highBy
  refine z_iconst (pc := 0) hE dX11_highBy_0 q_iconst_0 ?_
  refine z_bipush (pc := 1) hE dX11_highBy_1 q_bipush_9 ?_
  refine z_iload_n (pc := 3) hE 0 0 rfl rfl dX11_highBy_3 ?_
  refine z_bipush (pc := 4) hE dX11_highBy_4 q_bipush_10 ?_
  refine z_idiv (pc := 6) hE dX11_highBy_6 ?_
  refine z_min (pc := 7) hE kk_RX11_202 (Nat.le_of_ble_eq_true rfl) (by decide) dX11_highBy_7 ?_
  refine z_max (pc := 10) hE kk_RX11_207 (Nat.le_of_ble_eq_true rfl) (by decide) dX11_highBy_10 ?_
  exact z_ireturn (pc := 13) hE hr dX11_highBy_13
set_option maxRecDepth 100000 in
set_option maxHeartbeats 4000000 in
theorem c_X11_isOver {l : Launch} {ad : Nat → Nat} {ca : FieldType → ClassId} {D : va_G} {tt : Nat → Nat} (a1 : Int32) (a2 : Int32) : zC l yX11_isOver cX11_isOver 2 (some .boolean) 0 layX ad ca D (xtX ad tt) [.int a1, .int a2] zvi (p_X11_isOver a1 a2) := by
  refine z_enter (by decide) (Nat.le_of_ble_eq_true rfl) (fun E hE hl0 hcD hr => ?_)
  have hE : zok layX ad (xtX ad tt) E cX11_isOver 2 RX11 0 := hE
  show Z layX ad E 2 (zFin layX ad E zvi) 0 [(0, .int a1), (1, .int a2)] [] (p_X11_isOver a1 a2)
  unfold p_X11_isOver
  refine z_iload_n (pc := 0) hE 0 0 rfl rfl dX11_isOver_0 ?_
  refine z_bipush (pc := 1) hE dX11_isOver_1 q_bipush_9 ?_
  refine z_join (Y := Unit) (pcJ := 24) (Lj := fun y1 => []) (sj := fun y1 => []) (fun y1 => ?_) (fun j2 hj2 => ?_)
  · refine z_iconst (pc := 24) hE dX11_isOver_24 q_iconst_1 ?_
    refine z_goto (pc := 25) hE 29 rfl dX11_isOver_25 ?_
    exact z_zreturn (pc := 29) hE hr dX11_isOver_29
  refine z_icmp_gt (pc := 3) hE 24 rfl dX11_isOver_3 ?_ ?_
  · exact z_sub [] rfl (hj2 ())
  · refine z_iload_n (pc := 6) hE 0 0 rfl rfl dX11_isOver_6 ?_
    refine z_bipush (pc := 7) hE dX11_isOver_7 q_bipush_m9 ?_
    refine z_icmp_lt (pc := 9) hE 24 rfl dX11_isOver_9 ?_ ?_
    · exact z_sub [] rfl (hj2 ())
    · refine z_iload_n (pc := 12) hE 1 1 rfl rfl dX11_isOver_12 ?_
      refine z_bipush (pc := 13) hE dX11_isOver_13 q_bipush_9 ?_
      refine z_icmp_gt (pc := 15) hE 24 rfl dX11_isOver_15 ?_ ?_
      · exact z_sub [] rfl (hj2 ())
      · refine z_iload_n (pc := 18) hE 1 1 rfl rfl dX11_isOver_18 ?_
        refine z_bipush (pc := 19) hE dX11_isOver_19 q_bipush_m9 ?_
        refine z_icmp_ge (pc := 21) hE 28 rfl dX11_isOver_21 ?_ ?_
        · refine z_iconst (pc := 28) hE dX11_isOver_28 q_iconst_0 ?_
          exact z_zreturn (pc := 29) hE hr dX11_isOver_29
        · exact z_sub [] rfl (hj2 ())
set_option maxRecDepth 100000 in
set_option maxHeartbeats 4000000 in
theorem c_X3_lose {l : Launch} {ad : Nat → Nat} {ca : FieldType → ClassId} {D : va_G} {tt : Nat → Nat} (b : Nat) (hb : zfk b) (a1 : Int32) : zC l yX3_lose cX3_lose 2 none 0 layX ad ca D (xtX ad tt) [.ref (ad b), .int a1] zvn (p_X3_lose b a1) := by
  refine z_enter (by decide) (Nat.le_of_ble_eq_true rfl) (fun E hE hl0 hcD hr => ?_)
  have hE : zok layX ad (xtX ad tt) E cX3_lose 2 RX3 0 := hE
  show Z layX ad E 2 (zFin layX ad E zvn) 0 [(0, .ref (ad b)), (1, .int a1)] [] (p_X3_lose b a1)
  unfold p_X3_lose
  refine z_aload_n (pc := 0) hE 0 0 rfl rfl dX3_lose_0 ?_
  refine z_getr (pc := 1) hE fk_RX3_35 hb.1 rfl dX3_lose_1 ?_
  refine z_iload_n (pc := 4) hE 1 1 rfl rfl dX3_lose_4 ?_
  refine z_iconst (pc := 5) hE dX3_lose_5 q_iconst_3 ?_
  refine z_iast (pc := 6) hE hb.2.2.2.2.2.2.2.2.1 dX3_lose_6 ?_
  refine z_aload_n (pc := 7) hE 0 0 rfl rfl dX3_lose_7 ?_
  refine z_dup (pc := 8) hE dX3_lose_8 rfl ?_
  refine z_geti (pc := 9) hE fk_RX3_130 hb.1 rfl dX3_lose_9 (fun x1 => ?_)
  refine z_iconst (pc := 12) hE dX3_lose_12 q_iconst_1 ?_
  refine z_iload_n (pc := 13) hE 1 1 rfl rfl dX3_lose_13 ?_
  refine z_ishl (pc := 14) hE dX3_lose_14 ?_
  refine z_ior (pc := 15) hE dX3_lose_15 ?_
  refine z_puti (pc := 16) hE fk_RX3_130 hb.1 rfl dX3_lose_16 ?_
  exact z_return (pc := 19) hE hr dX3_lose_19
set_option maxRecDepth 100000 in
set_option maxHeartbeats 4000000 in
theorem c_X3_driftAll {l : Launch} {ad : Nat → Nat} {ca : FieldType → ClassId} {D : va_G} {tt : Nat → Nat} (b : Nat) (hb : zfk b) : zC l yX3_driftAll cX3_driftAll 3 none 4 layX ad ca D (xtX ad tt) [.ref (ad b)] zvn (p_X3_driftAll b) := by
  refine z_enter (by decide) (Nat.le_of_ble_eq_true rfl) (fun E hE hl0 hcD hr => ?_)
  have hE : zok layX ad (xtX ad tt) E cX3_driftAll 3 RX3 4 := hE
  show Z layX ad E 3 (zFin layX ad E zvn) 0 [(0, .ref (ad b))] [] (p_X3_driftAll b)
  unfold p_X3_driftAll
  refine z_iconst (pc := 0) hE dX3_driftAll_0 q_iconst_0 ?_
  refine z_istore_n (L' := [(1, .int ((0 : Int32))), (0, .ref (ad b))]) (pc := 1) hE 1 rfl (by decide) rfl dX3_driftAll_1 ?_
  refine z_sub (L' := [(0, .ref (ad b)), (1, .int ((0 : Int32)))]) [1, 0] rfl ?_
  refine z_loop (V := Int32) (X := Unit) (hd := 2) (ex := 94) (Lh := fun v1 => [(0, .ref (ad b)), (1, .int v1)]) (Lx := fun e4 => []) (fun rc3 k2 hrc3 hk2 v1 => ?_) zNF ((0 : Int32)) _ (fun e4 => ?_)
  · unfold p_X3_driftAll_b2
    refine z_iload_n (pc := 2) hE 1 1 rfl rfl dX3_driftAll_2 ?_
    refine z_aload_n (pc := 3) hE 0 0 rfl rfl dX3_driftAll_3 ?_
    refine z_geti (pc := 4) hE fk_RX3_59 hb.1 rfl dX3_driftAll_4 (fun x5 => ?_)
    refine z_icmp_ge (pc := 7) hE 94 rfl dX3_driftAll_7 ?_ ?_
    · exact z_sub [] rfl (hk2 ())
    · refine z_aload_n (pc := 10) hE 0 0 rfl rfl dX3_driftAll_10 ?_
      refine z_getr (pc := 11) hE fk_RX3_35 hb.1 rfl dX3_driftAll_11 ?_
      refine z_iload_n (pc := 14) hE 1 1 rfl rfl dX3_driftAll_14 ?_
      refine z_iald (pc := 15) hE hb.2.2.2.2.2.2.2.2.1 dX3_driftAll_15 (fun x6 => ?_)
      refine z_iconst (pc := 16) hE dX3_driftAll_16 q_iconst_1 ?_
      refine z_join (Y := Unit) (pcJ := 88) (Lj := fun y7 => [(0, .ref (ad b)), (1, .int v1)]) (sj := fun y7 => []) (fun y7 => ?_) (fun j8 hj8 => ?_)
      · refine z_iinc (L' := [(1, .int (v1 + (1 : Int32))), (0, .ref (ad b))]) (pc := 88) hE 1 rfl (zinc q_iconst_1) (by decide) rfl dX3_driftAll_88 ?_
        refine z_goto (pc := 91) hE 2 rfl dX3_driftAll_91 ?_
        exact z_sub [1, 0] rfl (hrc3 (v1 + (1 : Int32)))
      refine z_icmp_ne (pc := 17) hE 88 rfl dX3_driftAll_17 ?_ ?_
      · exact z_sub [0, 1] rfl (hj8 ())
      · refine z_aload_n (pc := 20) hE 0 0 rfl rfl dX3_driftAll_20 ?_
        refine z_iload_n (pc := 21) hE 1 1 rfl rfl dX3_driftAll_21 ?_
        refine z_callVi (pc := 22) (st := []) [.int v1] hE kk_RX3_145 (c_X3_liftOf b hb v1) hb.1 rfl rfl rfl (Nat.le_of_ble_eq_true rfl) (by decide) dX3_driftAll_22 (fun x9 => ?_)
        refine z_callNi (pc := 25) (st := []) [.int x9] hE kk_RX3_148 (c_X11_highBy x9) rfl rfl (Nat.le_of_ble_eq_true rfl) (by decide) dX3_driftAll_25 (fun x10 => ?_)
        refine z_istore_n (L' := [(2, .int x10), (0, .ref (ad b)), (1, .int v1)]) (pc := 28) hE 2 rfl (by decide) rfl dX3_driftAll_28 ?_
        refine z_aload_n (pc := 29) hE 1 0 rfl rfl dX3_driftAll_29 ?_
        refine z_getr (pc := 30) hE fk_RX3_41 hb.1 rfl dX3_driftAll_30 ?_
        refine z_iload_n (pc := 33) hE 2 1 rfl rfl dX3_driftAll_33 ?_
        refine z_dup2 (pc := 34) hE dX3_driftAll_34 rfl rfl ?_
        refine z_iald (pc := 35) hE hb.2.2.2.2.2.2.2.2.2.2.1 dX3_driftAll_35 (fun x11 => ?_)
        refine z_aload_n (pc := 36) hE 1 0 rfl rfl dX3_driftAll_36 ?_
        refine z_getr (pc := 37) hE fk_RX3_51 hb.1 rfl dX3_driftAll_37 ?_
        refine z_getr (pc := 40) hE fk_RX3_151 lX_10 rfl dX3_driftAll_40 ?_
        refine z_iload_n (pc := 43) hE 0 2 rfl rfl dX3_driftAll_43 ?_
        refine z_iald (pc := 44) hE lX_13 dX3_driftAll_44 (fun x12 => ?_)
        refine z_iadd (pc := 45) hE dX3_driftAll_45 ?_
        refine z_iast (pc := 46) hE hb.2.2.2.2.2.2.2.2.2.2.1 dX3_driftAll_46 ?_
        refine z_aload_n (pc := 47) hE 1 0 rfl rfl dX3_driftAll_47 ?_
        refine z_getr (pc := 48) hE fk_RX3_44 hb.1 rfl dX3_driftAll_48 ?_
        refine z_iload_n (pc := 51) hE 2 1 rfl rfl dX3_driftAll_51 ?_
        refine z_dup2 (pc := 52) hE dX3_driftAll_52 rfl rfl ?_
        refine z_iald (pc := 53) hE hb.2.2.2.2.2.2.2.2.2.2.2 dX3_driftAll_53 (fun x13 => ?_)
        refine z_aload_n (pc := 54) hE 1 0 rfl rfl dX3_driftAll_54 ?_
        refine z_getr (pc := 55) hE fk_RX3_51 hb.1 rfl dX3_driftAll_55 ?_
        refine z_getr (pc := 58) hE fk_RX3_156 lX_10 rfl dX3_driftAll_58 ?_
        refine z_iload_n (pc := 61) hE 0 2 rfl rfl dX3_driftAll_61 ?_
        refine z_iald (pc := 62) hE lX_14 dX3_driftAll_62 (fun x14 => ?_)
        refine z_iadd (pc := 63) hE dX3_driftAll_63 ?_
        refine z_iast (pc := 64) hE hb.2.2.2.2.2.2.2.2.2.2.2 dX3_driftAll_64 ?_
        refine z_aload_n (pc := 65) hE 1 0 rfl rfl dX3_driftAll_65 ?_
        refine z_getr (pc := 66) hE fk_RX3_41 hb.1 rfl dX3_driftAll_66 ?_
        refine z_iload_n (pc := 69) hE 2 1 rfl rfl dX3_driftAll_69 ?_
        refine z_iald (pc := 70) hE hb.2.2.2.2.2.2.2.2.2.2.1 dX3_driftAll_70 (fun x15 => ?_)
        refine z_aload_n (pc := 71) hE 1 0 rfl rfl dX3_driftAll_71 ?_
        refine z_getr (pc := 72) hE fk_RX3_44 hb.1 rfl dX3_driftAll_72 ?_
        refine z_iload_n (pc := 75) hE 2 1 rfl rfl dX3_driftAll_75 ?_
        refine z_iald (pc := 76) hE hb.2.2.2.2.2.2.2.2.2.2.2 dX3_driftAll_76 (fun x16 => ?_)
        refine z_callNi (pc := 77) (st := []) [.int x15, .int x16] hE kk_RX3_159 (c_X11_isOver x15 x16) rfl rfl (Nat.le_of_ble_eq_true rfl) (by decide) dX3_driftAll_77 (fun x17 => ?_)
        refine z_if_eq (pc := 80) hE 88 rfl dX3_driftAll_80 ?_ ?_
        · exact z_sub [1, 2] rfl (hj8 ())
        · refine z_aload_n (pc := 83) hE 1 0 rfl rfl dX3_driftAll_83 ?_
          refine z_iload_n (pc := 84) hE 2 1 rfl rfl dX3_driftAll_84 ?_
          refine z_callVv (pc := 85) (st := []) [.int v1] hE kk_RX3_162 (c_X3_lose b hb v1) hb.1 rfl rfl rfl (Nat.le_of_ble_eq_true rfl) (by decide) dX3_driftAll_85 (fun x18 => ?_)
          exact z_sub [1, 2] rfl (hj8 ())
  · exact z_return (pc := 94) hE hr dX3_driftAll_94
set_option maxRecDepth 100000 in
set_option maxHeartbeats 4000000 in
theorem c_X3_leakAll {l : Launch} {ad : Nat → Nat} {ca : FieldType → ClassId} {D : va_G} {tt : Nat → Nat} (b : Nat) (hb : zfk b) : zC l yX3_leakAll cX3_leakAll 2 none 2 layX ad ca D (xtX ad tt) [.ref (ad b)] zvn (p_X3_leakAll b) := by
  refine z_enter (by decide) (Nat.le_of_ble_eq_true rfl) (fun E hE hl0 hcD hr => ?_)
  have hE : zok layX ad (xtX ad tt) E cX3_leakAll 2 RX3 2 := hE
  show Z layX ad E 2 (zFin layX ad E zvn) 0 [(0, .ref (ad b))] [] (p_X3_leakAll b)
  unfold p_X3_leakAll
  refine z_iconst (pc := 0) hE dX3_leakAll_0 q_iconst_0 ?_
  refine z_istore_n (L' := [(1, .int ((0 : Int32))), (0, .ref (ad b))]) (pc := 1) hE 1 rfl (by decide) rfl dX3_leakAll_1 ?_
  refine z_sub (L' := [(0, .ref (ad b)), (1, .int ((0 : Int32)))]) [1, 0] rfl ?_
  refine z_loop (V := Int32) (X := Unit) (hd := 2) (ex := 47) (Lh := fun v1 => [(0, .ref (ad b)), (1, .int v1)]) (Lx := fun e4 => []) (fun rc3 k2 hrc3 hk2 v1 => ?_) zNF ((0 : Int32)) _ (fun e4 => ?_)
  · unfold p_X3_leakAll_b2
    refine z_iload_n (pc := 2) hE 1 1 rfl rfl dX3_leakAll_2 ?_
    refine z_aload_n (pc := 3) hE 0 0 rfl rfl dX3_leakAll_3 ?_
    refine z_geti (pc := 4) hE fk_RX3_59 hb.1 rfl dX3_leakAll_4 (fun x5 => ?_)
    refine z_icmp_ge (pc := 7) hE 47 rfl dX3_leakAll_7 ?_ ?_
    · exact z_sub [] rfl (hk2 ())
    · refine z_aload_n (pc := 10) hE 0 0 rfl rfl dX3_leakAll_10 ?_
      refine z_iload_n (pc := 11) hE 1 1 rfl rfl dX3_leakAll_11 ?_
      refine z_callVi (pc := 12) (st := []) [.int v1] hE kk_RX3_166 (c_X3_isUp b hb v1) hb.1 rfl rfl rfl (Nat.le_of_ble_eq_true rfl) (by decide) dX3_leakAll_12 (fun x6 => ?_)
      refine z_join (Y := Unit) (pcJ := 41) (Lj := fun y7 => [(0, .ref (ad b)), (1, .int v1)]) (sj := fun y7 => []) (fun y7 => ?_) (fun j8 hj8 => ?_)
      · refine z_iinc (L' := [(1, .int (v1 + (1 : Int32))), (0, .ref (ad b))]) (pc := 41) hE 1 rfl (zinc q_iconst_1) (by decide) rfl dX3_leakAll_41 ?_
        refine z_goto (pc := 44) hE 2 rfl dX3_leakAll_44 ?_
        exact z_sub [1, 0] rfl (hrc3 (v1 + (1 : Int32)))
      refine z_if_eq (pc := 15) hE 41 rfl dX3_leakAll_15 ?_ ?_
      · exact z_sub [0, 1] rfl (hj8 ())
      · refine z_aload_n (pc := 18) hE 0 0 rfl rfl dX3_leakAll_18 ?_
        refine z_getr (pc := 19) hE fk_RX3_20 hb.1 rfl dX3_leakAll_19 ?_
        refine z_iload_n (pc := 22) hE 1 1 rfl rfl dX3_leakAll_22 ?_
        refine z_iconst (pc := 23) hE dX3_leakAll_23 q_iconst_0 ?_
        refine z_aload_n (pc := 24) hE 0 0 rfl rfl dX3_leakAll_24 ?_
        refine z_getr (pc := 25) hE fk_RX3_20 hb.1 rfl dX3_leakAll_25 ?_
        refine z_iload_n (pc := 28) hE 1 1 rfl rfl dX3_leakAll_28 ?_
        refine z_iald (pc := 29) hE hb.2.2.2.1 dX3_leakAll_29 (fun x9 => ?_)
        refine z_aload_n (pc := 30) hE 0 0 rfl rfl dX3_leakAll_30 ?_
        refine z_getr (pc := 31) hE fk_RX3_32 hb.1 rfl dX3_leakAll_31 ?_
        refine z_iload_n (pc := 34) hE 1 1 rfl rfl dX3_leakAll_34 ?_
        refine z_iald (pc := 35) hE hb.2.2.2.2.2.2.2.1 dX3_leakAll_35 (fun x10 => ?_)
        refine z_isub (pc := 36) hE dX3_leakAll_36 ?_
        refine z_max (pc := 37) hE kk_RX3_169 (Nat.le_of_ble_eq_true rfl) (by decide) dX3_leakAll_37 ?_
        refine z_iast (pc := 40) hE hb.2.2.2.1 dX3_leakAll_40 ?_
        exact z_sub [0, 1] rfl (hj8 ())
  · exact z_return (pc := 47) hE hr dX3_leakAll_47
set_option maxRecDepth 100000 in
set_option maxHeartbeats 4000000 in
theorem c_X3_tearAll {l : Launch} {ad : Nat → Nat} {ca : FieldType → ClassId} {D : va_G} {tt : Nat → Nat} (b : Nat) (hb : zfk b) : zC l yX3_tearAll cX3_tearAll 3 none 3 layX ad ca D (xtX ad tt) [.ref (ad b)] zvn (p_X3_tearAll b) := by
  refine z_enter (by decide) (Nat.le_of_ble_eq_true rfl) (fun E hE hl0 hcD hr => ?_)
  have hE : zok layX ad (xtX ad tt) E cX3_tearAll 3 RX3 3 := hE
  show Z layX ad E 3 (zFin layX ad E zvn) 0 [(0, .ref (ad b))] [] (p_X3_tearAll b)
  unfold p_X3_tearAll
  refine z_iconst (pc := 0) hE dX3_tearAll_0 q_iconst_0 ?_
  refine z_istore_n (L' := [(1, .int ((0 : Int32))), (0, .ref (ad b))]) (pc := 1) hE 1 rfl (by decide) rfl dX3_tearAll_1 ?_
  refine z_sub (L' := [(0, .ref (ad b)), (1, .int ((0 : Int32)))]) [1, 0] rfl ?_
  refine z_loop (V := Int32) (X := Unit) (hd := 2) (ex := 59) (Lh := fun v1 => [(0, .ref (ad b)), (1, .int v1)]) (Lx := fun e4 => []) (fun rc3 k2 hrc3 hk2 v1 => ?_) zNF ((0 : Int32)) _ (fun e4 => ?_)
  · unfold p_X3_tearAll_b2
    refine z_iload_n (pc := 2) hE 1 1 rfl rfl dX3_tearAll_2 ?_
    refine z_aload_n (pc := 3) hE 0 0 rfl rfl dX3_tearAll_3 ?_
    refine z_geti (pc := 4) hE fk_RX3_59 hb.1 rfl dX3_tearAll_4 (fun x5 => ?_)
    refine z_icmp_ge (pc := 7) hE 59 rfl dX3_tearAll_7 ?_ ?_
    · exact z_sub [] rfl (hk2 ())
    · refine z_iconst (pc := 10) hE dX3_tearAll_10 q_iconst_0 ?_
      refine z_istore_n (L' := [(2, .int ((0 : Int32))), (0, .ref (ad b)), (1, .int v1)]) (pc := 11) hE 2 rfl (by decide) rfl dX3_tearAll_11 ?_
      refine z_sub (L' := [(0, .ref (ad b)), (1, .int v1), (2, .int ((0 : Int32)))]) [1, 2, 0] rfl ?_
      refine z_loop (V := Int32) (X := Unit) (hd := 12) (ex := 53) (Lh := fun v6 => [(0, .ref (ad b)), (1, .int v1), (2, .int v6)]) (Lx := fun e9 => [(0, .ref (ad b)), (1, .int v1)]) (fun rc8 k7 hrc8 hk7 v6 => ?_) zNF ((0 : Int32)) _ (fun e9 => ?_)
      · unfold p_X3_tearAll_b12
        refine z_iload_n (pc := 12) hE 2 2 rfl rfl dX3_tearAll_12 ?_
        refine z_aload_n (pc := 13) hE 0 0 rfl rfl dX3_tearAll_13 ?_
        refine z_geti (pc := 14) hE fk_RX3_59 hb.1 rfl dX3_tearAll_14 (fun x10 => ?_)
        refine z_icmp_ge (pc := 17) hE 53 rfl dX3_tearAll_17 ?_ ?_
        · exact z_sub [0, 1] rfl (hk7 ())
        · refine z_aload_n (pc := 20) hE 0 0 rfl rfl dX3_tearAll_20 ?_
          refine z_iload_n (pc := 21) hE 1 1 rfl rfl dX3_tearAll_21 ?_
          refine z_iload_n (pc := 22) hE 2 2 rfl rfl dX3_tearAll_22 ?_
          refine z_callVi (pc := 23) (st := []) [.int v1, .int v6] hE kk_RX3_172 (c_X3_doTouch b hb v1 v6) hb.1 rfl rfl rfl (Nat.le_of_ble_eq_true rfl) (by decide) dX3_tearAll_23 (fun x11 => ?_)
          refine z_join (Y := Unit) (pcJ := 47) (Lj := fun y12 => [(0, .ref (ad b)), (1, .int v1), (2, .int v6)]) (sj := fun y12 => []) (fun y12 => ?_) (fun j13 hj13 => ?_)
          · refine z_iinc (L' := [(2, .int (v6 + (1 : Int32))), (0, .ref (ad b)), (1, .int v1)]) (pc := 47) hE 2 rfl (zinc q_iconst_1) (by decide) rfl dX3_tearAll_47 ?_
            refine z_goto (pc := 50) hE 12 rfl dX3_tearAll_50 ?_
            exact z_sub [1, 2, 0] rfl (hrc8 (v6 + (1 : Int32)))
          refine z_if_eq (pc := 26) hE 47 rfl dX3_tearAll_26 ?_ ?_
          · exact z_sub [0, 1, 2] rfl (hj13 ())
          · refine z_aload_n (pc := 29) hE 0 0 rfl rfl dX3_tearAll_29 ?_
            refine z_getr (pc := 30) hE fk_RX3_20 hb.1 rfl dX3_tearAll_30 ?_
            refine z_iload_n (pc := 33) hE 1 1 rfl rfl dX3_tearAll_33 ?_
            refine z_iconst (pc := 34) hE dX3_tearAll_34 q_iconst_0 ?_
            refine z_aload_n (pc := 35) hE 0 0 rfl rfl dX3_tearAll_35 ?_
            refine z_getr (pc := 36) hE fk_RX3_20 hb.1 rfl dX3_tearAll_36 ?_
            refine z_iload_n (pc := 39) hE 1 1 rfl rfl dX3_tearAll_39 ?_
            refine z_iald (pc := 40) hE hb.2.2.2.1 dX3_tearAll_40 (fun x14 => ?_)
            refine z_iconst (pc := 41) hE dX3_tearAll_41 q_iconst_1 ?_
            refine z_isub (pc := 42) hE dX3_tearAll_42 ?_
            refine z_max (pc := 43) hE kk_RX3_169 (Nat.le_of_ble_eq_true rfl) (by decide) dX3_tearAll_43 ?_
            refine z_iast (pc := 46) hE hb.2.2.2.1 dX3_tearAll_46 ?_
            exact z_sub [0, 1, 2] rfl (hj13 ())
      · refine z_iinc (L' := [(1, .int (v1 + (1 : Int32))), (0, .ref (ad b))]) (pc := 53) hE 1 rfl (zinc q_iconst_1) (by decide) rfl dX3_tearAll_53 ?_
        refine z_goto (pc := 56) hE 2 rfl dX3_tearAll_56 ?_
        exact z_sub [1, 0] rfl (hrc3 (v1 + (1 : Int32)))
  · exact z_return (pc := 59) hE hr dX3_tearAll_59
set_option maxRecDepth 100000 in
set_option maxHeartbeats 4000000 in
theorem c_X3_sinkAll {l : Launch} {ad : Nat → Nat} {ca : FieldType → ClassId} {D : va_G} {tt : Nat → Nat} (b : Nat) (hb : zfk b) : zC l yX3_sinkAll cX3_sinkAll 2 none 4 layX ad ca D (xtX ad tt) [.ref (ad b)] zvn (p_X3_sinkAll b) := by
  refine z_enter (by decide) (Nat.le_of_ble_eq_true rfl) (fun E hE hl0 hcD hr => ?_)
  have hE : zok layX ad (xtX ad tt) E cX3_sinkAll 2 RX3 4 := hE
  show Z layX ad E 2 (zFin layX ad E zvn) 0 [(0, .ref (ad b))] [] (p_X3_sinkAll b)
  unfold p_X3_sinkAll
  refine z_iconst (pc := 0) hE dX3_sinkAll_0 q_iconst_0 ?_
  refine z_istore_n (L' := [(1, .int ((0 : Int32))), (0, .ref (ad b))]) (pc := 1) hE 1 rfl (by decide) rfl dX3_sinkAll_1 ?_
  refine z_sub (L' := [(0, .ref (ad b)), (1, .int ((0 : Int32)))]) [1, 0] rfl ?_
  refine z_loop (V := Int32) (X := Unit) (hd := 2) (ex := 78) (Lh := fun v1 => [(0, .ref (ad b)), (1, .int v1)]) (Lx := fun e4 => []) (fun rc3 k2 hrc3 hk2 v1 => ?_) zNF ((0 : Int32)) _ (fun e4 => ?_)
  · unfold p_X3_sinkAll_b2
    refine z_iload_n (pc := 2) hE 1 1 rfl rfl dX3_sinkAll_2 ?_
    refine z_aload_n (pc := 3) hE 0 0 rfl rfl dX3_sinkAll_3 ?_
    refine z_geti (pc := 4) hE fk_RX3_59 hb.1 rfl dX3_sinkAll_4 (fun x5 => ?_)
    refine z_icmp_ge (pc := 7) hE 78 rfl dX3_sinkAll_7 ?_ ?_
    · exact z_sub [] rfl (hk2 ())
    · refine z_aload_n (pc := 10) hE 0 0 rfl rfl dX3_sinkAll_10 ?_
      refine z_iload_n (pc := 11) hE 1 1 rfl rfl dX3_sinkAll_11 ?_
      refine z_callVi (pc := 12) (st := []) [.int v1] hE kk_RX3_166 (c_X3_isUp b hb v1) hb.1 rfl rfl rfl (Nat.le_of_ble_eq_true rfl) (by decide) dX3_sinkAll_12 (fun x6 => ?_)
      refine z_join (Y := Unit) (pcJ := 72) (Lj := fun y7 => [(0, .ref (ad b)), (1, .int v1)]) (sj := fun y7 => []) (fun y7 => ?_) (fun j8 hj8 => ?_)
      · refine z_iinc (L' := [(1, .int (v1 + (1 : Int32))), (0, .ref (ad b))]) (pc := 72) hE 1 rfl (zinc q_iconst_1) (by decide) rfl dX3_sinkAll_72 ?_
        refine z_goto (pc := 75) hE 2 rfl dX3_sinkAll_75 ?_
        exact z_sub [1, 0] rfl (hrc3 (v1 + (1 : Int32)))
      refine z_if_eq (pc := 15) hE 72 rfl dX3_sinkAll_15 ?_ ?_
      · exact z_sub [0, 1] rfl (hj8 ())
      · refine z_aload_n (pc := 18) hE 0 0 rfl rfl dX3_sinkAll_18 ?_
        refine z_iload_n (pc := 19) hE 1 1 rfl rfl dX3_sinkAll_19 ?_
        refine z_callVi (pc := 20) (st := []) [.int v1] hE kk_RX3_145 (c_X3_liftOf b hb v1) hb.1 rfl rfl rfl (Nat.le_of_ble_eq_true rfl) (by decide) dX3_sinkAll_20 (fun x9 => ?_)
        refine z_if_ge (pc := 23) hE 72 rfl dX3_sinkAll_23 ?_ ?_
        · exact z_sub [0, 1] rfl (hj8 ())
        · refine z_aload_n (pc := 26) hE 0 0 rfl rfl dX3_sinkAll_26 ?_
          refine z_getr (pc := 27) hE fk_RX3_35 hb.1 rfl dX3_sinkAll_27 ?_
          refine z_iload_n (pc := 30) hE 1 1 rfl rfl dX3_sinkAll_30 ?_
          refine z_iald (pc := 31) hE hb.2.2.2.2.2.2.2.2.1 dX3_sinkAll_31 (fun x10 => ?_)
          refine z_iconst (pc := 32) hE dX3_sinkAll_32 q_iconst_1 ?_
          refine z_join (Y := Unit) (pcJ := 53) (Lj := fun y11 => [(0, .ref (ad b)), (1, .int v1)]) (sj := fun y11 => []) (fun y11 => ?_) (fun j12 hj12 => ?_)
          · refine z_aload_n (pc := 53) hE 0 0 rfl rfl dX3_sinkAll_53 ?_
            refine z_getr (pc := 54) hE fk_RX3_35 hb.1 rfl dX3_sinkAll_54 ?_
            refine z_iload_n (pc := 57) hE 1 1 rfl rfl dX3_sinkAll_57 ?_
            refine z_iconst (pc := 58) hE dX3_sinkAll_58 q_iconst_0 ?_
            refine z_iast (pc := 59) hE hb.2.2.2.2.2.2.2.2.1 dX3_sinkAll_59 ?_
            refine z_aload_n (pc := 60) hE 0 0 rfl rfl dX3_sinkAll_60 ?_
            refine z_dup (pc := 61) hE dX3_sinkAll_61 rfl ?_
            refine z_geti (pc := 62) hE fk_RX3_127 hb.1 rfl dX3_sinkAll_62 (fun x13 => ?_)
            refine z_iconst (pc := 65) hE dX3_sinkAll_65 q_iconst_1 ?_
            refine z_iload_n (pc := 66) hE 1 1 rfl rfl dX3_sinkAll_66 ?_
            refine z_ishl (pc := 67) hE dX3_sinkAll_67 ?_
            refine z_ior (pc := 68) hE dX3_sinkAll_68 ?_
            refine z_puti (pc := 69) hE fk_RX3_127 hb.1 rfl dX3_sinkAll_69 ?_
            exact z_sub [0, 1] rfl (hj8 ())
          refine z_icmp_ne (pc := 33) hE 53 rfl dX3_sinkAll_33 ?_ ?_
          · exact z_sub [0, 1] rfl (hj12 ())
          · refine z_aload_n (pc := 36) hE 0 0 rfl rfl dX3_sinkAll_36 ?_
            refine z_iload_n (pc := 37) hE 1 1 rfl rfl dX3_sinkAll_37 ?_
            refine z_callVi (pc := 38) (st := []) [.int v1] hE kk_RX3_175 (c_X3_farness b hb v1) hb.1 rfl rfl rfl (Nat.le_of_ble_eq_true rfl) (by decide) dX3_sinkAll_38 (fun x14 => ?_)
            refine z_iconst (pc := 41) hE dX3_sinkAll_41 q_iconst_2 ?_
            refine z_icmp_le (pc := 42) hE 53 rfl dX3_sinkAll_42 ?_ ?_
            · exact z_sub [0, 1] rfl (hj12 ())
            · refine z_aload_n (pc := 45) hE 0 0 rfl rfl dX3_sinkAll_45 ?_
              refine z_iload_n (pc := 46) hE 1 1 rfl rfl dX3_sinkAll_46 ?_
              refine z_callVv (pc := 47) (st := []) [.int v1] hE kk_RX3_162 (c_X3_lose b hb v1) hb.1 rfl rfl rfl (Nat.le_of_ble_eq_true rfl) (by decide) dX3_sinkAll_47 (fun x15 => ?_)
              refine z_goto (pc := 50) hE 72 rfl dX3_sinkAll_50 ?_
              exact z_sub [0, 1] rfl (hj8 ())
  · exact z_return (pc := 78) hE hr dX3_sinkAll_78
set_option maxRecDepth 100000 in
set_option maxHeartbeats 4000000 in
theorem c_X3_passHours {l : Launch} {ad : Nat → Nat} {ca : FieldType → ClassId} {D : va_G} {tt : Nat → Nat} (b : Nat) (hb : zfk b) (a1 : Int32) : zC l yX3_passHours cX3_passHours 3 (some .int) 5 layX ad ca D (xtX ad tt) [.ref (ad b), .int a1] zvi (p_X3_passHours b a1) := by
  refine z_enter (by decide) (Nat.le_of_ble_eq_true rfl) (fun E hE hl0 hcD hr => ?_)
  have hE : zok layX ad (xtX ad tt) E cX3_passHours 3 RX3 5 := hE
  show Z layX ad E 3 (zFin layX ad E zvi) 0 [(0, .ref (ad b)), (1, .int a1)] [] (p_X3_passHours b a1)
  unfold p_X3_passHours
  refine z_aload_n (pc := 0) hE 0 0 rfl rfl dX3_passHours_0 ?_
  refine z_iconst (pc := 1) hE dX3_passHours_1 q_iconst_0 ?_
  refine z_puti (pc := 2) hE fk_RX3_127 hb.1 rfl dX3_passHours_2 ?_
  refine z_aload_n (pc := 5) hE 0 0 rfl rfl dX3_passHours_5 ?_
  refine z_iconst (pc := 6) hE dX3_passHours_6 q_iconst_0 ?_
  refine z_puti (pc := 7) hE fk_RX3_130 hb.1 rfl dX3_passHours_7 ?_
  refine z_iconst (pc := 10) hE dX3_passHours_10 q_iconst_0 ?_
  refine z_istore_n (L' := [(2, .int ((0 : Int32))), (0, .ref (ad b)), (1, .int a1)]) (pc := 11) hE 2 rfl (by decide) rfl dX3_passHours_11 ?_
  refine z_sub (L' := [(0, .ref (ad b)), (1, .int a1), (2, .int ((0 : Int32)))]) [1, 2, 0] rfl ?_
  refine z_loop (V := Int32) (X := Unit) (hd := 12) (ex := 49) (Lh := fun v1 => [(0, .ref (ad b)), (1, .int a1), (2, .int v1)]) (Lx := fun e4 => [(0, .ref (ad b))]) (fun rc3 k2 hrc3 hk2 v1 => ?_) zNF ((0 : Int32)) _ (fun e4 => ?_)
  · unfold p_X3_passHours_b12
    refine z_iload_n (pc := 12) hE 2 2 rfl rfl dX3_passHours_12 ?_
    refine z_iload_n (pc := 13) hE 1 1 rfl rfl dX3_passHours_13 ?_
    refine z_icmp_ge (pc := 14) hE 49 rfl dX3_passHours_14 ?_ ?_
    · exact z_sub [0] rfl (hk2 ())
    · refine z_aload_n (pc := 17) hE 0 0 rfl rfl dX3_passHours_17 ?_
      refine z_callVv (pc := 18) (st := []) [] hE kk_RX3_133 (c_X3_driftAll b hb) hb.1 rfl rfl rfl (Nat.le_of_ble_eq_true rfl) (by decide) dX3_passHours_18 (fun x5 => ?_)
      refine z_aload_n (pc := 21) hE 0 0 rfl rfl dX3_passHours_21 ?_
      refine z_callVv (pc := 22) (st := []) [] hE kk_RX3_136 (c_X3_leakAll b hb) hb.1 rfl rfl rfl (Nat.le_of_ble_eq_true rfl) (by decide) dX3_passHours_22 (fun x6 => ?_)
      refine z_aload_n (pc := 25) hE 0 0 rfl rfl dX3_passHours_25 ?_
      refine z_callVv (pc := 26) (st := []) [] hE kk_RX3_139 (c_X3_tearAll b hb) hb.1 rfl rfl rfl (Nat.le_of_ble_eq_true rfl) (by decide) dX3_passHours_26 (fun x7 => ?_)
      refine z_aload_n (pc := 29) hE 0 0 rfl rfl dX3_passHours_29 ?_
      refine z_dup (pc := 30) hE dX3_passHours_30 rfl ?_
      refine z_geti (pc := 31) hE fk_RX3_63 hb.1 rfl dX3_passHours_31 (fun x8 => ?_)
      refine z_iconst (pc := 34) hE dX3_passHours_34 q_iconst_1 ?_
      refine z_iadd (pc := 35) hE dX3_passHours_35 ?_
      refine z_puti (pc := 36) hE fk_RX3_63 hb.1 rfl dX3_passHours_36 ?_
      refine z_aload_n (pc := 39) hE 0 0 rfl rfl dX3_passHours_39 ?_
      refine z_callVv (pc := 40) (st := []) [] hE kk_RX3_142 (c_X3_sinkAll b hb) hb.1 rfl rfl rfl (Nat.le_of_ble_eq_true rfl) (by decide) dX3_passHours_40 (fun x9 => ?_)
      refine z_iinc (L' := [(2, .int (v1 + (1 : Int32))), (0, .ref (ad b)), (1, .int a1)]) (pc := 43) hE 2 rfl (zinc q_iconst_1) (by decide) rfl dX3_passHours_43 ?_
      refine z_goto (pc := 46) hE 12 rfl dX3_passHours_46 ?_
      exact z_sub [1, 2, 0] rfl (hrc3 (v1 + (1 : Int32)))
  · refine z_aload_n (pc := 49) hE 0 0 rfl rfl dX3_passHours_49 ?_
    refine z_geti (pc := 50) hE fk_RX3_63 hb.1 rfl dX3_passHours_50 (fun x10 => ?_)
    exact z_ireturn (pc := 53) hE hr dX3_passHours_53
set_option maxRecDepth 100000 in
set_option maxHeartbeats 4000000 in
theorem c_X3_foresee {l : Launch} {ad : Nat → Nat} {ca : FieldType → ClassId} {D : va_G} {tt : Nat → Nat} (b : Nat) (hb : zfk b) (a1 : Int32) : zC l yX3_foresee cX3_foresee 3 none 3 layX ad ca D (xtX ad tt) [.ref (ad b), .int a1] zvn (p_X3_foresee b a1) := by
  refine z_enter (by decide) (Nat.le_of_ble_eq_true rfl) (fun E hE hl0 hcD hr => ?_)
  have hE : zok layX ad (xtX ad tt) E cX3_foresee 3 RX3 3 := hE
  show Z layX ad E 3 (zFin layX ad E zvn) 0 [(0, .ref (ad b)), (1, .int a1)] [] (p_X3_foresee b a1)
  unfold p_X3_foresee
  refine z_aload_n (pc := 0) hE 0 0 rfl rfl dX3_foresee_0 ?_
  refine z_iload_n (pc := 1) hE 1 1 rfl rfl dX3_foresee_1 ?_
  refine z_callVi (pc := 2) (st := []) [.int a1] hE kk_RX3_92 (c_X3_has b hb a1) hb.1 rfl rfl rfl (Nat.le_of_ble_eq_true rfl) (by decide) dX3_foresee_2 (fun x1 => ?_)
  refine z_if_eq (pc := 5) hE 49 rfl dX3_foresee_5 ?_ ?_
  · exact z_return (pc := 49) hE hr dX3_foresee_49
  · refine z_iconst (pc := 8) hE dX3_foresee_8 q_iconst_0 ?_
    refine z_istore_n (L' := [(2, .int ((0 : Int32))), (0, .ref (ad b)), (1, .int a1)]) (pc := 9) hE 2 rfl (by decide) rfl dX3_foresee_9 ?_
    refine z_sub (L' := [(0, .ref (ad b)), (1, .int a1), (2, .int ((0 : Int32)))]) [1, 2, 0] rfl ?_
    refine z_loop (V := Int32) (X := Unit) (hd := 10) (ex := 49) (Lh := fun v2 => [(0, .ref (ad b)), (1, .int a1), (2, .int v2)]) (Lx := fun e5 => []) (fun rc4 k3 hrc4 hk3 v2 => ?_) zNF ((0 : Int32)) _ (fun e5 => ?_)
    · unfold p_X3_foresee_b10
      refine z_iload_n (pc := 10) hE 2 2 rfl rfl dX3_foresee_10 ?_
      refine z_bipush (pc := 11) hE dX3_foresee_11 q_bipush_8 ?_
      refine z_icmp_ge (pc := 13) hE 49 rfl dX3_foresee_13 ?_ ?_
      · exact z_sub [] rfl (hk3 ())
      · refine z_aload_n (pc := 16) hE 0 0 rfl rfl dX3_foresee_16 ?_
        refine z_getr (pc := 17) hE fk_RX3_17 hb.1 rfl dX3_foresee_17 ?_
        refine z_iload_n (pc := 20) hE 2 2 rfl rfl dX3_foresee_20 ?_
        refine z_aload_n (pc := 21) hE 0 0 rfl rfl dX3_foresee_21 ?_
        refine z_iload_n (pc := 22) hE 1 1 rfl rfl dX3_foresee_22 ?_
        refine z_aload_n (pc := 23) hE 0 0 rfl rfl dX3_foresee_23 ?_
        refine z_getr (pc := 24) hE fk_RX3_20 hb.1 rfl dX3_foresee_24 ?_
        refine z_iload_n (pc := 27) hE 1 1 rfl rfl dX3_foresee_27 ?_
        refine z_iald (pc := 28) hE hb.2.2.2.1 dX3_foresee_28 (fun x6 => ?_)
        refine z_aload_n (pc := 29) hE 0 0 rfl rfl dX3_foresee_29 ?_
        refine z_getr (pc := 30) hE fk_RX3_23 hb.1 rfl dX3_foresee_30 ?_
        refine z_iload_n (pc := 33) hE 1 1 rfl rfl dX3_foresee_33 ?_
        refine z_iald (pc := 34) hE hb.2.2.2.2.1 dX3_foresee_34 (fun x7 => ?_)
        refine z_iload_n (pc := 35) hE 2 2 rfl rfl dX3_foresee_35 ?_
        refine z_callVi (pc := 36) (st := [.int v2, .ref (ad (b + 2))]) [.int a1, .int x6, .int x7, .int v2] hE kk_RX3_95 (c_X3_liftAs b hb a1 x6 x7 v2) hb.1 rfl rfl rfl (Nat.le_of_ble_eq_true rfl) (by decide) dX3_foresee_36 (fun x8 => ?_)
        refine z_callNi (pc := 39) (st := [.int v2, .ref (ad (b + 2))]) [.int x8] hE kk_RX3_148 (c_X11_highBy x8) rfl rfl (Nat.le_of_ble_eq_true rfl) (by decide) dX3_foresee_39 (fun x9 => ?_)
        refine z_iast (pc := 42) hE hb.2.2.1 dX3_foresee_42 ?_
        refine z_iinc (L' := [(2, .int (v2 + (1 : Int32))), (0, .ref (ad b)), (1, .int a1)]) (pc := 43) hE 2 rfl (zinc q_iconst_1) (by decide) rfl dX3_foresee_43 ?_
        refine z_goto (pc := 46) hE 10 rfl dX3_foresee_46 ?_
        exact z_sub [1, 2, 0] rfl (hrc4 (v2 + (1 : Int32)))
    · exact z_return (pc := 49) hE hr dX3_foresee_49
set_option maxRecDepth 100000 in
set_option maxHeartbeats 4000000 in
theorem c_X3_staysNear {l : Launch} {ad : Nat → Nat} {ca : FieldType → ClassId} {D : va_G} {tt : Nat → Nat} (b : Nat) (hb : zfk b) (a1 : Int32) (a2 : Int32) (a3 : Int32) (a4 : Int32) : zC l yX3_staysNear cX3_staysNear 8 (some .boolean) 1 layX ad ca D (xtX ad tt) [.ref (ad b), .int a1, .int a2, .int a3, .int a4] zvi (p_X3_staysNear b a1 a2 a3 a4) := by
  refine z_enter (by decide) (Nat.le_of_ble_eq_true rfl) (fun E hE hl0 hcD hr => ?_)
  have hE : zok layX ad (xtX ad tt) E cX3_staysNear 8 RX3 1 := hE
  show Z layX ad E 8 (zFin layX ad E zvi) 0 [(0, .ref (ad b)), (1, .int a1), (2, .int a2), (3, .int a3), (4, .int a4)] [] (p_X3_staysNear b a1 a2 a3 a4)
  unfold p_X3_staysNear
  refine z_aload_n (pc := 0) hE 0 0 rfl rfl dX3_staysNear_0 ?_
  refine z_iload_n (pc := 1) hE 1 1 rfl rfl dX3_staysNear_1 ?_
  refine z_callVi (pc := 2) (st := []) [.int a1] hE kk_RX3_92 (c_X3_has b hb a1) hb.1 rfl rfl rfl (Nat.le_of_ble_eq_true rfl) (by decide) dX3_staysNear_2 (fun x1 => ?_)
  refine z_if_ne (pc := 5) hE 10 rfl dX3_staysNear_5 ?_ ?_
  · refine z_aload_n (pc := 10) hE 0 0 rfl rfl dX3_staysNear_10 ?_
    refine z_getr (pc := 11) hE fk_RX3_41 hb.1 rfl dX3_staysNear_11 ?_
    refine z_iload_n (pc := 14) hE 1 1 rfl rfl dX3_staysNear_14 ?_
    refine z_iald (pc := 15) hE hb.2.2.2.2.2.2.2.2.2.2.1 dX3_staysNear_15 (fun x2 => ?_)
    refine z_istore (L' := [(5, .int x2), (0, .ref (ad b)), (1, .int a1), (2, .int a2), (3, .int a3), (4, .int a4)]) (pc := 16) hE (by decide) rfl dX3_staysNear_16 ?_
    refine z_aload_n (pc := 18) hE 1 0 rfl rfl dX3_staysNear_18 ?_
    refine z_getr (pc := 19) hE fk_RX3_44 hb.1 rfl dX3_staysNear_19 ?_
    refine z_iload_n (pc := 22) hE 2 1 rfl rfl dX3_staysNear_22 ?_
    refine z_iald (pc := 23) hE hb.2.2.2.2.2.2.2.2.2.2.2 dX3_staysNear_23 (fun x3 => ?_)
    refine z_istore (L' := [(6, .int x3), (5, .int x2), (0, .ref (ad b)), (1, .int a1), (2, .int a2), (3, .int a3), (4, .int a4)]) (pc := 24) hE (by decide) rfl dX3_staysNear_24 ?_
    refine z_iconst (pc := 26) hE dX3_staysNear_26 q_iconst_0 ?_
    refine z_istore (L' := [(7, .int ((0 : Int32))), (6, .int x3), (5, .int x2), (0, .ref (ad b)), (1, .int a1), (2, .int a2), (3, .int a3), (4, .int a4)]) (pc := 27) hE (by decide) rfl dX3_staysNear_27 ?_
    refine z_sub (L' := [(0, .ref (ad b)), (2, .int a2), (3, .int a3), (4, .int a4), (5, .int x2), (6, .int x3), (7, .int ((0 : Int32)))]) [3, 5, 6, 7, 2, 1, 0] rfl ?_
    refine z_loop (V := (Int32 × Int32 × Int32)) (X := (Int32 × Int32)) (hd := 29) (ex := 110) (Lh := fun v4 => [(0, .ref (ad b)), (2, .int a2), (3, .int a3), (4, .int a4), (5, .int v4.1), (6, .int v4.2.1), (7, .int v4.2.2)]) (Lx := fun e7 => [(4, .int a4), (5, .int e7.1), (6, .int e7.2)]) (fun rc6 k5 hrc6 hk5 v4 => ?_) zNF (x2, x3, (0 : Int32)) _ (fun e7 => ?_)
    · unfold p_X3_staysNear_b29
      refine z_iload (pc := 29) hE 6 rfl dX3_staysNear_29 ?_
      refine z_iload_n (pc := 31) hE 1 2 rfl rfl dX3_staysNear_31 ?_
      refine z_icmp_ge (pc := 32) hE 110 rfl dX3_staysNear_32 ?_ ?_
      · exact z_sub [3, 4, 5] rfl (hk5 (v4.1, v4.2.1))
      · refine z_iload (pc := 35) hE 6 rfl dX3_staysNear_35 ?_
        refine z_bipush (pc := 37) hE dX3_staysNear_37 q_bipush_8 ?_
        refine z_icmp_ge (pc := 39) hE 110 rfl dX3_staysNear_39 ?_ ?_
        · exact z_sub [3, 4, 5] rfl (hk5 (v4.1, v4.2.1))
        · refine z_iload_n (pc := 42) hE 2 3 rfl rfl dX3_staysNear_42 ?_
          refine z_iload (pc := 43) hE 6 rfl dX3_staysNear_43 ?_
          refine z_ishr (pc := 45) hE dX3_staysNear_45 ?_
          refine z_iconst (pc := 46) hE dX3_staysNear_46 q_iconst_1 ?_
          refine z_iand (pc := 47) hE dX3_staysNear_47 ?_
          refine z_iconst (pc := 48) hE dX3_staysNear_48 q_iconst_1 ?_
          refine z_join (Y := (Int32 × Int32)) (pcJ := 92) (Lj := fun y8 => [(0, .ref (ad b)), (2, .int a2), (3, .int a3), (4, .int a4), (5, .int y8.1), (6, .int y8.2), (7, .int v4.2.2)]) (sj := fun y8 => []) (fun y8 => ?_) (fun j9 hj9 => ?_)
          · refine z_iload (pc := 92) hE 4 rfl dX3_staysNear_92 ?_
            refine z_iload (pc := 94) hE 5 rfl dX3_staysNear_94 ?_
            refine z_callNi (pc := 96) (st := []) [.int y8.1, .int y8.2] hE kk_RX3_159 (c_X11_isOver y8.1 y8.2) rfl rfl (Nat.le_of_ble_eq_true rfl) (by decide) dX3_staysNear_96 (fun x10 => ?_)
            refine z_if_eq (pc := 99) hE 104 rfl dX3_staysNear_99 ?_ ?_
            · refine z_iinc (L' := [(7, .int (v4.2.2 + (1 : Int32))), (0, .ref (ad b)), (2, .int a2), (3, .int a3), (4, .int a4), (5, .int y8.1), (6, .int y8.2)]) (pc := 104) hE 6 rfl (zinc q_iconst_1) (by decide) rfl dX3_staysNear_104 ?_
              refine z_goto (pc := 107) hE 29 rfl dX3_staysNear_107 ?_
              exact z_sub [1, 2, 3, 4, 5, 6, 0] rfl (hrc6 (y8.1, y8.2, v4.2.2 + (1 : Int32)))
            · refine z_iconst (pc := 102) hE dX3_staysNear_102 q_iconst_0 ?_
              exact z_zreturn (pc := 103) hE hr dX3_staysNear_103
          refine z_icmp_ne (pc := 49) hE 92 rfl dX3_staysNear_49 ?_ ?_
          · exact z_sub [0, 1, 2, 3, 4, 5, 6] rfl (hj9 (v4.1, v4.2.1))
          · refine z_iload (pc := 52) hE 4 rfl dX3_staysNear_52 ?_
            refine z_aload_n (pc := 54) hE 0 0 rfl rfl dX3_staysNear_54 ?_
            refine z_getr (pc := 55) hE fk_RX3_51 hb.1 rfl dX3_staysNear_55 ?_
            refine z_getr (pc := 58) hE fk_RX3_151 lX_10 rfl dX3_staysNear_58 ?_
            refine z_aload_n (pc := 61) hE 0 0 rfl rfl dX3_staysNear_61 ?_
            refine z_getr (pc := 62) hE fk_RX3_17 hb.1 rfl dX3_staysNear_62 ?_
            refine z_iload (pc := 65) hE 6 rfl dX3_staysNear_65 ?_
            refine z_iald (pc := 67) hE hb.2.2.1 dX3_staysNear_67 (fun x11 => ?_)
            refine z_iald (pc := 68) hE lX_13 dX3_staysNear_68 (fun x12 => ?_)
            refine z_iadd (pc := 69) hE dX3_staysNear_69 ?_
            refine z_istore (L' := [(5, .int (v4.1 + x12)), (0, .ref (ad b)), (2, .int a2), (3, .int a3), (4, .int a4), (6, .int v4.2.1), (7, .int v4.2.2)]) (pc := 70) hE (by decide) rfl dX3_staysNear_70 ?_
            refine z_iload (pc := 72) hE 5 rfl dX3_staysNear_72 ?_
            refine z_aload_n (pc := 74) hE 1 0 rfl rfl dX3_staysNear_74 ?_
            refine z_getr (pc := 75) hE fk_RX3_51 hb.1 rfl dX3_staysNear_75 ?_
            refine z_getr (pc := 78) hE fk_RX3_156 lX_10 rfl dX3_staysNear_78 ?_
            refine z_aload_n (pc := 81) hE 1 0 rfl rfl dX3_staysNear_81 ?_
            refine z_getr (pc := 82) hE fk_RX3_17 hb.1 rfl dX3_staysNear_82 ?_
            refine z_iload (pc := 85) hE 6 rfl dX3_staysNear_85 ?_
            refine z_iald (pc := 87) hE hb.2.2.1 dX3_staysNear_87 (fun x13 => ?_)
            refine z_iald (pc := 88) hE lX_14 dX3_staysNear_88 (fun x14 => ?_)
            refine z_iadd (pc := 89) hE dX3_staysNear_89 ?_
            refine z_istore (L' := [(6, .int (v4.2.1 + x14)), (5, .int (v4.1 + x12)), (0, .ref (ad b)), (2, .int a2), (3, .int a3), (4, .int a4), (7, .int v4.2.2)]) (pc := 90) hE (by decide) rfl dX3_staysNear_90 ?_
            exact z_sub [2, 3, 4, 5, 1, 0, 6] rfl (hj9 (v4.1 + x12, v4.2.1 + x14))
    · refine z_iload (pc := 110) hE 1 rfl dX3_staysNear_110 ?_
      refine z_abs (pc := 112) hE kk_RX3_106 (Nat.le_of_ble_eq_true rfl) (by decide) dX3_staysNear_112 ?_
      refine z_iload (pc := 115) hE 2 rfl dX3_staysNear_115 ?_
      refine z_abs (pc := 117) hE kk_RX3_106 (Nat.le_of_ble_eq_true rfl) (by decide) dX3_staysNear_117 ?_
      refine z_iadd (pc := 120) hE dX3_staysNear_120 ?_
      refine z_iload (pc := 121) hE 0 rfl dX3_staysNear_121 ?_
      refine z_icmp_gt (pc := 123) hE 130 rfl dX3_staysNear_123 ?_ ?_
      · refine z_iconst (pc := 130) hE dX3_staysNear_130 q_iconst_0 ?_
        exact z_zreturn (pc := 131) hE hr dX3_staysNear_131
      · refine z_iconst (pc := 126) hE dX3_staysNear_126 q_iconst_1 ?_
        refine z_goto (pc := 127) hE 131 rfl dX3_staysNear_127 ?_
        exact z_zreturn (pc := 131) hE hr dX3_staysNear_131
  · refine z_iconst (pc := 8) hE dX3_staysNear_8 q_iconst_0 ?_
    exact z_zreturn (pc := 9) hE hr dX3_staysNear_9
set_option maxRecDepth 100000 in
set_option maxHeartbeats 4000000 in
theorem c_X3_become {l : Launch} {ad : Nat → Nat} {ca : FieldType → ClassId} {D : va_G} {tt : Nat → Nat} (b : Nat) (hb : zfk b) (c : Nat) (hc : zfk c) : zC l yX3_become cX3_become 3 none 0 layX ad ca D (xtX ad tt) [.ref (ad b), .ref (ad c)] zvn (p_X3_become b c) := by
  refine z_enter (by decide) (Nat.le_of_ble_eq_true rfl) (fun E hE hl0 hcD hr => ?_)
  have hE : zok layX ad (xtX ad tt) E cX3_become 3 RX3 0 := hE
  show Z layX ad E 3 (zFin layX ad E zvn) 0 [(0, .ref (ad b)), (1, .ref (ad c))] [] (p_X3_become b c)
  unfold p_X3_become
  refine z_aload_n (pc := 0) hE 0 0 rfl rfl dX3_become_0 ?_
  refine z_aload_n (pc := 1) hE 1 1 rfl rfl dX3_become_1 ?_
  refine z_geti (pc := 2) hE fk_RX3_59 hc.1 rfl dX3_become_2 (fun x1 => ?_)
  refine z_puti (pc := 5) hE fk_RX3_59 hb.1 rfl dX3_become_5 ?_
  refine z_aload_n (pc := 8) hE 0 0 rfl rfl dX3_become_8 ?_
  refine z_aload_n (pc := 9) hE 1 1 rfl rfl dX3_become_9 ?_
  refine z_geti (pc := 10) hE fk_RX3_63 hc.1 rfl dX3_become_10 (fun x2 => ?_)
  refine z_puti (pc := 13) hE fk_RX3_63 hb.1 rfl dX3_become_13 ?_
  refine z_aload_n (pc := 16) hE 0 0 rfl rfl dX3_become_16 ?_
  refine z_aload_n (pc := 17) hE 1 1 rfl rfl dX3_become_17 ?_
  refine z_geti (pc := 18) hE fk_RX3_99 hc.1 rfl dX3_become_18 (fun x3 => ?_)
  refine z_puti (pc := 21) hE fk_RX3_99 hb.1 rfl dX3_become_21 ?_
  refine z_iconst (pc := 24) hE dX3_become_24 q_iconst_0 ?_
  refine z_istore_n (L' := [(2, .int ((0 : Int32))), (0, .ref (ad b)), (1, .ref (ad c))]) (pc := 25) hE 2 rfl (by decide) rfl dX3_become_25 ?_
  refine z_sub (L' := [(0, .ref (ad b)), (1, .ref (ad c)), (2, .int ((0 : Int32)))]) [1, 2, 0] rfl ?_
  refine z_loop (V := Int32) (X := Unit) (hd := 26) (ex := 148) (Lh := fun v4 => [(0, .ref (ad b)), (1, .ref (ad c)), (2, .int v4)]) (Lx := fun e7 => []) (fun rc6 k5 hrc6 hk5 v4 => ?_) zNF ((0 : Int32)) _ (fun e7 => ?_)
  · unfold p_X3_become_b26
    refine z_iload_n (pc := 26) hE 2 2 rfl rfl dX3_become_26 ?_
    refine z_aload_n (pc := 27) hE 0 0 rfl rfl dX3_become_27 ?_
    refine z_geti (pc := 28) hE fk_RX3_59 hb.1 rfl dX3_become_28 (fun x8 => ?_)
    refine z_icmp_ge (pc := 31) hE 148 rfl dX3_become_31 ?_ ?_
    · exact z_sub [] rfl (hk5 ())
    · refine z_aload_n (pc := 34) hE 0 0 rfl rfl dX3_become_34 ?_
      refine z_getr (pc := 35) hE fk_RX3_20 hb.1 rfl dX3_become_35 ?_
      refine z_iload_n (pc := 38) hE 2 2 rfl rfl dX3_become_38 ?_
      refine z_aload_n (pc := 39) hE 1 1 rfl rfl dX3_become_39 ?_
      refine z_getr (pc := 40) hE fk_RX3_20 hc.1 rfl dX3_become_40 ?_
      refine z_iload_n (pc := 43) hE 2 2 rfl rfl dX3_become_43 ?_
      refine z_iald (pc := 44) hE hc.2.2.2.1 dX3_become_44 (fun x9 => ?_)
      refine z_iast (pc := 45) hE hb.2.2.2.1 dX3_become_45 ?_
      refine z_aload_n (pc := 46) hE 0 0 rfl rfl dX3_become_46 ?_
      refine z_getr (pc := 47) hE fk_RX3_23 hb.1 rfl dX3_become_47 ?_
      refine z_iload_n (pc := 50) hE 2 2 rfl rfl dX3_become_50 ?_
      refine z_aload_n (pc := 51) hE 1 1 rfl rfl dX3_become_51 ?_
      refine z_getr (pc := 52) hE fk_RX3_23 hc.1 rfl dX3_become_52 ?_
      refine z_iload_n (pc := 55) hE 2 2 rfl rfl dX3_become_55 ?_
      refine z_iald (pc := 56) hE hc.2.2.2.2.1 dX3_become_56 (fun x10 => ?_)
      refine z_iast (pc := 57) hE hb.2.2.2.2.1 dX3_become_57 ?_
      refine z_aload_n (pc := 58) hE 0 0 rfl rfl dX3_become_58 ?_
      refine z_getr (pc := 59) hE fk_RX3_26 hb.1 rfl dX3_become_59 ?_
      refine z_iload_n (pc := 62) hE 2 2 rfl rfl dX3_become_62 ?_
      refine z_aload_n (pc := 63) hE 1 1 rfl rfl dX3_become_63 ?_
      refine z_getr (pc := 64) hE fk_RX3_26 hc.1 rfl dX3_become_64 ?_
      refine z_iload_n (pc := 67) hE 2 2 rfl rfl dX3_become_67 ?_
      refine z_iald (pc := 68) hE hc.2.2.2.2.2.1 dX3_become_68 (fun x11 => ?_)
      refine z_iast (pc := 69) hE hb.2.2.2.2.2.1 dX3_become_69 ?_
      refine z_aload_n (pc := 70) hE 0 0 rfl rfl dX3_become_70 ?_
      refine z_getr (pc := 71) hE fk_RX3_29 hb.1 rfl dX3_become_71 ?_
      refine z_iload_n (pc := 74) hE 2 2 rfl rfl dX3_become_74 ?_
      refine z_aload_n (pc := 75) hE 1 1 rfl rfl dX3_become_75 ?_
      refine z_getr (pc := 76) hE fk_RX3_29 hc.1 rfl dX3_become_76 ?_
      refine z_iload_n (pc := 79) hE 2 2 rfl rfl dX3_become_79 ?_
      refine z_iald (pc := 80) hE hc.2.2.2.2.2.2.1 dX3_become_80 (fun x12 => ?_)
      refine z_iast (pc := 81) hE hb.2.2.2.2.2.2.1 dX3_become_81 ?_
      refine z_aload_n (pc := 82) hE 0 0 rfl rfl dX3_become_82 ?_
      refine z_getr (pc := 83) hE fk_RX3_32 hb.1 rfl dX3_become_83 ?_
      refine z_iload_n (pc := 86) hE 2 2 rfl rfl dX3_become_86 ?_
      refine z_aload_n (pc := 87) hE 1 1 rfl rfl dX3_become_87 ?_
      refine z_getr (pc := 88) hE fk_RX3_32 hc.1 rfl dX3_become_88 ?_
      refine z_iload_n (pc := 91) hE 2 2 rfl rfl dX3_become_91 ?_
      refine z_iald (pc := 92) hE hc.2.2.2.2.2.2.2.1 dX3_become_92 (fun x13 => ?_)
      refine z_iast (pc := 93) hE hb.2.2.2.2.2.2.2.1 dX3_become_93 ?_
      refine z_aload_n (pc := 94) hE 0 0 rfl rfl dX3_become_94 ?_
      refine z_getr (pc := 95) hE fk_RX3_35 hb.1 rfl dX3_become_95 ?_
      refine z_iload_n (pc := 98) hE 2 2 rfl rfl dX3_become_98 ?_
      refine z_aload_n (pc := 99) hE 1 1 rfl rfl dX3_become_99 ?_
      refine z_getr (pc := 100) hE fk_RX3_35 hc.1 rfl dX3_become_100 ?_
      refine z_iload_n (pc := 103) hE 2 2 rfl rfl dX3_become_103 ?_
      refine z_iald (pc := 104) hE hc.2.2.2.2.2.2.2.2.1 dX3_become_104 (fun x14 => ?_)
      refine z_iast (pc := 105) hE hb.2.2.2.2.2.2.2.2.1 dX3_become_105 ?_
      refine z_aload_n (pc := 106) hE 0 0 rfl rfl dX3_become_106 ?_
      refine z_getr (pc := 107) hE fk_RX3_38 hb.1 rfl dX3_become_107 ?_
      refine z_iload_n (pc := 110) hE 2 2 rfl rfl dX3_become_110 ?_
      refine z_aload_n (pc := 111) hE 1 1 rfl rfl dX3_become_111 ?_
      refine z_getr (pc := 112) hE fk_RX3_38 hc.1 rfl dX3_become_112 ?_
      refine z_iload_n (pc := 115) hE 2 2 rfl rfl dX3_become_115 ?_
      refine z_iald (pc := 116) hE hc.2.2.2.2.2.2.2.2.2.1 dX3_become_116 (fun x15 => ?_)
      refine z_iast (pc := 117) hE hb.2.2.2.2.2.2.2.2.2.1 dX3_become_117 ?_
      refine z_aload_n (pc := 118) hE 0 0 rfl rfl dX3_become_118 ?_
      refine z_getr (pc := 119) hE fk_RX3_41 hb.1 rfl dX3_become_119 ?_
      refine z_iload_n (pc := 122) hE 2 2 rfl rfl dX3_become_122 ?_
      refine z_aload_n (pc := 123) hE 1 1 rfl rfl dX3_become_123 ?_
      refine z_getr (pc := 124) hE fk_RX3_41 hc.1 rfl dX3_become_124 ?_
      refine z_iload_n (pc := 127) hE 2 2 rfl rfl dX3_become_127 ?_
      refine z_iald (pc := 128) hE hc.2.2.2.2.2.2.2.2.2.2.1 dX3_become_128 (fun x16 => ?_)
      refine z_iast (pc := 129) hE hb.2.2.2.2.2.2.2.2.2.2.1 dX3_become_129 ?_
      refine z_aload_n (pc := 130) hE 0 0 rfl rfl dX3_become_130 ?_
      refine z_getr (pc := 131) hE fk_RX3_44 hb.1 rfl dX3_become_131 ?_
      refine z_iload_n (pc := 134) hE 2 2 rfl rfl dX3_become_134 ?_
      refine z_aload_n (pc := 135) hE 1 1 rfl rfl dX3_become_135 ?_
      refine z_getr (pc := 136) hE fk_RX3_44 hc.1 rfl dX3_become_136 ?_
      refine z_iload_n (pc := 139) hE 2 2 rfl rfl dX3_become_139 ?_
      refine z_iald (pc := 140) hE hc.2.2.2.2.2.2.2.2.2.2.2 dX3_become_140 (fun x17 => ?_)
      refine z_iast (pc := 141) hE hb.2.2.2.2.2.2.2.2.2.2.2 dX3_become_141 ?_
      refine z_iinc (L' := [(2, .int (v4 + (1 : Int32))), (0, .ref (ad b)), (1, .ref (ad c))]) (pc := 142) hE 2 rfl (zinc q_iconst_1) (by decide) rfl dX3_become_142 ?_
      refine z_goto (pc := 145) hE 26 rfl dX3_become_145 ?_
      exact z_sub [1, 2, 0] rfl (hrc6 (v4 + (1 : Int32)))
  · exact z_return (pc := 148) hE hr dX3_become_148
set_option maxRecDepth 100000 in
set_option maxHeartbeats 4000000 in
theorem c_X3_pack {l : Launch} {ad : Nat → Nat} {ca : FieldType → ClassId} {D : va_G} {tt : Nat → Nat} (b : Nat) (hb : zfk b) (r n : Nat) (hr0 : layX[r]? = some (.inr (.int, n))) (a2 : Int32) : zC l yX3_pack cX3_pack 5 none 0 layX ad ca D (xtX ad tt) [.ref (ad b), .ref (ad r), .int a2] zvn (p_X3_pack b r n a2) := by
  refine z_enter (by decide) (Nat.le_of_ble_eq_true rfl) (fun E hE hl0 hcD hr => ?_)
  have hE : zok layX ad (xtX ad tt) E cX3_pack 5 RX3 0 := hE
  show Z layX ad E 5 (zFin layX ad E zvn) 0 [(0, .ref (ad b)), (1, .ref (ad r)), (2, .int a2)] [] (p_X3_pack b r n a2)
  unfold p_X3_pack
  refine z_iload_n (pc := 0) hE 2 2 rfl rfl dX3_pack_0 ?_
  refine z_if_lt (pc := 1) hE 13 rfl dX3_pack_1 ?_ ?_
  · exact z_return (pc := 13) hE hr dX3_pack_13
  · refine z_iload_n (pc := 4) hE 2 2 rfl rfl dX3_pack_4 ?_
    refine z_aload_n (pc := 5) hE 1 1 rfl rfl dX3_pack_5 ?_
    refine z_aleni (pc := 6) hE hr0 rfl dX3_pack_6 ?_
    refine z_bipush (pc := 7) hE dX3_pack_7 q_bipush_43 ?_
    refine z_isub (pc := 9) hE dX3_pack_9 ?_
    refine z_icmp_le (pc := 10) hE 14 rfl dX3_pack_10 ?_ ?_
    · refine z_iload_n (pc := 14) hE 2 2 rfl rfl dX3_pack_14 ?_
      refine z_istore_n (L' := [(3, .int a2), (0, .ref (ad b)), (1, .ref (ad r)), (2, .int a2)]) (pc := 15) hE 3 rfl (by decide) rfl dX3_pack_15 ?_
      refine z_iconst (pc := 16) hE dX3_pack_16 q_iconst_0 ?_
      refine z_istore (L' := [(4, .int ((0 : Int32))), (3, .int a2), (0, .ref (ad b)), (1, .ref (ad r)), (2, .int a2)]) (pc := 17) hE (by decide) rfl dX3_pack_17 ?_
      refine z_sub (L' := [(0, .ref (ad b)), (1, .ref (ad r)), (3, .int a2), (4, .int ((0 : Int32)))]) [2, 3, 1, 0] rfl ?_
      refine z_loop (V := (Int32 × Int32)) (X := Int32) (hd := 19) (ex := 118) (Lh := fun v1 => [(0, .ref (ad b)), (1, .ref (ad r)), (3, .int v1.1), (4, .int v1.2)]) (Lx := fun e4 => [(0, .ref (ad b)), (1, .ref (ad r)), (3, .int e4)]) (fun rc3 k2 hrc3 hk2 v1 => ?_) zNF (a2, (0 : Int32)) _ (fun e4 => ?_)
      · unfold p_X3_pack_b19
        refine z_iload (pc := 19) hE 3 rfl dX3_pack_19 ?_
        refine z_bipush (pc := 21) hE dX3_pack_21 q_bipush_6 ?_
        refine z_icmp_ge (pc := 23) hE 118 rfl dX3_pack_23 ?_ ?_
        · exact z_sub [0, 1, 2] rfl (hk2 v1.1)
        · refine z_aload_n (pc := 26) hE 1 1 rfl rfl dX3_pack_26 ?_
          refine z_iload_n (pc := 27) hE 2 3 rfl rfl dX3_pack_27 ?_
          refine z_aload_n (pc := 28) hE 0 0 rfl rfl dX3_pack_28 ?_
          refine z_getr (pc := 29) hE fk_RX3_20 hb.1 rfl dX3_pack_29 ?_
          refine z_iload (pc := 32) hE 3 rfl dX3_pack_32 ?_
          refine z_iald (pc := 34) hE hb.2.2.2.1 dX3_pack_34 (fun x5 => ?_)
          refine z_iast (pc := 35) hE hr0 dX3_pack_35 ?_
          refine z_aload_n (pc := 36) hE 1 1 rfl rfl dX3_pack_36 ?_
          refine z_iload_n (pc := 37) hE 2 3 rfl rfl dX3_pack_37 ?_
          refine z_iconst (pc := 38) hE dX3_pack_38 q_iconst_1 ?_
          refine z_iadd (pc := 39) hE dX3_pack_39 ?_
          refine z_aload_n (pc := 40) hE 0 0 rfl rfl dX3_pack_40 ?_
          refine z_getr (pc := 41) hE fk_RX3_23 hb.1 rfl dX3_pack_41 ?_
          refine z_iload (pc := 44) hE 3 rfl dX3_pack_44 ?_
          refine z_iald (pc := 46) hE hb.2.2.2.2.1 dX3_pack_46 (fun x6 => ?_)
          refine z_iast (pc := 47) hE hr0 dX3_pack_47 ?_
          refine z_aload_n (pc := 48) hE 1 1 rfl rfl dX3_pack_48 ?_
          refine z_iload_n (pc := 49) hE 2 3 rfl rfl dX3_pack_49 ?_
          refine z_iconst (pc := 50) hE dX3_pack_50 q_iconst_2 ?_
          refine z_iadd (pc := 51) hE dX3_pack_51 ?_
          refine z_aload_n (pc := 52) hE 0 0 rfl rfl dX3_pack_52 ?_
          refine z_getr (pc := 53) hE fk_RX3_26 hb.1 rfl dX3_pack_53 ?_
          refine z_iload (pc := 56) hE 3 rfl dX3_pack_56 ?_
          refine z_iald (pc := 58) hE hb.2.2.2.2.2.1 dX3_pack_58 (fun x7 => ?_)
          refine z_iast (pc := 59) hE hr0 dX3_pack_59 ?_
          refine z_aload_n (pc := 60) hE 1 1 rfl rfl dX3_pack_60 ?_
          refine z_iload_n (pc := 61) hE 2 3 rfl rfl dX3_pack_61 ?_
          refine z_iconst (pc := 62) hE dX3_pack_62 q_iconst_3 ?_
          refine z_iadd (pc := 63) hE dX3_pack_63 ?_
          refine z_aload_n (pc := 64) hE 0 0 rfl rfl dX3_pack_64 ?_
          refine z_getr (pc := 65) hE fk_RX3_35 hb.1 rfl dX3_pack_65 ?_
          refine z_iload (pc := 68) hE 3 rfl dX3_pack_68 ?_
          refine z_iald (pc := 70) hE hb.2.2.2.2.2.2.2.2.1 dX3_pack_70 (fun x8 => ?_)
          refine z_iast (pc := 71) hE hr0 dX3_pack_71 ?_
          refine z_aload_n (pc := 72) hE 1 1 rfl rfl dX3_pack_72 ?_
          refine z_iload_n (pc := 73) hE 2 3 rfl rfl dX3_pack_73 ?_
          refine z_iconst (pc := 74) hE dX3_pack_74 q_iconst_4 ?_
          refine z_iadd (pc := 75) hE dX3_pack_75 ?_
          refine z_aload_n (pc := 76) hE 0 0 rfl rfl dX3_pack_76 ?_
          refine z_getr (pc := 77) hE fk_RX3_38 hb.1 rfl dX3_pack_77 ?_
          refine z_iload (pc := 80) hE 3 rfl dX3_pack_80 ?_
          refine z_iald (pc := 82) hE hb.2.2.2.2.2.2.2.2.2.1 dX3_pack_82 (fun x9 => ?_)
          refine z_iast (pc := 83) hE hr0 dX3_pack_83 ?_
          refine z_aload_n (pc := 84) hE 1 1 rfl rfl dX3_pack_84 ?_
          refine z_iload_n (pc := 85) hE 2 3 rfl rfl dX3_pack_85 ?_
          refine z_iconst (pc := 86) hE dX3_pack_86 q_iconst_5 ?_
          refine z_iadd (pc := 87) hE dX3_pack_87 ?_
          refine z_aload_n (pc := 88) hE 0 0 rfl rfl dX3_pack_88 ?_
          refine z_getr (pc := 89) hE fk_RX3_41 hb.1 rfl dX3_pack_89 ?_
          refine z_iload (pc := 92) hE 3 rfl dX3_pack_92 ?_
          refine z_iald (pc := 94) hE hb.2.2.2.2.2.2.2.2.2.2.1 dX3_pack_94 (fun x10 => ?_)
          refine z_iast (pc := 95) hE hr0 dX3_pack_95 ?_
          refine z_aload_n (pc := 96) hE 1 1 rfl rfl dX3_pack_96 ?_
          refine z_iload_n (pc := 97) hE 2 3 rfl rfl dX3_pack_97 ?_
          refine z_bipush (pc := 98) hE dX3_pack_98 q_bipush_6 ?_
          refine z_iadd (pc := 100) hE dX3_pack_100 ?_
          refine z_aload_n (pc := 101) hE 0 0 rfl rfl dX3_pack_101 ?_
          refine z_getr (pc := 102) hE fk_RX3_44 hb.1 rfl dX3_pack_102 ?_
          refine z_iload (pc := 105) hE 3 rfl dX3_pack_105 ?_
          refine z_iald (pc := 107) hE hb.2.2.2.2.2.2.2.2.2.2.2 dX3_pack_107 (fun x11 => ?_)
          refine z_iast (pc := 108) hE hr0 dX3_pack_108 ?_
          refine z_iinc (L' := [(3, .int (v1.1 + (7 : Int32))), (0, .ref (ad b)), (1, .ref (ad r)), (4, .int v1.2)]) (pc := 109) hE 2 rfl (zinc q_iconst_7) (by decide) rfl dX3_pack_109 ?_
          refine z_iinc (L' := [(4, .int (v1.2 + (1 : Int32))), (3, .int (v1.1 + (7 : Int32))), (0, .ref (ad b)), (1, .ref (ad r))]) (pc := 112) hE 3 rfl (zinc q_iconst_1) (by decide) rfl dX3_pack_112 ?_
          refine z_goto (pc := 115) hE 19 rfl dX3_pack_115 ?_
          exact z_sub [2, 3, 1, 0] rfl (hrc3 (v1.1 + (7 : Int32), v1.2 + (1 : Int32)))
      · refine z_aload_n (pc := 118) hE 1 1 rfl rfl dX3_pack_118 ?_
        refine z_iload_n (pc := 119) hE 2 3 rfl rfl dX3_pack_119 ?_
        refine z_aload_n (pc := 120) hE 0 0 rfl rfl dX3_pack_120 ?_
        refine z_geti (pc := 121) hE fk_RX3_63 hb.1 rfl dX3_pack_121 (fun x12 => ?_)
        refine z_iast (pc := 124) hE hr0 dX3_pack_124 ?_
        exact z_return (pc := 125) hE hr dX3_pack_125
    · exact z_return (pc := 13) hE hr dX3_pack_13
